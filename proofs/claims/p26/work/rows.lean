section
/-- a private method of a class that the tables say can be made, by its rows of tables_1 -/
def lw_okq (q : MethodName × Nat) : Prop := (q.1.cls ≠ "java/lang/invoke/MethodHandle" ∧ q.1.cls ≠ "java/lang/invoke/VarHandle") ∧ Cond.instantiable q.1.cls q.2 ∈ tables_1 ∧ Cond.privateMethod q.1 ∈ tables_1 ∧ Cond.instanceMethod q.1 ∈ tables_1
theorem lw_p0 : lw_okq (⟨"FarBanks$History", "dropOldest", "()V"⟩, 2) := ⟨⟨by decide +kernel, by decide +kernel⟩, List.mem_of_getElem? (i := 139) (by decide +kernel), List.mem_of_getElem? (i := 254) (by decide +kernel), List.mem_of_getElem? (i := 255) (by decide +kernel)⟩
theorem lw_p1 : lw_okq (⟨"FarBanks$Machine", "hindranceOf", "(II)I"⟩, 8) := ⟨⟨by decide +kernel, by decide +kernel⟩, List.mem_of_getElem? (i := 21) (by decide +kernel), List.mem_of_getElem? (i := 320) (by decide +kernel), List.mem_of_getElem? (i := 321) (by decide +kernel)⟩
theorem lw_p2 : lw_okq (⟨"FarBanks$Machine", "carryOut", "(III)V"⟩, 8) := ⟨⟨by decide +kernel, by decide +kernel⟩, List.mem_of_getElem? (i := 21) (by decide +kernel), List.mem_of_getElem? (i := 327) (by decide +kernel), List.mem_of_getElem? (i := 328) (by decide +kernel)⟩
theorem lw_p3 : lw_okq (⟨"FarBanks$Machine", "increase", "(I)V"⟩, 8) := ⟨⟨by decide +kernel, by decide +kernel⟩, List.mem_of_getElem? (i := 21) (by decide +kernel), List.mem_of_getElem? (i := 331) (by decide +kernel), List.mem_of_getElem? (i := 332) (by decide +kernel)⟩
theorem lw_p4 : lw_okq (⟨"FarBanks$Machine", "callFrom", "(II)V"⟩, 8) := ⟨⟨by decide +kernel, by decide +kernel⟩, List.mem_of_getElem? (i := 21) (by decide +kernel), List.mem_of_getElem? (i := 348) (by decide +kernel), List.mem_of_getElem? (i := 349) (by decide +kernel)⟩
theorem lw_p5 : lw_okq (⟨"FarBanks$Machine", "comeBack", "()V"⟩, 8) := ⟨⟨by decide +kernel, by decide +kernel⟩, List.mem_of_getElem? (i := 21) (by decide +kernel), List.mem_of_getElem? (i := 358) (by decide +kernel), List.mem_of_getElem? (i := 359) (by decide +kernel)⟩
def lw_privs_1 : List (MethodName × Nat) := [(⟨"FarBanks$History", "dropOldest", "()V"⟩, 2), (⟨"FarBanks$Machine", "hindranceOf", "(II)I"⟩, 8), (⟨"FarBanks$Machine", "carryOut", "(III)V"⟩, 8), (⟨"FarBanks$Machine", "increase", "(I)V"⟩, 8), (⟨"FarBanks$Machine", "callFrom", "(II)V"⟩, 8), (⟨"FarBanks$Machine", "comeBack", "()V"⟩, 8)]
theorem lw_r1 : ∀ q ∈ lw_privs_1, lw_okq q := List.forall_mem_cons.mpr ⟨lw_p0, List.forall_mem_cons.mpr ⟨lw_p1, List.forall_mem_cons.mpr ⟨lw_p2, List.forall_mem_cons.mpr ⟨lw_p3, List.forall_mem_cons.mpr ⟨lw_p4, List.forall_mem_cons.mpr ⟨lw_p5, fun _ h => absurd h List.not_mem_nil⟩⟩⟩⟩⟩⟩
def lw_privs : List (MethodName × Nat) := lw_privs_1
def lw_tbl : List Cond := k2_sels lw_privs ++ tables_1
theorem lw_privs_ok : ∀ q ∈ lw_privs, lw_okq q := lw_r1
end
section
def RX0 : String := "FarBanks$Banks"
def TX0 : u_T := fun k => match k with
  | 0 => ("FarBanks$Banks", "cells", "LFarBanks$Row;", true)
  | 1 => ("FarBanks$Banks", "alone", "LFarBanks$Row;", true)
  | 2 => ("FarBanks$Banks", "shown", "LFarBanks$Row;", true)
  | 3 => ("FarBanks$Banks", "written", "LFarBanks$Row;", true)
  | _ => ("FarBanks$Banks", "refused", "LFarBanks$Row;", true)
def tyX0 : Nat → FieldType := fun k => match k with
  | 0 => .object "FarBanks$Row"
  | 1 => .object "FarBanks$Row"
  | 2 => .object "FarBanks$Row"
  | 3 => .object "FarBanks$Row"
  | _ => .object "FarBanks$Row"
abbrev wsX00 : List Cond := u_ws RX0 TX0 5
theorem nmX0 : ∀ a, a < 5 → ∀ b, b < 5 → a ≠ b → (TX0 a).2.1 ≠ (TX0 b).2.1 := by decide +kernel
theorem tyX0_ok : ∀ k, k < 5 → parseFieldDescriptor (TX0 k).2.2.1 = some (tyX0 k) := by decide +kernel
abbrev cX0_init : ByteArray := prog_2_method_1_code
def yX0_init : MethodName := ⟨RX0, "<init>", "()V"⟩
abbrev cX0_copyFrom : ByteArray := prog_2_method_2_code
def yX0_copyFrom : MethodName := ⟨RX0, "copyFrom", "(LFarBanks$Banks;)V"⟩
abbrev cX0_numberIn : ByteArray := prog_2_method_3_code
def yX0_numberIn : MethodName := ⟨RX0, "numberIn", "(II)I"⟩
abbrev cX0_fill : ByteArray := prog_2_method_4_code
def yX0_fill : MethodName := ⟨RX0, "fill", "(III)V"⟩
abbrev cX0_bankAt : ByteArray := prog_2_method_5_code
def yX0_bankAt : MethodName := ⟨RX0, "bankAt", "(I)I"⟩
abbrev cX0_numberAt : ByteArray := prog_2_method_6_code
def yX0_numberAt : MethodName := ⟨RX0, "numberAt", "(I)I"⟩
abbrev cX0_storeUnlessAlone : ByteArray := prog_2_method_7_code
def yX0_storeUnlessAlone : MethodName := ⟨RX0, "storeUnlessAlone", "(II)Z"⟩
abbrev cX0_isAlone : ByteArray := prog_2_method_8_code
def yX0_isAlone : MethodName := ⟨RX0, "isAlone", "(I)Z"⟩
abbrev cX0_differencesOf : ByteArray := prog_2_method_9_code
def yX0_differencesOf : MethodName := ⟨RX0, "differencesOf", "(II)I"⟩
abbrev cX0_copyCells : ByteArray := prog_2_method_10_code
def yX0_copyCells : MethodName := ⟨RX0, "copyCells", "(II)V"⟩
abbrev cX0_twinOf : ByteArray := prog_2_method_11_code
def yX0_twinOf : MethodName := ⟨RX0, "twinOf", "(I)I"⟩
abbrev cX0_windowsOf : ByteArray := prog_2_method_12_code
def yX0_windowsOf : MethodName := ⟨RX0, "windowsOf", "(I)I"⟩
abbrev cX0_usedCellsOf : ByteArray := prog_2_method_13_code
def yX0_usedCellsOf : MethodName := ⟨RX0, "usedCellsOf", "(I)I"⟩
abbrev cX0_indexOf : ByteArray := prog_2_method_14_code
def yX0_indexOf : MethodName := ⟨RX0, "indexOf", "(II)I"⟩
def RX1 : String := "FarBanks$Code"
def TX1 : u_T := fun k => match k with
  | 0 => ("FarBanks$Code", "orders", "LFarBanks$Row;", true)
  | 1 => ("FarBanks$Code", "size", "I", false)
  | 2 => ("FarBanks$Code", "position", "I", false)
  | _ => ("FarBanks$Code", "isSound", "Z", false)
def tyX1 : Nat → FieldType := fun k => match k with
  | 0 => .object "FarBanks$Row"
  | 1 => .int
  | 2 => .int
  | _ => .boolean
abbrev wsX10 : List Cond := u_ws RX1 TX1 4
theorem nmX1 : ∀ a, a < 4 → ∀ b, b < 4 → a ≠ b → (TX1 a).2.1 ≠ (TX1 b).2.1 := by decide +kernel
theorem tyX1_ok : ∀ k, k < 4 → parseFieldDescriptor (TX1 k).2.2.1 = some (tyX1 k) := by decide +kernel
abbrev cX1_init : ByteArray := prog_3_method_1_code
def yX1_init : MethodName := ⟨RX1, "<init>", "()V"⟩
def RX2 : String := "FarBanks$Frames"
def TX2 : u_T := fun k => match k with
  | 0 => ("FarBanks$Frames", "parts", "LFarBanks$Row;", true)
  | _ => ("FarBanks$Frames", "size", "I", false)
def tyX2 : Nat → FieldType := fun k => match k with
  | 0 => .object "FarBanks$Row"
  | _ => .int
abbrev wsX20 : List Cond := u_ws RX2 TX2 2
theorem nmX2 : ∀ a, a < 2 → ∀ b, b < 2 → a ≠ b → (TX2 a).2.1 ≠ (TX2 b).2.1 := by decide +kernel
theorem tyX2_ok : ∀ k, k < 2 → parseFieldDescriptor (TX2 k).2.2.1 = some (tyX2 k) := by decide +kernel
abbrev cX2_init : ByteArray := prog_4_method_1_code
def yX2_init : MethodName := ⟨RX2, "<init>", "()V"⟩
abbrev cX2_copyFrom : ByteArray := prog_4_method_2_code
def yX2_copyFrom : MethodName := ⟨RX2, "copyFrom", "(LFarBanks$Frames;)V"⟩
abbrev cX2_add : ByteArray := prog_4_method_3_code
def yX2_add : MethodName := ⟨RX2, "add", "(III)V"⟩
abbrev cX2_tell : ByteArray := prog_4_method_4_code
def yX2_tell : MethodName := ⟨RX2, "tell", "(II)I"⟩
abbrev cX2_howManyBackTo : ByteArray := prog_4_method_5_code
def yX2_howManyBackTo : MethodName := ⟨RX2, "howManyBackTo", "(I)I"⟩
def RX3 : String := "FarBanks$History"
def TX3 : u_T := fun k => match k with
  | 0 => ("FarBanks$History", "states", "[LFarBanks$Machine;", true)
  | _ => ("FarBanks$History", "size", "I", false)
def tyX3 : Nat → FieldType := fun k => match k with
  | 0 => .array (.object "FarBanks$Machine")
  | _ => .int
abbrev wsX30 : List Cond := u_ws RX3 TX3 2
theorem nmX3 : ∀ a, a < 2 → ∀ b, b < 2 → a ≠ b → (TX3 a).2.1 ≠ (TX3 b).2.1 := by decide +kernel
theorem tyX3_ok : ∀ k, k < 2 → parseFieldDescriptor (TX3 k).2.2.1 = some (tyX3 k) := by decide +kernel
abbrev cX3_init : ByteArray := prog_5_method_1_code
def yX3_init : MethodName := ⟨RX3, "<init>", "()V"⟩
abbrev cX3_remember : ByteArray := prog_5_method_2_code
def yX3_remember : MethodName := ⟨RX3, "remember", "(LFarBanks$Machine;)V"⟩
abbrev cX3_bringBack : ByteArray := prog_5_method_3_code
def yX3_bringBack : MethodName := ⟨RX3, "bringBack", "(LFarBanks$Machine;)V"⟩
abbrev cX3_dropOldest : ByteArray := prog_5_method_4_code
def yX3_dropOldest : MethodName := ⟨RX3, "dropOldest", "()V"⟩
def RX4 : String := "FarBanks$Machine"
def TX4 : u_T := fun k => match k with
  | 0 => ("FarBanks$Machine", "banks", "LFarBanks$Banks;", true)
  | 1 => ("FarBanks$Machine", "frames", "LFarBanks$Frames;", true)
  | 2 => ("FarBanks$Machine", "trail", "LFarBanks$Trail;", true)
  | 3 => ("FarBanks$Machine", "number", "I", false)
  | 4 => ("FarBanks$Machine", "place", "I", false)
  | 5 => ("FarBanks$Machine", "reason", "I", false)
  | 6 => ("FarBanks$Machine", "strict", "I", false)
  | _ => ("FarBanks$Machine", "calls", "I", false)
def tyX4 : Nat → FieldType := fun k => match k with
  | 0 => .object "FarBanks$Banks"
  | 1 => .object "FarBanks$Frames"
  | 2 => .object "FarBanks$Trail"
  | 3 => .int
  | 4 => .int
  | 5 => .int
  | 6 => .int
  | _ => .int
abbrev wsX40 : List Cond := u_ws RX4 TX4 8
theorem nmX4 : ∀ a, a < 8 → ∀ b, b < 8 → a ≠ b → (TX4 a).2.1 ≠ (TX4 b).2.1 := by decide +kernel
theorem tyX4_ok : ∀ k, k < 8 → parseFieldDescriptor (TX4 k).2.2.1 = some (tyX4 k) := by decide +kernel
abbrev cX4_init : ByteArray := prog_6_method_1_code
def yX4_init : MethodName := ⟨RX4, "<init>", "()V"⟩
abbrev cX4_copyFrom : ByteArray := prog_6_method_2_code
def yX4_copyFrom : MethodName := ⟨RX4, "copyFrom", "(LFarBanks$Machine;)V"⟩
abbrev cX4_startAt : ByteArray := prog_6_method_3_code
def yX4_startAt : MethodName := ⟨RX4, "startAt", "(I)V"⟩
abbrev cX4_takeSteps : ByteArray := prog_6_method_4_code
def yX4_takeSteps : MethodName := ⟨RX4, "takeSteps", "(I)I"⟩
abbrev cX4_step : ByteArray := prog_6_method_5_code
def yX4_step : MethodName := ⟨RX4, "step", "()V"⟩
abbrev cX4_hindranceOf : ByteArray := prog_6_method_6_code
def yX4_hindranceOf : MethodName := ⟨RX4, "hindranceOf", "(II)I"⟩
abbrev cX4_isBeyond : ByteArray := prog_6_method_7_code
def yX4_isBeyond : MethodName := ⟨RX4, "isBeyond", "(II)Z"⟩
abbrev cX4_carryOut : ByteArray := prog_6_method_8_code
def yX4_carryOut : MethodName := ⟨RX4, "carryOut", "(III)V"⟩
abbrev cX4_increase : ByteArray := prog_6_method_9_code
def yX4_increase : MethodName := ⟨RX4, "increase", "(I)V"⟩
abbrev cX4_callFrom : ByteArray := prog_6_method_10_code
def yX4_callFrom : MethodName := ⟨RX4, "callFrom", "(II)V"⟩
abbrev cX4_comeBack : ByteArray := prog_6_method_11_code
def yX4_comeBack : MethodName := ⟨RX4, "comeBack", "()V"⟩
def RX5 : String := "FarBanks$Row"
def TX5 : u_T := fun k => match k with
  | _ => ("FarBanks$Row", "numbers", "[I", true)
def tyX5 : Nat → FieldType := fun k => match k with
  | _ => .array .int
abbrev wsX50 : List Cond := u_ws RX5 TX5 1
theorem nmX5 : ∀ a, a < 1 → ∀ b, b < 1 → a ≠ b → (TX5 a).2.1 ≠ (TX5 b).2.1 := by decide +kernel
theorem tyX5_ok : ∀ k, k < 1 → parseFieldDescriptor (TX5 k).2.2.1 = some (tyX5 k) := by decide +kernel
abbrev cX5_init : ByteArray := prog_7_method_1_code
def yX5_init : MethodName := ⟨RX5, "<init>", "(I)V"⟩
abbrev cX5_read : ByteArray := prog_7_method_2_code
def yX5_read : MethodName := ⟨RX5, "read", "(I)I"⟩
abbrev cX5_write : ByteArray := prog_7_method_3_code
def yX5_write : MethodName := ⟨RX5, "write", "(II)V"⟩
abbrev cX5_sum : ByteArray := prog_7_method_4_code
def yX5_sum : MethodName := ⟨RX5, "sum", "()I"⟩
abbrev cX5_differencesTo : ByteArray := prog_7_method_5_code
def yX5_differencesTo : MethodName := ⟨RX5, "differencesTo", "(LFarBanks$Row;)I"⟩
abbrev cX5_copyFrom : ByteArray := prog_7_method_6_code
def yX5_copyFrom : MethodName := ⟨RX5, "copyFrom", "(LFarBanks$Row;)V"⟩
def RX6 : String := "FarBanks$Text"
def TX6 : u_T := fun k => match k with
  | 0 => ("FarBanks$Text", "characters", "[C", true)
  | _ => ("FarBanks$Text", "length", "I", false)
def tyX6 : Nat → FieldType := fun k => match k with
  | 0 => .array .char
  | _ => .int
abbrev wsX60 : List Cond := u_ws RX6 TX6 2
theorem nmX6 : ∀ a, a < 2 → ∀ b, b < 2 → a ≠ b → (TX6 a).2.1 ≠ (TX6 b).2.1 := by decide +kernel
theorem tyX6_ok : ∀ k, k < 2 → parseFieldDescriptor (TX6 k).2.2.1 = some (tyX6 k) := by decide +kernel
abbrev cX6_init : ByteArray := prog_8_method_1_code
def yX6_init : MethodName := ⟨RX6, "<init>", "()V"⟩
def RX7 : String := "FarBanks$Trail"
def TX7 : u_T := fun k => match k with
  | 0 => ("FarBanks$Trail", "parts", "LFarBanks$Row;", true)
  | _ => ("FarBanks$Trail", "total", "I", false)
def tyX7 : Nat → FieldType := fun k => match k with
  | 0 => .object "FarBanks$Row"
  | _ => .int
abbrev wsX70 : List Cond := u_ws RX7 TX7 2
theorem nmX7 : ∀ a, a < 2 → ∀ b, b < 2 → a ≠ b → (TX7 a).2.1 ≠ (TX7 b).2.1 := by decide +kernel
theorem tyX7_ok : ∀ k, k < 2 → parseFieldDescriptor (TX7 k).2.2.1 = some (tyX7 k) := by decide +kernel
abbrev cX7_init : ByteArray := prog_9_method_1_code
def yX7_init : MethodName := ⟨RX7, "<init>", "()V"⟩
abbrev cX7_copyFrom : ByteArray := prog_9_method_2_code
def yX7_copyFrom : MethodName := ⟨RX7, "copyFrom", "(LFarBanks$Trail;)V"⟩
abbrev cX7_add : ByteArray := prog_9_method_3_code
def yX7_add : MethodName := ⟨RX7, "add", "(III)V"⟩
abbrev cX7_tell : ByteArray := prog_9_method_4_code
def yX7_tell : MethodName := ⟨RX7, "tell", "(II)I"⟩
def RX8 : String := "FarBanks"
def TX8 : u_T := fun k => match k with
  | 0 => ("FarBanks", "now", "LFarBanks$Machine;", true)
  | 1 => ("FarBanks", "trial", "LFarBanks$Machine;", true)
  | 2 => ("FarBanks", "snapshot", "LFarBanks$Machine;", true)
  | 3 => ("FarBanks", "history", "LFarBanks$History;", true)
  | 4 => ("FarBanks", "text", "LFarBanks$Text;", true)
  | 5 => ("FarBanks", "code", "LFarBanks$Code;", true)
  | _ => ("FarBanks", "hasSnapshot", "Z", false)
def tyX8 : Nat → FieldType := fun k => match k with
  | 0 => .object "FarBanks$Machine"
  | 1 => .object "FarBanks$Machine"
  | 2 => .object "FarBanks$Machine"
  | 3 => .object "FarBanks$History"
  | 4 => .object "FarBanks$Text"
  | 5 => .object "FarBanks$Code"
  | _ => .boolean
abbrev wsX80 : List Cond := u_ws RX8 TX8 7
theorem nmX8 : ∀ a, a < 7 → ∀ b, b < 7 → a ≠ b → (TX8 a).2.1 ≠ (TX8 b).2.1 := by decide +kernel
theorem tyX8_ok : ∀ k, k < 7 → parseFieldDescriptor (TX8 k).2.2.1 = some (tyX8 k) := by decide +kernel
abbrev cX8_init : ByteArray := prog_1_method_1_code
def yX8_init : MethodName := ⟨RX8, "<init>", "()V"⟩
abbrev cX8_put : ByteArray := prog_1_method_2_code
def yX8_put : MethodName := ⟨RX8, "put", "(III)I"⟩
abbrev cX8_lock : ByteArray := prog_1_method_3_code
def yX8_lock : MethodName := ⟨RX8, "lock", "(IZ)I"⟩
abbrev cX8_show : ByteArray := prog_1_method_4_code
def yX8_show : MethodName := ⟨RX8, "show", "(II)I"⟩
abbrev cX8_copyBank : ByteArray := prog_1_method_5_code
def yX8_copyBank : MethodName := ⟨RX8, "copyBank", "(II)I"⟩
abbrev cX8_set : ByteArray := prog_1_method_6_code
def yX8_set : MethodName := ⟨RX8, "set", "(I)I"⟩
abbrev cX8_begin : ByteArray := prog_1_method_7_code
def yX8_begin : MethodName := ⟨RX8, "begin", "(I)I"⟩
abbrev cX8_run : ByteArray := prog_1_method_8_code
def yX8_run : MethodName := ⟨RX8, "run", "(I)I"⟩
abbrev cX8_undo : ByteArray := prog_1_method_12_code
def yX8_undo : MethodName := ⟨RX8, "undo", "()I"⟩
abbrev cX8_restore : ByteArray := prog_1_method_14_code
def yX8_restore : MethodName := ⟨RX8, "restore", "()I"⟩
abbrev cX8_cell : ByteArray := prog_1_method_15_code
def yX8_cell : MethodName := ⟨RX8, "cell", "(II)I"⟩
abbrev cX8_address : ByteArray := prog_1_method_16_code
def yX8_address : MethodName := ⟨RX8, "address", "(II)I"⟩
abbrev cX8_bank : ByteArray := prog_1_method_17_code
def yX8_bank : MethodName := ⟨RX8, "bank", "(II)I"⟩
abbrev cX8_window : ByteArray := prog_1_method_18_code
def yX8_window : MethodName := ⟨RX8, "window", "(I)I"⟩
abbrev cX8_frame : ByteArray := prog_1_method_19_code
def yX8_frame : MethodName := ⟨RX8, "frame", "(II)I"⟩
abbrev cX8_latest : ByteArray := prog_1_method_20_code
def yX8_latest : MethodName := ⟨RX8, "latest", "(II)I"⟩
abbrev cX8_next : ByteArray := prog_1_method_21_code
def yX8_next : MethodName := ⟨RX8, "next", "(I)I"⟩
abbrev cX8_ifRun : ByteArray := prog_1_method_22_code
def yX8_ifRun : MethodName := ⟨RX8, "ifRun", "(II)I"⟩
abbrev cX8_backIn : ByteArray := prog_1_method_23_code
def yX8_backIn : MethodName := ⟨RX8, "backIn", "()I"⟩
abbrev cX8_count : ByteArray := prog_1_method_24_code
def yX8_count : MethodName := ⟨RX8, "count", "(I)I"⟩
abbrev cX8_isBelow : ByteArray := prog_1_method_25_code
def yX8_isBelow : MethodName := ⟨RX8, "isBelow", "(II)Z"⟩
abbrev cX8_isStepsOfRun : ByteArray := prog_1_method_26_code
def yX8_isStepsOfRun : MethodName := ⟨RX8, "isStepsOfRun", "(I)Z"⟩
def RX9 : String := "FarBanksModel"
def TX9 : u_T := fun k => match k with
  | _ => ("", "", "", false)
def tyX9 : Nat → FieldType := fun k => match k with
  | _ => .int
abbrev wsX90 : List Cond := u_ws RX9 TX9 0
theorem nmX9 : ∀ a, a < 0 → ∀ b, b < 0 → a ≠ b → (TX9 a).2.1 ≠ (TX9 b).2.1 := by decide +kernel
theorem tyX9_ok : ∀ k, k < 0 → parseFieldDescriptor (TX9 k).2.2.1 = some (tyX9 k) := by decide +kernel
def RJ9 : String := "java/lang/Math"
def TJ9 : u_T := fun k => match k with
  | _ => ("", "", "", false)
def tyJ9 : Nat → FieldType := fun k => match k with
  | _ => .int
abbrev wsJ90 : List Cond := u_ws RJ9 TJ9 0
theorem nmJ9 : ∀ a, a < 0 → ∀ b, b < 0 → a ≠ b → (TJ9 a).2.1 ≠ (TJ9 b).2.1 := by decide +kernel
theorem tyJ9_ok : ∀ k, k < 0 → parseFieldDescriptor (TJ9 k).2.2.1 = some (tyJ9 k) := by decide +kernel
abbrev cJ9_max_7cf53 : ByteArray := prog_12_method_65_code
def yJ9_max_7cf53 : MethodName := ⟨RJ9, "max", "(II)I"⟩
abbrev cJ9_min_7cf53 : ByteArray := prog_12_method_69_code
def yJ9_min_7cf53 : MethodName := ⟨RJ9, "min", "(II)I"⟩
def RJ10 : String := "java/lang/System"
def TJ10 : u_T := fun k => match k with
  | _ => ("", "", "", false)
def tyJ10 : Nat → FieldType := fun k => match k with
  | _ => .int
abbrev wsJ100 : List Cond := u_ws RJ10 TJ10 0
theorem nmJ10 : ∀ a, a < 0 → ∀ b, b < 0 → a ≠ b → (TJ10 a).2.1 ≠ (TJ10 b).2.1 := by decide +kernel
theorem tyJ10_ok : ∀ k, k < 0 → parseFieldDescriptor (TJ10 k).2.2.1 = some (tyJ10 k) := by decide +kernel
def RL : String := "FarBanksLaw"
abbrev cL_cell1 : ByteArray := method_2_code
def yL_cell1 : MethodName := ⟨RL, "cell1", "([II)I"⟩
abbrev cL_low : ByteArray := method_3_code
def yL_low : MethodName := ⟨RL, "low", "(II)I"⟩
abbrev cL_cell : ByteArray := method_4_code
def yL_cell : MethodName := ⟨RL, "cell", "([I[III)I"⟩
abbrev cL_put : ByteArray := method_5_code
def yL_put : MethodName := ⟨RL, "put", "([I[IIII)V"⟩
abbrev cL_at : ByteArray := method_6_code
def yL_at : MethodName := ⟨RL, "at", "([I[I[II)I"⟩
abbrev cL_step : ByteArray := method_7_code
def yL_step : MethodName := ⟨RL, "step", "([I[I[I[I)V"⟩
abbrev cL_copy : ByteArray := method_8_code
def yL_copy : MethodName := ⟨RL, "copy", "([I[I)V"⟩
abbrev cL_run : ByteArray := method_9_code
def yL_run : MethodName := ⟨RL, "run", "(I[I[I[I[I)I"⟩
abbrev cL_isAhead : ByteArray := method_10_code
def yL_isAhead : MethodName := ⟨RL, "isAhead", "(LFarBanks;I[I[I[I[I)Z"⟩
abbrev cL_isSo : ByteArray := method_11_code
def yL_isSo : MethodName := ⟨RL, "isSo", "(LFarBanks;[I[I[I[I)Z"⟩
abbrev cL_puts : ByteArray := method_12_code
def yL_puts : MethodName := ⟨RL, "puts", "(LFarBanks;II[I[I[I)Z"⟩
abbrev cL_others : ByteArray := method_13_code
def yL_others : MethodName := ⟨RL, "others", "(LFarBanks;II[I[I[I[I)Z"⟩
abbrev cL_law : ByteArray := code
def yL_law : MethodName := ⟨RL, "law", "([I)Z"⟩
abbrev vwCl : List vw_C := [(RX0, TX0, 5), (RX1, TX1, 4), (RX2, TX2, 2), (RX3, TX3, 2), (RX4, TX4, 8), (RX5, TX5, 1), (RX6, TX6, 2), (RX7, TX7, 2), (RX8, TX8, 7)]
end
section
/-! ===== the words: those of the tables that stay, by their places ===== -/
def wA : List Cond := lw_tbl.filter goodWord
theorem in_wA {w : Cond} (h : w ∈ lw_tbl) (g : goodWord w = true) : w ∈ wA := List.mem_filter.mpr ⟨h, g⟩
theorem wA_tbl : ∀ w ∈ wA, w ∈ lw_tbl := fun _ h => (List.mem_filter.mp h).1
theorem wA_good : GoodIn wA wA := fun w h => ⟨h, good_of_word (List.mem_filter.mp h).2⟩
theorem tb1 {w : Cond} (i : Nat) (h : tables_1_1[i]? = some w) : w ∈ lw_tbl := List.mem_append_right _ (List.mem_append_left _ (List.mem_of_getElem? h))
theorem tb2 {w : Cond} (i : Nat) (h : tables_1_2[i]? = some w) : w ∈ lw_tbl := List.mem_append_right _ (List.mem_append_right _ (List.mem_append_left _ (List.mem_of_getElem? h)))
theorem tb3 {w : Cond} (i : Nat) (h : tables_1_3[i]? = some w) : w ∈ lw_tbl := List.mem_append_right _ (List.mem_append_right _ (List.mem_append_right _ (List.mem_of_getElem? h)))
theorem tbp {q : MethodName × Nat} (h : q ∈ lw_privs) : Cond.selects q.1.cls q.1 q.1 ∈ lw_tbl := List.mem_append_left _ (List.mem_map.mpr ⟨q, h, rfl⟩)
theorem tp1 {q : MethodName × Nat} (i : Nat) (h : lw_privs_1[i]? = some q) : q ∈ lw_privs := List.mem_of_getElem? h
theorem in_L : (Cond.initialized RL) ∈ wA := in_wA (tb1 0 rfl) rfl
theorem in_X8 : (Cond.initialized RX8) ∈ wA := in_wA (tb1 1 rfl) rfl
theorem in_X4 : (Cond.initialized RX4) ∈ wA := in_wA (tb1 2 rfl) rfl
theorem in_X0 : (Cond.initialized RX0) ∈ wA := in_wA (tb1 3 rfl) rfl
theorem in_X5 : (Cond.initialized RX5) ∈ wA := in_wA (tb1 4 rfl) rfl
theorem in_J9 : (Cond.initialized RJ9) ∈ wA := in_wA (tb1 5 rfl) rfl
theorem in_X2 : (Cond.initialized RX2) ∈ wA := in_wA (tb1 6 rfl) rfl
theorem in_X7 : (Cond.initialized RX7) ∈ wA := in_wA (tb1 7 rfl) rfl
theorem in_X3 : (Cond.initialized RX3) ∈ wA := in_wA (tb1 8 rfl) rfl
theorem in_X6 : (Cond.initialized RX6) ∈ wA := in_wA (tb1 9 rfl) rfl
theorem in_X1 : (Cond.initialized RX1) ∈ wA := in_wA (tb1 10 rfl) rfl
theorem in_J10 : (Cond.initialized RJ10) ∈ wA := in_wA (tb1 11 rfl) rfl
theorem cl_L_32 : (Cond.classLink RL 32 RX8) ∈ wA := in_wA (tb1 12 rfl) rfl
theorem ib_X8 : (Cond.instantiable RX8 7) ∈ wA := in_wA (tb1 13 rfl) rfl
theorem ml_L_90 : (Cond.methodLink RL 90 yX8_init) ∈ wA := in_wA (tb1 14 rfl) rfl
theorem im_X8_init : (Cond.instanceMethod yX8_init) ∈ wA := in_wA (tb1 15 rfl) rfl
theorem co_X8_init : (Cond.code yX8_init cX8_init 1 none) ∈ wA := in_wA (tb1 16 rfl) rfl
theorem ml_X8_1 : (Cond.methodLink RX8 1 objectInit) ∈ wA := in_wA (tb1 17 rfl) rfl
theorem im_obj : (Cond.instanceMethod objectInit) ∈ wA := in_wA (tb1 18 rfl) rfl
theorem co_obj : (Cond.code objectInit ⟨#[0xb1]⟩ 1 none) ∈ wA := in_wA (tb1 19 rfl) rfl
theorem cl_X8_7 : (Cond.classLink RX8 7 RX4) ∈ wA := in_wA (tb1 20 rfl) rfl
theorem ib_X4 : (Cond.instantiable RX4 8) ∈ wA := in_wA (tb1 21 rfl) rfl
theorem im_X4_init : (Cond.instanceMethod yX4_init) ∈ wA := in_wA (tb1 23 rfl) rfl
theorem co_X4_init : (Cond.code yX4_init cX4_init 1 none) ∈ wA := in_wA (tb1 24 rfl) rfl
theorem ml_X4_3 : (Cond.methodLink RX4 3 objectInit) ∈ wA := in_wA (tb1 25 rfl) rfl
theorem cl_X4_9 : (Cond.classLink RX4 9 RX0) ∈ wA := in_wA (tb1 26 rfl) rfl
theorem ib_X0 : (Cond.instantiable RX0 5) ∈ wA := in_wA (tb1 27 rfl) rfl
theorem ml_X4_11 : (Cond.methodLink RX4 11 yX0_init) ∈ wA := in_wA (tb1 28 rfl) rfl
theorem im_X0_init : (Cond.instanceMethod yX0_init) ∈ wA := in_wA (tb1 29 rfl) rfl
theorem co_X0_init : (Cond.code yX0_init cX0_init 2 none) ∈ wA := in_wA (tb1 30 rfl) rfl
theorem ml_X0_3 : (Cond.methodLink RX0 3 objectInit) ∈ wA := in_wA (tb1 31 rfl) rfl
theorem cl_X0_9 : (Cond.classLink RX0 9 RX5) ∈ wA := in_wA (tb1 32 rfl) rfl
theorem ib_X5 : (Cond.instantiable RX5 1) ∈ wA := in_wA (tb1 33 rfl) rfl
theorem ml_X0_11 : (Cond.methodLink RX0 11 yX5_init) ∈ wA := in_wA (tb1 34 rfl) rfl
theorem im_X5_init : (Cond.instanceMethod yX5_init) ∈ wA := in_wA (tb1 35 rfl) rfl
theorem co_X5_init : (Cond.code yX5_init cX5_init 2 none) ∈ wA := in_wA (tb1 36 rfl) rfl
theorem ml_X5_1 : (Cond.methodLink RX5 1 objectInit) ∈ wA := in_wA (tb1 37 rfl) rfl
theorem ml_X5_7 : (Cond.methodLink RX5 7 Lib.Math.max.name) ∈ wA := in_wA (tb1 38 rfl) rfl
theorem st_max : (Cond.static Lib.Math.max.name) ∈ wA := in_wA (tb1 39 rfl) rfl
theorem co_max : (Cond.code Lib.Math.max.name Lib.Math.max.code 2 (some .int)) ∈ wA := in_wA (tb1 40 rfl) rfl
theorem fl_X5_13 : (Cond.fieldLink RX5 13 "FarBanks$Row" "numbers" "[I") ∈ wA := in_wA (tb1 41 rfl) rfl
theorem ac_int : (Cond.arrayClass .int) ∈ wA := in_wA (tb1 45 rfl) rfl
theorem ml_X0_32 : (Cond.methodLink RX0 32 yX5_write) ∈ wA := in_wA (tb1 46 rfl) rfl
theorem im_X5_write : (Cond.instanceMethod yX5_write) ∈ wA := in_wA (tb1 47 rfl) rfl
theorem se_X5_write : (Cond.selects RX5 yX5_write yX5_write) ∈ wA := in_wA (tb1 48 rfl) rfl
theorem co_X5_write : (Cond.code yX5_write cX5_write 3 none) ∈ wA := in_wA (tb1 49 rfl) rfl
theorem fl_X0_14 : (Cond.fieldLink RX0 14 "FarBanks$Banks" "cells" "LFarBanks$Row;") ∈ wA := in_wA (tb1 50 rfl) rfl
theorem fl_X0_20 : (Cond.fieldLink RX0 20 "FarBanks$Banks" "alone" "LFarBanks$Row;") ∈ wA := in_wA (tb1 52 rfl) rfl
theorem fl_X0_23 : (Cond.fieldLink RX0 23 "FarBanks$Banks" "shown" "LFarBanks$Row;") ∈ wA := in_wA (tb1 54 rfl) rfl
theorem fl_X0_26 : (Cond.fieldLink RX0 26 "FarBanks$Banks" "written" "LFarBanks$Row;") ∈ wA := in_wA (tb1 57 rfl) rfl
theorem fl_X0_29 : (Cond.fieldLink RX0 29 "FarBanks$Banks" "refused" "LFarBanks$Row;") ∈ wA := in_wA (tb1 59 rfl) rfl
theorem cl_X4_18 : (Cond.classLink RX4 18 RX2) ∈ wA := in_wA (tb1 72 rfl) rfl
theorem ib_X2 : (Cond.instantiable RX2 2) ∈ wA := in_wA (tb1 73 rfl) rfl
theorem im_X2_init : (Cond.instanceMethod yX2_init) ∈ wA := in_wA (tb1 75 rfl) rfl
theorem co_X2_init : (Cond.code yX2_init cX2_init 1 none) ∈ wA := in_wA (tb1 76 rfl) rfl
theorem ml_X2_3 : (Cond.methodLink RX2 3 objectInit) ∈ wA := in_wA (tb1 77 rfl) rfl
theorem cl_X2_9 : (Cond.classLink RX2 9 RX5) ∈ wA := in_wA (tb1 78 rfl) rfl
theorem ml_X2_13 : (Cond.methodLink RX2 13 yX5_init) ∈ wA := in_wA (tb1 79 rfl) rfl
theorem fl_X2_16 : (Cond.fieldLink RX2 16 "FarBanks$Frames" "parts" "LFarBanks$Row;") ∈ wA := in_wA (tb1 80 rfl) rfl
theorem fl_X2_24 : (Cond.fieldLink RX2 24 "FarBanks$Frames" "size" "I") ∈ wA := in_wA (tb1 81 rfl) rfl
theorem cl_X4_25 : (Cond.classLink RX4 25 RX7) ∈ wA := in_wA (tb1 89 rfl) rfl
theorem ib_X7 : (Cond.instantiable RX7 2) ∈ wA := in_wA (tb1 90 rfl) rfl
theorem im_X7_init : (Cond.instanceMethod yX7_init) ∈ wA := in_wA (tb1 92 rfl) rfl
theorem co_X7_init : (Cond.code yX7_init cX7_init 1 none) ∈ wA := in_wA (tb1 93 rfl) rfl
theorem ml_X7_3 : (Cond.methodLink RX7 3 objectInit) ∈ wA := in_wA (tb1 94 rfl) rfl
theorem cl_X7_9 : (Cond.classLink RX7 9 RX5) ∈ wA := in_wA (tb1 95 rfl) rfl
theorem ml_X7_13 : (Cond.methodLink RX7 13 yX5_init) ∈ wA := in_wA (tb1 96 rfl) rfl
theorem fl_X7_16 : (Cond.fieldLink RX7 16 "FarBanks$Trail" "parts" "LFarBanks$Row;") ∈ wA := in_wA (tb1 97 rfl) rfl
theorem fl_X7_24 : (Cond.fieldLink RX7 24 "FarBanks$Trail" "total" "I") ∈ wA := in_wA (tb1 98 rfl) rfl
theorem fl_X4_12 : (Cond.fieldLink RX4 12 "FarBanks$Machine" "banks" "LFarBanks$Banks;") ∈ wA := in_wA (tb1 105 rfl) rfl
theorem fl_X4_21 : (Cond.fieldLink RX4 21 "FarBanks$Machine" "frames" "LFarBanks$Frames;") ∈ wA := in_wA (tb1 107 rfl) rfl
theorem fl_X4_28 : (Cond.fieldLink RX4 28 "FarBanks$Machine" "trail" "LFarBanks$Trail;") ∈ wA := in_wA (tb1 109 rfl) rfl
theorem fl_X4_42 : (Cond.fieldLink RX4 42 "FarBanks$Machine" "number" "I") ∈ wA := in_wA (tb1 111 rfl) rfl
theorem fl_X4_46 : (Cond.fieldLink RX4 46 "FarBanks$Machine" "place" "I") ∈ wA := in_wA (tb1 113 rfl) rfl
theorem fl_X4_49 : (Cond.fieldLink RX4 49 "FarBanks$Machine" "reason" "I") ∈ wA := in_wA (tb1 115 rfl) rfl
theorem fl_X4_52 : (Cond.fieldLink RX4 52 "FarBanks$Machine" "strict" "I") ∈ wA := in_wA (tb1 117 rfl) rfl
theorem fl_X4_55 : (Cond.fieldLink RX4 55 "FarBanks$Machine" "calls" "I") ∈ wA := in_wA (tb1 119 rfl) rfl
theorem cl_X8_22 : (Cond.classLink RX8 22 RX3) ∈ wA := in_wA (tb1 138 rfl) rfl
theorem ib_X3 : (Cond.instantiable RX3 2) ∈ wA := in_wA (tb1 139 rfl) rfl
theorem ml_X8_24 : (Cond.methodLink RX8 24 yX3_init) ∈ wA := in_wA (tb1 140 rfl) rfl
theorem im_X3_init : (Cond.instanceMethod yX3_init) ∈ wA := in_wA (tb1 141 rfl) rfl
theorem co_X3_init : (Cond.code yX3_init cX3_init 2 none) ∈ wA := in_wA (tb1 142 rfl) rfl
theorem ml_X3_3 : (Cond.methodLink RX3 3 objectInit) ∈ wA := in_wA (tb1 143 rfl) rfl
theorem cl_X3_9 : (Cond.classLink RX3 9 RX4) ∈ wA := in_wA (tb1 144 rfl) rfl
theorem fl_X3_11 : (Cond.fieldLink RX3 11 "FarBanks$History" "states" "[LFarBanks$Machine;") ∈ wA := in_wA (tb1 147 rfl) rfl
theorem fl_X3_18 : (Cond.fieldLink RX3 18 "FarBanks$History" "size" "I") ∈ wA := in_wA (tb1 148 rfl) rfl
theorem cl_X8_29 : (Cond.classLink RX8 29 RX6) ∈ wA := in_wA (tb1 155 rfl) rfl
theorem ib_X6 : (Cond.instantiable RX6 2) ∈ wA := in_wA (tb1 156 rfl) rfl
theorem im_X6_init : (Cond.instanceMethod yX6_init) ∈ wA := in_wA (tb1 158 rfl) rfl
theorem co_X6_init : (Cond.code yX6_init cX6_init 1 none) ∈ wA := in_wA (tb1 159 rfl) rfl
theorem ml_X6_3 : (Cond.methodLink RX6 3 objectInit) ∈ wA := in_wA (tb1 160 rfl) rfl
theorem fl_X6_9 : (Cond.fieldLink RX6 9 "FarBanks$Text" "characters" "[C") ∈ wA := in_wA (tb1 161 rfl) rfl
theorem ac_char : (Cond.arrayClass .char) ∈ wA := in_wA (tb1 168 rfl) rfl
theorem cl_X8_36 : (Cond.classLink RX8 36 RX1) ∈ wA := in_wA (tb1 169 rfl) rfl
theorem ib_X1 : (Cond.instantiable RX1 4) ∈ wA := in_wA (tb1 170 rfl) rfl
theorem im_X1_init : (Cond.instanceMethod yX1_init) ∈ wA := in_wA (tb1 172 rfl) rfl
theorem co_X1_init : (Cond.code yX1_init cX1_init 1 none) ∈ wA := in_wA (tb1 173 rfl) rfl
theorem ml_X1_3 : (Cond.methodLink RX1 3 objectInit) ∈ wA := in_wA (tb1 174 rfl) rfl
theorem cl_X1_9 : (Cond.classLink RX1 9 RX5) ∈ wA := in_wA (tb1 175 rfl) rfl
theorem ml_X1_11 : (Cond.methodLink RX1 11 yX5_init) ∈ wA := in_wA (tb1 176 rfl) rfl
theorem fl_X1_14 : (Cond.fieldLink RX1 14 "FarBanks$Code" "orders" "LFarBanks$Row;") ∈ wA := in_wA (tb1 177 rfl) rfl
theorem fl_X8_10 : (Cond.fieldLink RX8 10 "FarBanks" "now" "LFarBanks$Machine;") ∈ wA := in_wA (tb1 187 rfl) rfl
theorem fl_X8_16 : (Cond.fieldLink RX8 16 "FarBanks" "trial" "LFarBanks$Machine;") ∈ wA := in_wA (tb1 188 rfl) rfl
theorem fl_X8_19 : (Cond.fieldLink RX8 19 "FarBanks" "snapshot" "LFarBanks$Machine;") ∈ wA := in_wA (tb1 189 rfl) rfl
theorem fl_X8_25 : (Cond.fieldLink RX8 25 "FarBanks" "history" "LFarBanks$History;") ∈ wA := in_wA (tb1 190 rfl) rfl
theorem fl_X8_32 : (Cond.fieldLink RX8 32 "FarBanks" "text" "LFarBanks$Text;") ∈ wA := in_wA (tb1 191 rfl) rfl
theorem fl_X8_39 : (Cond.fieldLink RX8 39 "FarBanks" "code" "LFarBanks$Code;") ∈ wA := in_wA (tb1 192 rfl) rfl
theorem fl_X8_161 : (Cond.fieldLink RX8 161 "FarBanks" "hasSnapshot" "Z") ∈ wA := in_wA (tb1 193 rfl) rfl
theorem ml_L_99 : (Cond.methodLink RL 99 yX8_undo) ∈ wA := in_wA (tb1 209 rfl) rfl
theorem im_X8_undo : (Cond.instanceMethod yX8_undo) ∈ wA := in_wA (tb1 210 rfl) rfl
theorem se_X8_undo : (Cond.selects RX8 yX8_undo yX8_undo) ∈ wA := in_wA (tb1 211 rfl) rfl
theorem co_X8_undo : (Cond.code yX8_undo cX8_undo 1 (some .int)) ∈ wA := in_wA (tb1 212 rfl) rfl
theorem ml_X8_155 : (Cond.methodLink RX8 155 yX3_bringBack) ∈ wA := in_wA (tb1 213 rfl) rfl
theorem im_X3_bringBack : (Cond.instanceMethod yX3_bringBack) ∈ wA := in_wA (tb1 214 rfl) rfl
theorem se_X3_bringBack : (Cond.selects RX3 yX3_bringBack yX3_bringBack) ∈ wA := in_wA (tb1 215 rfl) rfl
theorem co_X3_bringBack : (Cond.code yX3_bringBack cX3_bringBack 2 none) ∈ wA := in_wA (tb1 216 rfl) rfl
theorem ml_X3_25 : (Cond.methodLink RX3 25 yX4_copyFrom) ∈ wA := in_wA (tb1 217 rfl) rfl
theorem im_X4_copyFrom : (Cond.instanceMethod yX4_copyFrom) ∈ wA := in_wA (tb1 218 rfl) rfl
theorem se_X4_copyFrom : (Cond.selects RX4 yX4_copyFrom yX4_copyFrom) ∈ wA := in_wA (tb1 219 rfl) rfl
theorem co_X4_copyFrom : (Cond.code yX4_copyFrom cX4_copyFrom 2 none) ∈ wA := in_wA (tb1 220 rfl) rfl
theorem ml_X4_32 : (Cond.methodLink RX4 32 yX0_copyFrom) ∈ wA := in_wA (tb1 221 rfl) rfl
theorem im_X0_copyFrom : (Cond.instanceMethod yX0_copyFrom) ∈ wA := in_wA (tb1 222 rfl) rfl
theorem se_X0_copyFrom : (Cond.selects RX0 yX0_copyFrom yX0_copyFrom) ∈ wA := in_wA (tb1 223 rfl) rfl
theorem co_X0_copyFrom : (Cond.code yX0_copyFrom cX0_copyFrom 2 none) ∈ wA := in_wA (tb1 224 rfl) rfl
theorem ml_X0_36 : (Cond.methodLink RX0 36 yX5_copyFrom) ∈ wA := in_wA (tb1 225 rfl) rfl
theorem im_X5_copyFrom : (Cond.instanceMethod yX5_copyFrom) ∈ wA := in_wA (tb1 226 rfl) rfl
theorem se_X5_copyFrom : (Cond.selects RX5 yX5_copyFrom yX5_copyFrom) ∈ wA := in_wA (tb1 227 rfl) rfl
theorem co_X5_copyFrom : (Cond.code yX5_copyFrom cX5_copyFrom 2 none) ∈ wA := in_wA (tb1 228 rfl) rfl
theorem ml_X5_23 : (Cond.methodLink RX5 23 Lib.Math.min.name) ∈ wA := in_wA (tb1 229 rfl) rfl
theorem st_min : (Cond.static Lib.Math.min.name) ∈ wA := in_wA (tb1 230 rfl) rfl
theorem co_min : (Cond.code Lib.Math.min.name Lib.Math.min.code 2 (some .int)) ∈ wA := in_wA (tb1 231 rfl) rfl
theorem ml_X5_26 : (Cond.methodLink RX5 26 arraycopyName) ∈ wA := in_wA (tb1 232 rfl) rfl
theorem st_acopy : (Cond.static arraycopyName) ∈ wA := in_wA (tb1 233 rfl) rfl
theorem nt_acopy : (Cond.native arraycopyName) ∈ wA := in_wA (tb1 234 rfl) rfl
theorem ml_X4_36 : (Cond.methodLink RX4 36 yX2_copyFrom) ∈ wA := in_wA (tb1 235 rfl) rfl
theorem im_X2_copyFrom : (Cond.instanceMethod yX2_copyFrom) ∈ wA := in_wA (tb1 236 rfl) rfl
theorem se_X2_copyFrom : (Cond.selects RX2 yX2_copyFrom yX2_copyFrom) ∈ wA := in_wA (tb1 237 rfl) rfl
theorem co_X2_copyFrom : (Cond.code yX2_copyFrom cX2_copyFrom 2 none) ∈ wA := in_wA (tb1 238 rfl) rfl
theorem ml_X2_20 : (Cond.methodLink RX2 20 yX5_copyFrom) ∈ wA := in_wA (tb1 239 rfl) rfl
theorem ml_X4_39 : (Cond.methodLink RX4 39 yX7_copyFrom) ∈ wA := in_wA (tb2 0 rfl) rfl
theorem im_X7_copyFrom : (Cond.instanceMethod yX7_copyFrom) ∈ wA := in_wA (tb2 1 rfl) rfl
theorem se_X7_copyFrom : (Cond.selects RX7 yX7_copyFrom yX7_copyFrom) ∈ wA := in_wA (tb2 2 rfl) rfl
theorem co_X7_copyFrom : (Cond.code yX7_copyFrom cX7_copyFrom 2 none) ∈ wA := in_wA (tb2 3 rfl) rfl
theorem ml_X7_20 : (Cond.methodLink RX7 20 yX5_copyFrom) ∈ wA := in_wA (tb2 4 rfl) rfl
theorem ml_L_102 : (Cond.methodLink RL 102 yX8_restore) ∈ wA := in_wA (tb2 5 rfl) rfl
theorem im_X8_restore : (Cond.instanceMethod yX8_restore) ∈ wA := in_wA (tb2 6 rfl) rfl
theorem se_X8_restore : (Cond.selects RX8 yX8_restore yX8_restore) ∈ wA := in_wA (tb2 7 rfl) rfl
theorem co_X8_restore : (Cond.code yX8_restore cX8_restore 1 (some .int)) ∈ wA := in_wA (tb2 8 rfl) rfl
theorem ml_X8_57 : (Cond.methodLink RX8 57 yX3_remember) ∈ wA := in_wA (tb2 9 rfl) rfl
theorem im_X3_remember : (Cond.instanceMethod yX3_remember) ∈ wA := in_wA (tb2 10 rfl) rfl
theorem se_X3_remember : (Cond.selects RX3 yX3_remember yX3_remember) ∈ wA := in_wA (tb2 11 rfl) rfl
theorem co_X3_remember : (Cond.code yX3_remember cX3_remember 2 none) ∈ wA := in_wA (tb2 12 rfl) rfl
theorem ml_X3_22 : (Cond.methodLink RX3 22 yX3_dropOldest) ∈ wA := in_wA (tb2 13 rfl) rfl
theorem im_X3_dropOldest : (Cond.instanceMethod yX3_dropOldest) ∈ wA := in_wA (tb2 15 rfl) rfl
theorem co_X3_dropOldest : (Cond.code yX3_dropOldest cX3_dropOldest 3 none) ∈ wA := in_wA (tb2 16 rfl) rfl
theorem ml_X8_158 : (Cond.methodLink RX8 158 yX4_copyFrom) ∈ wA := in_wA (tb2 17 rfl) rfl
theorem ml_L_105 : (Cond.methodLink RL 105 yX8_latest) ∈ wA := in_wA (tb2 18 rfl) rfl
theorem im_X8_latest : (Cond.instanceMethod yX8_latest) ∈ wA := in_wA (tb2 19 rfl) rfl
theorem se_X8_latest : (Cond.selects RX8 yX8_latest yX8_latest) ∈ wA := in_wA (tb2 20 rfl) rfl
theorem co_X8_latest : (Cond.code yX8_latest cX8_latest 3 (some .int)) ∈ wA := in_wA (tb2 21 rfl) rfl
theorem ml_X8_43 : (Cond.methodLink RX8 43 yX8_isBelow) ∈ wA := in_wA (tb2 22 rfl) rfl
theorem st_X8_isBelow : (Cond.static yX8_isBelow) ∈ wA := in_wA (tb2 23 rfl) rfl
theorem co_X8_isBelow : (Cond.code yX8_isBelow cX8_isBelow 2 (some .boolean)) ∈ wA := in_wA (tb2 24 rfl) rfl
theorem ml_X8_198 : (Cond.methodLink RX8 198 Lib.Math.min.name) ∈ wA := in_wA (tb2 25 rfl) rfl
theorem ml_X8_203 : (Cond.methodLink RX8 203 yX7_tell) ∈ wA := in_wA (tb2 26 rfl) rfl
theorem im_X7_tell : (Cond.instanceMethod yX7_tell) ∈ wA := in_wA (tb2 27 rfl) rfl
theorem se_X7_tell : (Cond.selects RX7 yX7_tell yX7_tell) ∈ wA := in_wA (tb2 28 rfl) rfl
theorem co_X7_tell : (Cond.code yX7_tell cX7_tell 3 (some .int)) ∈ wA := in_wA (tb2 29 rfl) rfl
theorem ml_X7_32 : (Cond.methodLink RX7 32 yX5_read) ∈ wA := in_wA (tb2 30 rfl) rfl
theorem im_X5_read : (Cond.instanceMethod yX5_read) ∈ wA := in_wA (tb2 31 rfl) rfl
theorem se_X5_read : (Cond.selects RX5 yX5_read yX5_read) ∈ wA := in_wA (tb2 32 rfl) rfl
theorem co_X5_read : (Cond.code yX5_read cX5_read 2 (some .int)) ∈ wA := in_wA (tb2 33 rfl) rfl
theorem ml_L_108 : (Cond.methodLink RL 108 yL_cell1) ∈ wA := in_wA (tb2 34 rfl) rfl
theorem st_L_cell1 : (Cond.static yL_cell1) ∈ wA := in_wA (tb2 35 rfl) rfl
theorem co_L_cell1 : (Cond.code yL_cell1 cL_cell1 2 (some .int)) ∈ wA := in_wA (tb2 36 rfl) rfl
theorem cn_L_7 : (Cond.constant RL 7 (1116352409 : Int32)) ∈ wA := in_wA (tb2 37 rfl) rfl
theorem ml_L_66 : (Cond.methodLink RL 66 yL_low) ∈ wA := in_wA (tb2 38 rfl) rfl
theorem st_L_low : (Cond.static yL_low) ∈ wA := in_wA (tb2 39 rfl) rfl
theorem co_L_low : (Cond.code yL_low cL_low 2 (some .int)) ∈ wA := in_wA (tb2 40 rfl) rfl
theorem cn_L_8 : (Cond.constant RL 8 (2147483647 : Int32)) ∈ wA := in_wA (tb2 41 rfl) rfl
theorem ml_L_95 : (Cond.methodLink RL 95 yL_isAhead) ∈ wA := in_wA (tb2 42 rfl) rfl
theorem st_L_isAhead : (Cond.static yL_isAhead) ∈ wA := in_wA (tb2 43 rfl) rfl
theorem co_L_isAhead : (Cond.code yL_isAhead cL_isAhead 13 (some .boolean)) ∈ wA := in_wA (tb2 44 rfl) rfl
theorem ml_L_27 : (Cond.methodLink RL 27 yL_copy) ∈ wA := in_wA (tb2 45 rfl) rfl
theorem st_L_copy : (Cond.static yL_copy) ∈ wA := in_wA (tb2 46 rfl) rfl
theorem co_L_copy : (Cond.code yL_copy cL_copy 3 none) ∈ wA := in_wA (tb2 47 rfl) rfl
theorem ml_L_31 : (Cond.methodLink RL 31 yX8_next) ∈ wA := in_wA (tb2 48 rfl) rfl
theorem im_X8_next : (Cond.instanceMethod yX8_next) ∈ wA := in_wA (tb2 49 rfl) rfl
theorem se_X8_next : (Cond.selects RX8 yX8_next yX8_next) ∈ wA := in_wA (tb2 50 rfl) rfl
theorem co_X8_next : (Cond.code yX8_next cX8_next 2 (some .int)) ∈ wA := in_wA (tb2 51 rfl) rfl
theorem ml_X8_164 : (Cond.methodLink RX8 164 yX0_numberAt) ∈ wA := in_wA (tb2 52 rfl) rfl
theorem im_X0_numberAt : (Cond.instanceMethod yX0_numberAt) ∈ wA := in_wA (tb2 53 rfl) rfl
theorem se_X0_numberAt : (Cond.selects RX0 yX0_numberAt yX0_numberAt) ∈ wA := in_wA (tb2 54 rfl) rfl
theorem co_X0_numberAt : (Cond.code yX0_numberAt cX0_numberAt 2 (some .int)) ∈ wA := in_wA (tb2 55 rfl) rfl
theorem ml_X0_48 : (Cond.methodLink RX0 48 yX0_bankAt) ∈ wA := in_wA (tb2 56 rfl) rfl
theorem im_X0_bankAt : (Cond.instanceMethod yX0_bankAt) ∈ wA := in_wA (tb2 57 rfl) rfl
theorem se_X0_bankAt : (Cond.selects RX0 yX0_bankAt yX0_bankAt) ∈ wA := in_wA (tb2 58 rfl) rfl
theorem co_X0_bankAt : (Cond.code yX0_bankAt cX0_bankAt 2 (some .int)) ∈ wA := in_wA (tb2 59 rfl) rfl
theorem ml_X0_44 : (Cond.methodLink RX0 44 yX5_read) ∈ wA := in_wA (tb2 60 rfl) rfl
theorem ml_X0_51 : (Cond.methodLink RX0 51 yX0_numberIn) ∈ wA := in_wA (tb2 61 rfl) rfl
theorem im_X0_numberIn : (Cond.instanceMethod yX0_numberIn) ∈ wA := in_wA (tb2 62 rfl) rfl
theorem se_X0_numberIn : (Cond.selects RX0 yX0_numberIn yX0_numberIn) ∈ wA := in_wA (tb2 63 rfl) rfl
theorem co_X0_numberIn : (Cond.code yX0_numberIn cX0_numberIn 3 (some .int)) ∈ wA := in_wA (tb2 64 rfl) rfl
theorem ml_X0_40 : (Cond.methodLink RX0 40 yX0_indexOf) ∈ wA := in_wA (tb2 65 rfl) rfl
theorem st_X0_indexOf : (Cond.static yX0_indexOf) ∈ wA := in_wA (tb2 66 rfl) rfl
theorem co_X0_indexOf : (Cond.code yX0_indexOf cX0_indexOf 2 (some .int)) ∈ wA := in_wA (tb2 67 rfl) rfl
theorem ml_X8_204 : (Cond.methodLink RX8 204 yX4_step) ∈ wA := in_wA (tb2 68 rfl) rfl
theorem im_X4_step : (Cond.instanceMethod yX4_step) ∈ wA := in_wA (tb2 69 rfl) rfl
theorem se_X4_step : (Cond.selects RX4 yX4_step yX4_step) ∈ wA := in_wA (tb2 70 rfl) rfl
theorem co_X4_step : (Cond.code yX4_step cX4_step 5 none) ∈ wA := in_wA (tb2 71 rfl) rfl
theorem ml_X4_64 : (Cond.methodLink RX4 64 yX0_numberAt) ∈ wA := in_wA (tb2 72 rfl) rfl
theorem ml_X4_68 : (Cond.methodLink RX4 68 yX0_bankAt) ∈ wA := in_wA (tb2 73 rfl) rfl
theorem ml_X4_71 : (Cond.methodLink RX4 71 yX7_add) ∈ wA := in_wA (tb2 74 rfl) rfl
theorem im_X7_add : (Cond.instanceMethod yX7_add) ∈ wA := in_wA (tb2 75 rfl) rfl
theorem se_X7_add : (Cond.selects RX7 yX7_add yX7_add) ∈ wA := in_wA (tb2 76 rfl) rfl
theorem co_X7_add : (Cond.code yX7_add cX7_add 5 none) ∈ wA := in_wA (tb2 77 rfl) rfl
theorem ml_X7_28 : (Cond.methodLink RX7 28 yX5_write) ∈ wA := in_wA (tb2 78 rfl) rfl
theorem ml_X4_75 : (Cond.methodLink RX4 75 yX4_hindranceOf) ∈ wA := in_wA (tb2 79 rfl) rfl
theorem im_X4_hindranceOf : (Cond.instanceMethod yX4_hindranceOf) ∈ wA := in_wA (tb2 81 rfl) rfl
theorem co_X4_hindranceOf : (Cond.code yX4_hindranceOf cX4_hindranceOf 3 (some .int)) ∈ wA := in_wA (tb2 82 rfl) rfl
theorem ml_X4_82 : (Cond.methodLink RX4 82 yX4_isBeyond) ∈ wA := in_wA (tb2 83 rfl) rfl
theorem st_X4_isBeyond : (Cond.static yX4_isBeyond) ∈ wA := in_wA (tb2 84 rfl) rfl
theorem co_X4_isBeyond : (Cond.code yX4_isBeyond cX4_isBeyond 2 (some .boolean)) ∈ wA := in_wA (tb2 85 rfl) rfl
theorem ml_X4_79 : (Cond.methodLink RX4 79 yX4_carryOut) ∈ wA := in_wA (tb2 86 rfl) rfl
theorem im_X4_carryOut : (Cond.instanceMethod yX4_carryOut) ∈ wA := in_wA (tb2 88 rfl) rfl
theorem co_X4_carryOut : (Cond.code yX4_carryOut cX4_carryOut 4 none) ∈ wA := in_wA (tb2 89 rfl) rfl
theorem ml_X4_86 : (Cond.methodLink RX4 86 yX4_increase) ∈ wA := in_wA (tb2 90 rfl) rfl
theorem im_X4_increase : (Cond.instanceMethod yX4_increase) ∈ wA := in_wA (tb2 92 rfl) rfl
theorem co_X4_increase : (Cond.code yX4_increase cX4_increase 3 none) ∈ wA := in_wA (tb2 93 rfl) rfl
theorem ml_X4_90 : (Cond.methodLink RX4 90 yX0_storeUnlessAlone) ∈ wA := in_wA (tb2 94 rfl) rfl
theorem im_X0_storeUnlessAlone : (Cond.instanceMethod yX0_storeUnlessAlone) ∈ wA := in_wA (tb2 95 rfl) rfl
theorem se_X0_storeUnlessAlone : (Cond.selects RX0 yX0_storeUnlessAlone yX0_storeUnlessAlone) ∈ wA := in_wA (tb2 96 rfl) rfl
theorem co_X0_storeUnlessAlone : (Cond.code yX0_storeUnlessAlone cX0_storeUnlessAlone 4 (some .boolean)) ∈ wA := in_wA (tb2 97 rfl) rfl
theorem ml_X0_54 : (Cond.methodLink RX0 54 yX0_isAlone) ∈ wA := in_wA (tb2 98 rfl) rfl
theorem im_X0_isAlone : (Cond.instanceMethod yX0_isAlone) ∈ wA := in_wA (tb2 99 rfl) rfl
theorem se_X0_isAlone : (Cond.selects RX0 yX0_isAlone yX0_isAlone) ∈ wA := in_wA (tb2 100 rfl) rfl
theorem co_X0_isAlone : (Cond.code yX0_isAlone cX0_isAlone 2 (some .boolean)) ∈ wA := in_wA (tb2 101 rfl) rfl
theorem ml_X0_58 : (Cond.methodLink RX0 58 yX0_fill) ∈ wA := in_wA (tb2 102 rfl) rfl
theorem im_X0_fill : (Cond.instanceMethod yX0_fill) ∈ wA := in_wA (tb2 103 rfl) rfl
theorem se_X0_fill : (Cond.selects RX0 yX0_fill yX0_fill) ∈ wA := in_wA (tb2 104 rfl) rfl
theorem co_X0_fill : (Cond.code yX0_fill cX0_fill 4 none) ∈ wA := in_wA (tb2 105 rfl) rfl
theorem ml_X4_97 : (Cond.methodLink RX4 97 yX5_write) ∈ wA := in_wA (tb2 106 rfl) rfl
theorem ml_X4_103 : (Cond.methodLink RX4 103 yX4_callFrom) ∈ wA := in_wA (tb2 107 rfl) rfl
theorem im_X4_callFrom : (Cond.instanceMethod yX4_callFrom) ∈ wA := in_wA (tb2 109 rfl) rfl
theorem co_X4_callFrom : (Cond.code yX4_callFrom cX4_callFrom 3 none) ∈ wA := in_wA (tb2 110 rfl) rfl
theorem ml_X4_109 : (Cond.methodLink RX4 109 yX5_read) ∈ wA := in_wA (tb2 111 rfl) rfl
theorem ml_X4_112 : (Cond.methodLink RX4 112 yX2_add) ∈ wA := in_wA (tb2 112 rfl) rfl
theorem im_X2_add : (Cond.instanceMethod yX2_add) ∈ wA := in_wA (tb2 113 rfl) rfl
theorem se_X2_add : (Cond.selects RX2 yX2_add yX2_add) ∈ wA := in_wA (tb2 114 rfl) rfl
theorem co_X2_add : (Cond.code yX2_add cX2_add 5 none) ∈ wA := in_wA (tb2 115 rfl) rfl
theorem ml_X2_28 : (Cond.methodLink RX2 28 yX5_write) ∈ wA := in_wA (tb2 116 rfl) rfl
theorem ml_X4_106 : (Cond.methodLink RX4 106 yX4_comeBack) ∈ wA := in_wA (tb2 117 rfl) rfl
theorem im_X4_comeBack : (Cond.instanceMethod yX4_comeBack) ∈ wA := in_wA (tb2 119 rfl) rfl
theorem co_X4_comeBack : (Cond.code yX4_comeBack cX4_comeBack 1 none) ∈ wA := in_wA (tb2 120 rfl) rfl
theorem ml_X4_113 : (Cond.methodLink RX4 113 yX2_tell) ∈ wA := in_wA (tb2 121 rfl) rfl
theorem im_X2_tell : (Cond.instanceMethod yX2_tell) ∈ wA := in_wA (tb2 122 rfl) rfl
theorem se_X2_tell : (Cond.selects RX2 yX2_tell yX2_tell) ∈ wA := in_wA (tb2 123 rfl) rfl
theorem co_X2_tell : (Cond.code yX2_tell cX2_tell 3 (some .int)) ∈ wA := in_wA (tb2 124 rfl) rfl
theorem ml_X2_32 : (Cond.methodLink RX2 32 yX5_read) ∈ wA := in_wA (tb2 125 rfl) rfl
theorem ml_L_37 : (Cond.methodLink RL 37 yX8_ifRun) ∈ wA := in_wA (tb2 126 rfl) rfl
theorem im_X8_ifRun : (Cond.instanceMethod yX8_ifRun) ∈ wA := in_wA (tb2 127 rfl) rfl
theorem se_X8_ifRun : (Cond.selects RX8 yX8_ifRun yX8_ifRun) ∈ wA := in_wA (tb2 128 rfl) rfl
theorem co_X8_ifRun : (Cond.code yX8_ifRun cX8_ifRun 4 (some .int)) ∈ wA := in_wA (tb2 129 rfl) rfl
theorem ml_X8_107 : (Cond.methodLink RX8 107 yX8_isStepsOfRun) ∈ wA := in_wA (tb2 130 rfl) rfl
theorem st_X8_isStepsOfRun : (Cond.static yX8_isStepsOfRun) ∈ wA := in_wA (tb2 131 rfl) rfl
theorem co_X8_isStepsOfRun : (Cond.code yX8_isStepsOfRun cX8_isStepsOfRun 1 (some .boolean)) ∈ wA := in_wA (tb2 132 rfl) rfl
theorem ml_X8_123 : (Cond.methodLink RX8 123 yX4_takeSteps) ∈ wA := in_wA (tb2 133 rfl) rfl
theorem im_X4_takeSteps : (Cond.instanceMethod yX4_takeSteps) ∈ wA := in_wA (tb2 134 rfl) rfl
theorem se_X4_takeSteps : (Cond.selects RX4 yX4_takeSteps yX4_takeSteps) ∈ wA := in_wA (tb2 135 rfl) rfl
theorem co_X4_takeSteps : (Cond.code yX4_takeSteps cX4_takeSteps 3 (some .int)) ∈ wA := in_wA (tb2 136 rfl) rfl
theorem ml_X4_61 : (Cond.methodLink RX4 61 yX4_step) ∈ wA := in_wA (tb2 137 rfl) rfl
theorem ml_X8_213 : (Cond.methodLink RX8 213 yX5_differencesTo) ∈ wA := in_wA (tb2 138 rfl) rfl
theorem im_X5_differencesTo : (Cond.instanceMethod yX5_differencesTo) ∈ wA := in_wA (tb2 139 rfl) rfl
theorem se_X5_differencesTo : (Cond.selects RX5 yX5_differencesTo yX5_differencesTo) ∈ wA := in_wA (tb2 140 rfl) rfl
theorem co_X5_differencesTo : (Cond.code yX5_differencesTo cX5_differencesTo 4 (some .int)) ∈ wA := in_wA (tb2 141 rfl) rfl
theorem ml_X5_19 : (Cond.methodLink RX5 19 yX5_read) ∈ wA := in_wA (tb2 142 rfl) rfl
theorem ml_L_41 : (Cond.methodLink RL 41 yX8_backIn) ∈ wA := in_wA (tb2 143 rfl) rfl
theorem im_X8_backIn : (Cond.instanceMethod yX8_backIn) ∈ wA := in_wA (tb2 144 rfl) rfl
theorem se_X8_backIn : (Cond.selects RX8 yX8_backIn yX8_backIn) ∈ wA := in_wA (tb2 145 rfl) rfl
theorem co_X8_backIn : (Cond.code yX8_backIn cX8_backIn 3 (some .int)) ∈ wA := in_wA (tb2 146 rfl) rfl
theorem ml_L_23 : (Cond.methodLink RL 23 yL_step) ∈ wA := in_wA (tb2 147 rfl) rfl
theorem st_L_step : (Cond.static yL_step) ∈ wA := in_wA (tb2 148 rfl) rfl
theorem co_L_step : (Cond.code yL_step cL_step 10 none) ∈ wA := in_wA (tb2 149 rfl) rfl
theorem ml_L_15 : (Cond.methodLink RL 15 yL_at) ∈ wA := in_wA (tb2 150 rfl) rfl
theorem st_L_at : (Cond.static yL_at) ∈ wA := in_wA (tb2 151 rfl) rfl
theorem co_L_at : (Cond.code yL_at cL_at 4 (some .int)) ∈ wA := in_wA (tb2 152 rfl) rfl
theorem ml_L_9 : (Cond.methodLink RL 9 yL_cell) ∈ wA := in_wA (tb2 153 rfl) rfl
theorem st_L_cell : (Cond.static yL_cell) ∈ wA := in_wA (tb2 154 rfl) rfl
theorem co_L_cell : (Cond.code yL_cell cL_cell 4 (some .int)) ∈ wA := in_wA (tb2 155 rfl) rfl
theorem ml_L_19 : (Cond.methodLink RL 19 yL_put) ∈ wA := in_wA (tb2 156 rfl) rfl
theorem st_L_put : (Cond.static yL_put) ∈ wA := in_wA (tb2 157 rfl) rfl
theorem co_L_put : (Cond.code yL_put cL_put 5 none) ∈ wA := in_wA (tb2 158 rfl) rfl
theorem ml_L_45 : (Cond.methodLink RL 45 yL_run) ∈ wA := in_wA (tb2 159 rfl) rfl
theorem st_L_run : (Cond.static yL_run) ∈ wA := in_wA (tb2 160 rfl) rfl
theorem co_L_run : (Cond.code yL_run cL_run 6 (some .int)) ∈ wA := in_wA (tb2 161 rfl) rfl
theorem ml_L_91 : (Cond.methodLink RL 91 yL_isSo) ∈ wA := in_wA (tb2 162 rfl) rfl
theorem st_L_isSo : (Cond.static yL_isSo) ∈ wA := in_wA (tb2 163 rfl) rfl
theorem co_L_isSo : (Cond.code yL_isSo cL_isSo 11 (some .boolean)) ∈ wA := in_wA (tb2 164 rfl) rfl
theorem ml_L_49 : (Cond.methodLink RL 49 yX8_cell) ∈ wA := in_wA (tb2 165 rfl) rfl
theorem im_X8_cell : (Cond.instanceMethod yX8_cell) ∈ wA := in_wA (tb2 166 rfl) rfl
theorem se_X8_cell : (Cond.selects RX8 yX8_cell yX8_cell) ∈ wA := in_wA (tb2 167 rfl) rfl
theorem co_X8_cell : (Cond.code yX8_cell cX8_cell 3 (some .int)) ∈ wA := in_wA (tb2 168 rfl) rfl
theorem ml_X8_51 : (Cond.methodLink RX8 51 yX0_numberIn) ∈ wA := in_wA (tb2 169 rfl) rfl
theorem ml_L_51 : (Cond.methodLink RL 51 yX8_bank) ∈ wA := in_wA (tb2 170 rfl) rfl
theorem im_X8_bank : (Cond.instanceMethod yX8_bank) ∈ wA := in_wA (tb2 171 rfl) rfl
theorem se_X8_bank : (Cond.selects RX8 yX8_bank yX8_bank) ∈ wA := in_wA (tb2 172 rfl) rfl
theorem co_X8_bank : (Cond.code yX8_bank cX8_bank 3 (some .int)) ∈ wA := in_wA (tb2 173 rfl) rfl
theorem ml_X8_86 : (Cond.methodLink RX8 86 yX5_read) ∈ wA := in_wA (tb2 174 rfl) rfl
theorem ml_X8_173 : (Cond.methodLink RX8 173 yX0_windowsOf) ∈ wA := in_wA (tb2 175 rfl) rfl
theorem im_X0_windowsOf : (Cond.instanceMethod yX0_windowsOf) ∈ wA := in_wA (tb2 176 rfl) rfl
theorem se_X0_windowsOf : (Cond.selects RX0 yX0_windowsOf yX0_windowsOf) ∈ wA := in_wA (tb2 177 rfl) rfl
theorem co_X0_windowsOf : (Cond.code yX0_windowsOf cX0_windowsOf 4 (some .int)) ∈ wA := in_wA (tb2 178 rfl) rfl
theorem ml_X8_176 : (Cond.methodLink RX8 176 yX0_usedCellsOf) ∈ wA := in_wA (tb2 179 rfl) rfl
theorem im_X0_usedCellsOf : (Cond.instanceMethod yX0_usedCellsOf) ∈ wA := in_wA (tb2 180 rfl) rfl
theorem se_X0_usedCellsOf : (Cond.selects RX0 yX0_usedCellsOf yX0_usedCellsOf) ∈ wA := in_wA (tb2 181 rfl) rfl
theorem co_X0_usedCellsOf : (Cond.code yX0_usedCellsOf cX0_usedCellsOf 4 (some .int)) ∈ wA := in_wA (tb2 182 rfl) rfl
theorem ml_X8_183 : (Cond.methodLink RX8 183 yX2_howManyBackTo) ∈ wA := in_wA (tb2 183 rfl) rfl
theorem im_X2_howManyBackTo : (Cond.instanceMethod yX2_howManyBackTo) ∈ wA := in_wA (tb2 184 rfl) rfl
theorem se_X2_howManyBackTo : (Cond.selects RX2 yX2_howManyBackTo yX2_howManyBackTo) ∈ wA := in_wA (tb2 185 rfl) rfl
theorem co_X2_howManyBackTo : (Cond.code yX2_howManyBackTo cX2_howManyBackTo 4 (some .int)) ∈ wA := in_wA (tb2 186 rfl) rfl
theorem ml_X2_36 : (Cond.methodLink RX2 36 yX2_tell) ∈ wA := in_wA (tb2 187 rfl) rfl
theorem ml_L_54 : (Cond.methodLink RL 54 yX8_window) ∈ wA := in_wA (tb2 188 rfl) rfl
theorem im_X8_window : (Cond.instanceMethod yX8_window) ∈ wA := in_wA (tb2 189 rfl) rfl
theorem se_X8_window : (Cond.selects RX8 yX8_window yX8_window) ∈ wA := in_wA (tb2 190 rfl) rfl
theorem co_X8_window : (Cond.code yX8_window cX8_window 2 (some .int)) ∈ wA := in_wA (tb2 191 rfl) rfl
theorem ml_L_57 : (Cond.methodLink RL 57 yX8_frame) ∈ wA := in_wA (tb2 192 rfl) rfl
theorem im_X8_frame : (Cond.instanceMethod yX8_frame) ∈ wA := in_wA (tb2 193 rfl) rfl
theorem se_X8_frame : (Cond.selects RX8 yX8_frame yX8_frame) ∈ wA := in_wA (tb2 194 rfl) rfl
theorem co_X8_frame : (Cond.code yX8_frame cX8_frame 3 (some .int)) ∈ wA := in_wA (tb2 195 rfl) rfl
theorem ml_X8_195 : (Cond.methodLink RX8 195 yX2_tell) ∈ wA := in_wA (tb2 196 rfl) rfl
theorem ml_L_60 : (Cond.methodLink RL 60 yX8_address) ∈ wA := in_wA (tb2 197 rfl) rfl
theorem im_X8_address : (Cond.instanceMethod yX8_address) ∈ wA := in_wA (tb2 198 rfl) rfl
theorem se_X8_address : (Cond.selects RX8 yX8_address yX8_address) ∈ wA := in_wA (tb2 199 rfl) rfl
theorem co_X8_address : (Cond.code yX8_address cX8_address 3 (some .int)) ∈ wA := in_wA (tb2 200 rfl) rfl
theorem ml_X8_167 : (Cond.methodLink RX8 167 yX0_bankAt) ∈ wA := in_wA (tb2 201 rfl) rfl
theorem ml_X8_170 : (Cond.methodLink RX8 170 yX0_twinOf) ∈ wA := in_wA (tb2 202 rfl) rfl
theorem im_X0_twinOf : (Cond.instanceMethod yX0_twinOf) ∈ wA := in_wA (tb2 203 rfl) rfl
theorem se_X0_twinOf : (Cond.selects RX0 yX0_twinOf yX0_twinOf) ∈ wA := in_wA (tb2 204 rfl) rfl
theorem co_X0_twinOf : (Cond.code yX0_twinOf cX0_twinOf 6 (some .int)) ∈ wA := in_wA (tb2 205 rfl) rfl
theorem ml_L_63 : (Cond.methodLink RL 63 yX8_count) ∈ wA := in_wA (tb2 206 rfl) rfl
theorem im_X8_count : (Cond.instanceMethod yX8_count) ∈ wA := in_wA (tb2 207 rfl) rfl
theorem se_X8_count : (Cond.selects RX8 yX8_count yX8_count) ∈ wA := in_wA (tb2 208 rfl) rfl
theorem co_X8_count : (Cond.code yX8_count cX8_count 2 (some .int)) ∈ wA := in_wA (tb2 209 rfl) rfl
theorem ml_X8_79 : (Cond.methodLink RX8 79 yX5_sum) ∈ wA := in_wA (tb2 210 rfl) rfl
theorem im_X5_sum : (Cond.instanceMethod yX5_sum) ∈ wA := in_wA (tb2 211 rfl) rfl
theorem se_X5_sum : (Cond.selects RX5 yX5_sum yX5_sum) ∈ wA := in_wA (tb2 212 rfl) rfl
theorem co_X5_sum : (Cond.code yX5_sum cX5_sum 6 (some .int)) ∈ wA := in_wA (tb2 213 rfl) rfl
theorem ml_L_112 : (Cond.methodLink RL 112 yL_puts) ∈ wA := in_wA (tb2 214 rfl) rfl
theorem st_L_puts : (Cond.static yL_puts) ∈ wA := in_wA (tb2 215 rfl) rfl
theorem co_L_puts : (Cond.code yL_puts cL_puts 12 (some .boolean)) ∈ wA := in_wA (tb2 216 rfl) rfl
theorem ml_L_69 : (Cond.methodLink RL 69 yX8_put) ∈ wA := in_wA (tb2 217 rfl) rfl
theorem im_X8_put : (Cond.instanceMethod yX8_put) ∈ wA := in_wA (tb2 218 rfl) rfl
theorem se_X8_put : (Cond.selects RX8 yX8_put yX8_put) ∈ wA := in_wA (tb2 219 rfl) rfl
theorem co_X8_put : (Cond.code yX8_put cX8_put 5 (some .int)) ∈ wA := in_wA (tb2 220 rfl) rfl
theorem ml_X8_61 : (Cond.methodLink RX8 61 yX0_fill) ∈ wA := in_wA (tb2 221 rfl) rfl
theorem ml_L_116 : (Cond.methodLink RL 116 yL_others) ∈ wA := in_wA (tb2 222 rfl) rfl
theorem st_L_others : (Cond.static yL_others) ∈ wA := in_wA (tb2 223 rfl) rfl
theorem co_L_others : (Cond.code yL_others cL_others 13 (some .boolean)) ∈ wA := in_wA (tb2 224 rfl) rfl
theorem ml_L_72 : (Cond.methodLink RL 72 yX8_lock) ∈ wA := in_wA (tb2 225 rfl) rfl
theorem im_X8_lock : (Cond.instanceMethod yX8_lock) ∈ wA := in_wA (tb2 226 rfl) rfl
theorem se_X8_lock : (Cond.selects RX8 yX8_lock yX8_lock) ∈ wA := in_wA (tb2 227 rfl) rfl
theorem co_X8_lock : (Cond.code yX8_lock cX8_lock 3 (some .int)) ∈ wA := in_wA (tb2 228 rfl) rfl
theorem ml_X8_65 : (Cond.methodLink RX8 65 yX0_isAlone) ∈ wA := in_wA (tb2 229 rfl) rfl
theorem ml_X8_73 : (Cond.methodLink RX8 73 yX5_write) ∈ wA := in_wA (tb2 230 rfl) rfl
theorem ml_L_76 : (Cond.methodLink RL 76 yX8_show) ∈ wA := in_wA (tb2 231 rfl) rfl
theorem im_X8_show : (Cond.instanceMethod yX8_show) ∈ wA := in_wA (tb2 232 rfl) rfl
theorem se_X8_show : (Cond.selects RX8 yX8_show yX8_show) ∈ wA := in_wA (tb2 233 rfl) rfl
theorem co_X8_show : (Cond.code yX8_show cX8_show 4 (some .int)) ∈ wA := in_wA (tb2 234 rfl) rfl
theorem ml_L_79 : (Cond.methodLink RL 79 yX8_copyBank) ∈ wA := in_wA (tb2 235 rfl) rfl
theorem im_X8_copyBank : (Cond.instanceMethod yX8_copyBank) ∈ wA := in_wA (tb2 236 rfl) rfl
theorem se_X8_copyBank : (Cond.selects RX8 yX8_copyBank yX8_copyBank) ∈ wA := in_wA (tb2 237 rfl) rfl
theorem co_X8_copyBank : (Cond.code yX8_copyBank cX8_copyBank 4 (some .int)) ∈ wA := in_wA (tb2 238 rfl) rfl
theorem ml_X8_90 : (Cond.methodLink RX8 90 yX0_differencesOf) ∈ wA := in_wA (tb2 239 rfl) rfl
theorem im_X0_differencesOf : (Cond.instanceMethod yX0_differencesOf) ∈ wA := in_wA (tb3 0 rfl) rfl
theorem se_X0_differencesOf : (Cond.selects RX0 yX0_differencesOf yX0_differencesOf) ∈ wA := in_wA (tb3 1 rfl) rfl
theorem co_X0_differencesOf : (Cond.code yX0_differencesOf cX0_differencesOf 5 (some .int)) ∈ wA := in_wA (tb3 2 rfl) rfl
theorem ml_X8_93 : (Cond.methodLink RX8 93 yX0_copyCells) ∈ wA := in_wA (tb3 3 rfl) rfl
theorem im_X0_copyCells : (Cond.instanceMethod yX0_copyCells) ∈ wA := in_wA (tb3 4 rfl) rfl
theorem se_X0_copyCells : (Cond.selects RX0 yX0_copyCells yX0_copyCells) ∈ wA := in_wA (tb3 5 rfl) rfl
theorem co_X0_copyCells : (Cond.code yX0_copyCells cX0_copyCells 4 none) ∈ wA := in_wA (tb3 6 rfl) rfl
theorem ml_L_82 : (Cond.methodLink RL 82 yX8_set) ∈ wA := in_wA (tb3 7 rfl) rfl
theorem im_X8_set : (Cond.instanceMethod yX8_set) ∈ wA := in_wA (tb3 8 rfl) rfl
theorem se_X8_set : (Cond.selects RX8 yX8_set yX8_set) ∈ wA := in_wA (tb3 9 rfl) rfl
theorem co_X8_set : (Cond.code yX8_set cX8_set 3 (some .int)) ∈ wA := in_wA (tb3 10 rfl) rfl
theorem ml_L_85 : (Cond.methodLink RL 85 yX8_begin) ∈ wA := in_wA (tb3 11 rfl) rfl
theorem im_X8_begin : (Cond.instanceMethod yX8_begin) ∈ wA := in_wA (tb3 12 rfl) rfl
theorem se_X8_begin : (Cond.selects RX8 yX8_begin yX8_begin) ∈ wA := in_wA (tb3 13 rfl) rfl
theorem co_X8_begin : (Cond.code yX8_begin cX8_begin 3 (some .int)) ∈ wA := in_wA (tb3 14 rfl) rfl
theorem ml_X8_103 : (Cond.methodLink RX8 103 yX4_startAt) ∈ wA := in_wA (tb3 15 rfl) rfl
theorem im_X4_startAt : (Cond.instanceMethod yX4_startAt) ∈ wA := in_wA (tb3 16 rfl) rfl
theorem se_X4_startAt : (Cond.selects RX4 yX4_startAt yX4_startAt) ∈ wA := in_wA (tb3 17 rfl) rfl
theorem co_X4_startAt : (Cond.code yX4_startAt cX4_startAt 2 none) ∈ wA := in_wA (tb3 18 rfl) rfl
theorem ml_L_88 : (Cond.methodLink RL 88 yX8_run) ∈ wA := in_wA (tb3 19 rfl) rfl
theorem im_X8_run : (Cond.instanceMethod yX8_run) ∈ wA := in_wA (tb3 20 rfl) rfl
theorem se_X8_run : (Cond.selects RX8 yX8_run yX8_run) ∈ wA := in_wA (tb3 21 rfl) rfl
theorem co_X8_run : (Cond.code yX8_run cX8_run 2 (some .int)) ∈ wA := in_wA (tb3 22 rfl) rfl
theorem cn_X8_122 : (Cond.constant RX8 122 (999999 : Int32)) ∈ wA := in_wA (tb3 23 rfl) rfl
theorem se_X3_dropOldest : (Cond.selects RX3 yX3_dropOldest yX3_dropOldest) ∈ wA := in_wA (tbp (tp1 0 rfl)) rfl
theorem se_X4_hindranceOf : (Cond.selects RX4 yX4_hindranceOf yX4_hindranceOf) ∈ wA := in_wA (tbp (tp1 1 rfl)) rfl
theorem se_X4_carryOut : (Cond.selects RX4 yX4_carryOut yX4_carryOut) ∈ wA := in_wA (tbp (tp1 2 rfl)) rfl
theorem se_X4_increase : (Cond.selects RX4 yX4_increase yX4_increase) ∈ wA := in_wA (tbp (tp1 3 rfl)) rfl
theorem se_X4_callFrom : (Cond.selects RX4 yX4_callFrom yX4_callFrom) ∈ wA := in_wA (tbp (tp1 4 rfl)) rfl
theorem se_X4_comeBack : (Cond.selects RX4 yX4_comeBack yX4_comeBack) ∈ wA := in_wA (tbp (tp1 5 rfl)) rfl
theorem ilX0 : ∀ w ∈ u_ws RX0 TX0 5, w ∈ wA := by
  have e : u_ws RX0 TX0 5 = [Cond.laysFinal "FarBanks$Banks" "FarBanks$Banks" "cells" "LFarBanks$Row;", Cond.laysFinal "FarBanks$Banks" "FarBanks$Banks" "alone" "LFarBanks$Row;", Cond.laysFinal "FarBanks$Banks" "FarBanks$Banks" "shown" "LFarBanks$Row;", Cond.laysFinal "FarBanks$Banks" "FarBanks$Banks" "written" "LFarBanks$Row;", Cond.laysFinal "FarBanks$Banks" "FarBanks$Banks" "refused" "LFarBanks$Row;"] := rfl
  rw [e]
  exact List.forall_mem_cons.mpr ⟨in_wA (tb1 61 rfl) rfl, List.forall_mem_cons.mpr ⟨in_wA (tb1 63 rfl) rfl, List.forall_mem_cons.mpr ⟨in_wA (tb1 65 rfl) rfl, List.forall_mem_cons.mpr ⟨in_wA (tb1 67 rfl) rfl, List.forall_mem_cons.mpr ⟨in_wA (tb1 69 rfl) rfl, fun _ h => absurd h List.not_mem_nil⟩⟩⟩⟩⟩
theorem ilX1 : ∀ w ∈ u_ws RX1 TX1 4, w ∈ wA := by
  have e : u_ws RX1 TX1 4 = [Cond.laysFinal "FarBanks$Code" "FarBanks$Code" "orders" "LFarBanks$Row;", Cond.lays "FarBanks$Code" "FarBanks$Code" "size" "I", Cond.lays "FarBanks$Code" "FarBanks$Code" "position" "I", Cond.lays "FarBanks$Code" "FarBanks$Code" "isSound" "Z"] := rfl
  rw [e]
  exact List.forall_mem_cons.mpr ⟨in_wA (tb1 178 rfl) rfl, List.forall_mem_cons.mpr ⟨in_wA (tb1 180 rfl) rfl, List.forall_mem_cons.mpr ⟨in_wA (tb1 182 rfl) rfl, List.forall_mem_cons.mpr ⟨in_wA (tb1 184 rfl) rfl, fun _ h => absurd h List.not_mem_nil⟩⟩⟩⟩
theorem ilX2 : ∀ w ∈ u_ws RX2 TX2 2, w ∈ wA := by
  have e : u_ws RX2 TX2 2 = [Cond.laysFinal "FarBanks$Frames" "FarBanks$Frames" "parts" "LFarBanks$Row;", Cond.lays "FarBanks$Frames" "FarBanks$Frames" "size" "I"] := rfl
  rw [e]
  exact List.forall_mem_cons.mpr ⟨in_wA (tb1 84 rfl) rfl, List.forall_mem_cons.mpr ⟨in_wA (tb1 86 rfl) rfl, fun _ h => absurd h List.not_mem_nil⟩⟩
theorem ilX3 : ∀ w ∈ u_ws RX3 TX3 2, w ∈ wA := by
  have e : u_ws RX3 TX3 2 = [Cond.laysFinal "FarBanks$History" "FarBanks$History" "states" "[LFarBanks$Machine;", Cond.lays "FarBanks$History" "FarBanks$History" "size" "I"] := rfl
  rw [e]
  exact List.forall_mem_cons.mpr ⟨in_wA (tb1 150 rfl) rfl, List.forall_mem_cons.mpr ⟨in_wA (tb1 152 rfl) rfl, fun _ h => absurd h List.not_mem_nil⟩⟩
theorem ilX4 : ∀ w ∈ u_ws RX4 TX4 8, w ∈ wA := by
  have e : u_ws RX4 TX4 8 = [Cond.laysFinal "FarBanks$Machine" "FarBanks$Machine" "banks" "LFarBanks$Banks;", Cond.laysFinal "FarBanks$Machine" "FarBanks$Machine" "frames" "LFarBanks$Frames;", Cond.laysFinal "FarBanks$Machine" "FarBanks$Machine" "trail" "LFarBanks$Trail;", Cond.lays "FarBanks$Machine" "FarBanks$Machine" "number" "I", Cond.lays "FarBanks$Machine" "FarBanks$Machine" "place" "I", Cond.lays "FarBanks$Machine" "FarBanks$Machine" "reason" "I", Cond.lays "FarBanks$Machine" "FarBanks$Machine" "strict" "I", Cond.lays "FarBanks$Machine" "FarBanks$Machine" "calls" "I"] := rfl
  rw [e]
  exact List.forall_mem_cons.mpr ⟨in_wA (tb1 121 rfl) rfl, List.forall_mem_cons.mpr ⟨in_wA (tb1 123 rfl) rfl, List.forall_mem_cons.mpr ⟨in_wA (tb1 125 rfl) rfl, List.forall_mem_cons.mpr ⟨in_wA (tb1 127 rfl) rfl, List.forall_mem_cons.mpr ⟨in_wA (tb1 129 rfl) rfl, List.forall_mem_cons.mpr ⟨in_wA (tb1 131 rfl) rfl, List.forall_mem_cons.mpr ⟨in_wA (tb1 133 rfl) rfl, List.forall_mem_cons.mpr ⟨in_wA (tb1 135 rfl) rfl, fun _ h => absurd h List.not_mem_nil⟩⟩⟩⟩⟩⟩⟩⟩
theorem ilX5 : ∀ w ∈ u_ws RX5 TX5 1, w ∈ wA := by
  have e : u_ws RX5 TX5 1 = [Cond.laysFinal "FarBanks$Row" "FarBanks$Row" "numbers" "[I"] := rfl
  rw [e]
  exact List.forall_mem_cons.mpr ⟨in_wA (tb1 42 rfl) rfl, fun _ h => absurd h List.not_mem_nil⟩
theorem ilX6 : ∀ w ∈ u_ws RX6 TX6 2, w ∈ wA := by
  have e : u_ws RX6 TX6 2 = [Cond.laysFinal "FarBanks$Text" "FarBanks$Text" "characters" "[C", Cond.lays "FarBanks$Text" "FarBanks$Text" "length" "I"] := rfl
  rw [e]
  exact List.forall_mem_cons.mpr ⟨in_wA (tb1 163 rfl) rfl, List.forall_mem_cons.mpr ⟨in_wA (tb1 165 rfl) rfl, fun _ h => absurd h List.not_mem_nil⟩⟩
theorem ilX7 : ∀ w ∈ u_ws RX7 TX7 2, w ∈ wA := by
  have e : u_ws RX7 TX7 2 = [Cond.laysFinal "FarBanks$Trail" "FarBanks$Trail" "parts" "LFarBanks$Row;", Cond.lays "FarBanks$Trail" "FarBanks$Trail" "total" "I"] := rfl
  rw [e]
  exact List.forall_mem_cons.mpr ⟨in_wA (tb1 100 rfl) rfl, List.forall_mem_cons.mpr ⟨in_wA (tb1 102 rfl) rfl, fun _ h => absurd h List.not_mem_nil⟩⟩
theorem ilX8 : ∀ w ∈ u_ws RX8 TX8 7, w ∈ wA := by
  have e : u_ws RX8 TX8 7 = [Cond.laysFinal "FarBanks" "FarBanks" "now" "LFarBanks$Machine;", Cond.laysFinal "FarBanks" "FarBanks" "trial" "LFarBanks$Machine;", Cond.laysFinal "FarBanks" "FarBanks" "snapshot" "LFarBanks$Machine;", Cond.laysFinal "FarBanks" "FarBanks" "history" "LFarBanks$History;", Cond.laysFinal "FarBanks" "FarBanks" "text" "LFarBanks$Text;", Cond.laysFinal "FarBanks" "FarBanks" "code" "LFarBanks$Code;", Cond.lays "FarBanks" "FarBanks" "hasSnapshot" "Z"] := rfl
  rw [e]
  exact List.forall_mem_cons.mpr ⟨in_wA (tb1 194 rfl) rfl, List.forall_mem_cons.mpr ⟨in_wA (tb1 196 rfl) rfl, List.forall_mem_cons.mpr ⟨in_wA (tb1 198 rfl) rfl, List.forall_mem_cons.mpr ⟨in_wA (tb1 200 rfl) rfl, List.forall_mem_cons.mpr ⟨in_wA (tb1 202 rfl) rfl, List.forall_mem_cons.mpr ⟨in_wA (tb1 204 rfl) rfl, List.forall_mem_cons.mpr ⟨in_wA (tb1 206 rfl) rfl, fun _ h => absurd h List.not_mem_nil⟩⟩⟩⟩⟩⟩⟩
end
section
theorem dX0_init_0 : decode cX0_init 0 = .ok (.aload_n 0, 1) := by decide +kernel
theorem dX0_init_1 : decode cX0_init 1 = .ok (.invokespecial 3, 3) := by decide +kernel
theorem dX0_init_4 : decode cX0_init 4 = .ok (.aload_n 0, 1) := by decide +kernel
theorem dX0_init_5 : decode cX0_init 5 = .ok (.new 9, 3) := by decide +kernel
theorem dX0_init_8 : decode cX0_init 8 = .ok (.dup, 1) := by decide +kernel
theorem dX0_init_9 : decode cX0_init 9 = .ok (.bipush 100, 2) := by decide +kernel
theorem dX0_init_11 : decode cX0_init 11 = .ok (.invokespecial 11, 3) := by decide +kernel
theorem dX0_init_14 : decode cX0_init 14 = .ok (.putfield 14, 3) := by decide +kernel
theorem dX0_init_17 : decode cX0_init 17 = .ok (.aload_n 0, 1) := by decide +kernel
theorem dX0_init_18 : decode cX0_init 18 = .ok (.new 9, 3) := by decide +kernel
theorem dX0_init_21 : decode cX0_init 21 = .ok (.dup, 1) := by decide +kernel
theorem dX0_init_22 : decode cX0_init 22 = .ok (.bipush 8, 2) := by decide +kernel
theorem dX0_init_24 : decode cX0_init 24 = .ok (.invokespecial 11, 3) := by decide +kernel
theorem dX0_init_27 : decode cX0_init 27 = .ok (.putfield 20, 3) := by decide +kernel
theorem dX0_init_30 : decode cX0_init 30 = .ok (.aload_n 0, 1) := by decide +kernel
theorem dX0_init_31 : decode cX0_init 31 = .ok (.new 9, 3) := by decide +kernel
theorem dX0_init_34 : decode cX0_init 34 = .ok (.dup, 1) := by decide +kernel
theorem dX0_init_35 : decode cX0_init 35 = .ok (.iconst 4, 1) := by decide +kernel
theorem dX0_init_36 : decode cX0_init 36 = .ok (.invokespecial 11, 3) := by decide +kernel
theorem dX0_init_39 : decode cX0_init 39 = .ok (.putfield 23, 3) := by decide +kernel
theorem dX0_init_42 : decode cX0_init 42 = .ok (.aload_n 0, 1) := by decide +kernel
theorem dX0_init_43 : decode cX0_init 43 = .ok (.new 9, 3) := by decide +kernel
theorem dX0_init_46 : decode cX0_init 46 = .ok (.dup, 1) := by decide +kernel
theorem dX0_init_47 : decode cX0_init 47 = .ok (.bipush 8, 2) := by decide +kernel
theorem dX0_init_49 : decode cX0_init 49 = .ok (.invokespecial 11, 3) := by decide +kernel
theorem dX0_init_52 : decode cX0_init 52 = .ok (.putfield 26, 3) := by decide +kernel
theorem dX0_init_55 : decode cX0_init 55 = .ok (.aload_n 0, 1) := by decide +kernel
theorem dX0_init_56 : decode cX0_init 56 = .ok (.new 9, 3) := by decide +kernel
theorem dX0_init_59 : decode cX0_init 59 = .ok (.dup, 1) := by decide +kernel
theorem dX0_init_60 : decode cX0_init 60 = .ok (.bipush 8, 2) := by decide +kernel
theorem dX0_init_62 : decode cX0_init 62 = .ok (.invokespecial 11, 3) := by decide +kernel
theorem dX0_init_65 : decode cX0_init 65 = .ok (.putfield 29, 3) := by decide +kernel
theorem dX0_init_68 : decode cX0_init 68 = .ok (.iconst 0, 1) := by decide +kernel
theorem dX0_init_69 : decode cX0_init 69 = .ok (.istore_n 1, 1) := by decide +kernel
theorem dX0_init_70 : decode cX0_init 70 = .ok (.iload_n 1, 1) := by decide +kernel
theorem dX0_init_71 : decode cX0_init 71 = .ok (.iconst 4, 1) := by decide +kernel
theorem dX0_init_72 : decode cX0_init 72 = .ok (.if_icmp .ge 18, 3) := by decide +kernel
theorem dX0_init_75 : decode cX0_init 75 = .ok (.aload_n 0, 1) := by decide +kernel
theorem dX0_init_76 : decode cX0_init 76 = .ok (.getfield 23, 3) := by decide +kernel
theorem dX0_init_79 : decode cX0_init 79 = .ok (.iload_n 1, 1) := by decide +kernel
theorem dX0_init_80 : decode cX0_init 80 = .ok (.iload_n 1, 1) := by decide +kernel
theorem dX0_init_81 : decode cX0_init 81 = .ok (.invokevirtual 32, 3) := by decide +kernel
theorem dX0_init_84 : decode cX0_init 84 = .ok (.iinc 1 1, 3) := by decide +kernel
theorem dX0_init_87 : decode cX0_init 87 = .ok (.goto (-17), 3) := by decide +kernel
theorem dX0_init_90 : decode cX0_init 90 = .ok (.return_, 1) := by decide +kernel
theorem dX0_copyFrom_0 : decode cX0_copyFrom 0 = .ok (.aload_n 0, 1) := by decide +kernel
theorem dX0_copyFrom_1 : decode cX0_copyFrom 1 = .ok (.getfield 14, 3) := by decide +kernel
theorem dX0_copyFrom_4 : decode cX0_copyFrom 4 = .ok (.aload_n 1, 1) := by decide +kernel
theorem dX0_copyFrom_5 : decode cX0_copyFrom 5 = .ok (.getfield 14, 3) := by decide +kernel
theorem dX0_copyFrom_8 : decode cX0_copyFrom 8 = .ok (.invokevirtual 36, 3) := by decide +kernel
theorem dX0_copyFrom_11 : decode cX0_copyFrom 11 = .ok (.aload_n 0, 1) := by decide +kernel
theorem dX0_copyFrom_12 : decode cX0_copyFrom 12 = .ok (.getfield 20, 3) := by decide +kernel
theorem dX0_copyFrom_15 : decode cX0_copyFrom 15 = .ok (.aload_n 1, 1) := by decide +kernel
theorem dX0_copyFrom_16 : decode cX0_copyFrom 16 = .ok (.getfield 20, 3) := by decide +kernel
theorem dX0_copyFrom_19 : decode cX0_copyFrom 19 = .ok (.invokevirtual 36, 3) := by decide +kernel
theorem dX0_copyFrom_22 : decode cX0_copyFrom 22 = .ok (.aload_n 0, 1) := by decide +kernel
theorem dX0_copyFrom_23 : decode cX0_copyFrom 23 = .ok (.getfield 23, 3) := by decide +kernel
theorem dX0_copyFrom_26 : decode cX0_copyFrom 26 = .ok (.aload_n 1, 1) := by decide +kernel
theorem dX0_copyFrom_27 : decode cX0_copyFrom 27 = .ok (.getfield 23, 3) := by decide +kernel
theorem dX0_copyFrom_30 : decode cX0_copyFrom 30 = .ok (.invokevirtual 36, 3) := by decide +kernel
theorem dX0_copyFrom_33 : decode cX0_copyFrom 33 = .ok (.aload_n 0, 1) := by decide +kernel
theorem dX0_copyFrom_34 : decode cX0_copyFrom 34 = .ok (.getfield 26, 3) := by decide +kernel
theorem dX0_copyFrom_37 : decode cX0_copyFrom 37 = .ok (.aload_n 1, 1) := by decide +kernel
theorem dX0_copyFrom_38 : decode cX0_copyFrom 38 = .ok (.getfield 26, 3) := by decide +kernel
theorem dX0_copyFrom_41 : decode cX0_copyFrom 41 = .ok (.invokevirtual 36, 3) := by decide +kernel
theorem dX0_copyFrom_44 : decode cX0_copyFrom 44 = .ok (.aload_n 0, 1) := by decide +kernel
theorem dX0_copyFrom_45 : decode cX0_copyFrom 45 = .ok (.getfield 29, 3) := by decide +kernel
theorem dX0_copyFrom_48 : decode cX0_copyFrom 48 = .ok (.aload_n 1, 1) := by decide +kernel
theorem dX0_copyFrom_49 : decode cX0_copyFrom 49 = .ok (.getfield 29, 3) := by decide +kernel
theorem dX0_copyFrom_52 : decode cX0_copyFrom 52 = .ok (.invokevirtual 36, 3) := by decide +kernel
theorem dX0_copyFrom_55 : decode cX0_copyFrom 55 = .ok (.return_, 1) := by decide +kernel
theorem dX0_numberIn_0 : decode cX0_numberIn 0 = .ok (.aload_n 0, 1) := by decide +kernel
theorem dX0_numberIn_1 : decode cX0_numberIn 1 = .ok (.getfield 14, 3) := by decide +kernel
theorem dX0_numberIn_4 : decode cX0_numberIn 4 = .ok (.iload_n 1, 1) := by decide +kernel
theorem dX0_numberIn_5 : decode cX0_numberIn 5 = .ok (.iload_n 2, 1) := by decide +kernel
theorem dX0_numberIn_6 : decode cX0_numberIn 6 = .ok (.invokestatic 40, 3) := by decide +kernel
theorem dX0_numberIn_9 : decode cX0_numberIn 9 = .ok (.invokevirtual 44, 3) := by decide +kernel
theorem dX0_numberIn_12 : decode cX0_numberIn 12 = .ok (.ireturn, 1) := by decide +kernel
theorem dX0_fill_0 : decode cX0_fill 0 = .ok (.aload_n 0, 1) := by decide +kernel
theorem dX0_fill_1 : decode cX0_fill 1 = .ok (.getfield 14, 3) := by decide +kernel
theorem dX0_fill_4 : decode cX0_fill 4 = .ok (.iload_n 1, 1) := by decide +kernel
theorem dX0_fill_5 : decode cX0_fill 5 = .ok (.iload_n 2, 1) := by decide +kernel
theorem dX0_fill_6 : decode cX0_fill 6 = .ok (.invokestatic 40, 3) := by decide +kernel
theorem dX0_fill_9 : decode cX0_fill 9 = .ok (.iload_n 3, 1) := by decide +kernel
theorem dX0_fill_10 : decode cX0_fill 10 = .ok (.invokevirtual 32, 3) := by decide +kernel
theorem dX0_fill_13 : decode cX0_fill 13 = .ok (.return_, 1) := by decide +kernel
theorem dX0_bankAt_0 : decode cX0_bankAt 0 = .ok (.aload_n 0, 1) := by decide +kernel
theorem dX0_bankAt_1 : decode cX0_bankAt 1 = .ok (.getfield 23, 3) := by decide +kernel
theorem dX0_bankAt_4 : decode cX0_bankAt 4 = .ok (.iload_n 1, 1) := by decide +kernel
theorem dX0_bankAt_5 : decode cX0_bankAt 5 = .ok (.bipush 16, 2) := by decide +kernel
theorem dX0_bankAt_7 : decode cX0_bankAt 7 = .ok (.idiv, 1) := by decide +kernel
theorem dX0_bankAt_8 : decode cX0_bankAt 8 = .ok (.invokevirtual 44, 3) := by decide +kernel
theorem dX0_bankAt_11 : decode cX0_bankAt 11 = .ok (.ireturn, 1) := by decide +kernel
theorem dX0_numberAt_0 : decode cX0_numberAt 0 = .ok (.aload_n 0, 1) := by decide +kernel
theorem dX0_numberAt_1 : decode cX0_numberAt 1 = .ok (.aload_n 0, 1) := by decide +kernel
theorem dX0_numberAt_2 : decode cX0_numberAt 2 = .ok (.iload_n 1, 1) := by decide +kernel
theorem dX0_numberAt_3 : decode cX0_numberAt 3 = .ok (.invokevirtual 48, 3) := by decide +kernel
theorem dX0_numberAt_6 : decode cX0_numberAt 6 = .ok (.iload_n 1, 1) := by decide +kernel
theorem dX0_numberAt_7 : decode cX0_numberAt 7 = .ok (.bipush 16, 2) := by decide +kernel
theorem dX0_numberAt_9 : decode cX0_numberAt 9 = .ok (.irem, 1) := by decide +kernel
theorem dX0_numberAt_10 : decode cX0_numberAt 10 = .ok (.invokevirtual 51, 3) := by decide +kernel
theorem dX0_numberAt_13 : decode cX0_numberAt 13 = .ok (.ireturn, 1) := by decide +kernel
theorem dX0_storeUnlessAlone_0 : decode cX0_storeUnlessAlone 0 = .ok (.aload_n 0, 1) := by decide +kernel
theorem dX0_storeUnlessAlone_1 : decode cX0_storeUnlessAlone 1 = .ok (.iload_n 1, 1) := by decide +kernel
theorem dX0_storeUnlessAlone_2 : decode cX0_storeUnlessAlone 2 = .ok (.invokevirtual 48, 3) := by decide +kernel
theorem dX0_storeUnlessAlone_5 : decode cX0_storeUnlessAlone 5 = .ok (.istore_n 3, 1) := by decide +kernel
theorem dX0_storeUnlessAlone_6 : decode cX0_storeUnlessAlone 6 = .ok (.aload_n 0, 1) := by decide +kernel
theorem dX0_storeUnlessAlone_7 : decode cX0_storeUnlessAlone 7 = .ok (.iload_n 3, 1) := by decide +kernel
theorem dX0_storeUnlessAlone_8 : decode cX0_storeUnlessAlone 8 = .ok (.invokevirtual 54, 3) := by decide +kernel
theorem dX0_storeUnlessAlone_11 : decode cX0_storeUnlessAlone 11 = .ok (.ifCond .eq 23, 3) := by decide +kernel
theorem dX0_storeUnlessAlone_14 : decode cX0_storeUnlessAlone 14 = .ok (.aload_n 0, 1) := by decide +kernel
theorem dX0_storeUnlessAlone_15 : decode cX0_storeUnlessAlone 15 = .ok (.getfield 29, 3) := by decide +kernel
theorem dX0_storeUnlessAlone_18 : decode cX0_storeUnlessAlone 18 = .ok (.iload_n 3, 1) := by decide +kernel
theorem dX0_storeUnlessAlone_19 : decode cX0_storeUnlessAlone 19 = .ok (.aload_n 0, 1) := by decide +kernel
theorem dX0_storeUnlessAlone_20 : decode cX0_storeUnlessAlone 20 = .ok (.getfield 29, 3) := by decide +kernel
theorem dX0_storeUnlessAlone_23 : decode cX0_storeUnlessAlone 23 = .ok (.iload_n 3, 1) := by decide +kernel
theorem dX0_storeUnlessAlone_24 : decode cX0_storeUnlessAlone 24 = .ok (.invokevirtual 44, 3) := by decide +kernel
theorem dX0_storeUnlessAlone_27 : decode cX0_storeUnlessAlone 27 = .ok (.iconst 1, 1) := by decide +kernel
theorem dX0_storeUnlessAlone_28 : decode cX0_storeUnlessAlone 28 = .ok (.iadd, 1) := by decide +kernel
theorem dX0_storeUnlessAlone_29 : decode cX0_storeUnlessAlone 29 = .ok (.invokevirtual 32, 3) := by decide +kernel
theorem dX0_storeUnlessAlone_32 : decode cX0_storeUnlessAlone 32 = .ok (.iconst 0, 1) := by decide +kernel
theorem dX0_storeUnlessAlone_33 : decode cX0_storeUnlessAlone 33 = .ok (.ireturn, 1) := by decide +kernel
theorem dX0_storeUnlessAlone_34 : decode cX0_storeUnlessAlone 34 = .ok (.aload_n 0, 1) := by decide +kernel
theorem dX0_storeUnlessAlone_35 : decode cX0_storeUnlessAlone 35 = .ok (.iload_n 3, 1) := by decide +kernel
theorem dX0_storeUnlessAlone_36 : decode cX0_storeUnlessAlone 36 = .ok (.iload_n 1, 1) := by decide +kernel
theorem dX0_storeUnlessAlone_37 : decode cX0_storeUnlessAlone 37 = .ok (.bipush 16, 2) := by decide +kernel
theorem dX0_storeUnlessAlone_39 : decode cX0_storeUnlessAlone 39 = .ok (.irem, 1) := by decide +kernel
theorem dX0_storeUnlessAlone_40 : decode cX0_storeUnlessAlone 40 = .ok (.iload_n 2, 1) := by decide +kernel
theorem dX0_storeUnlessAlone_41 : decode cX0_storeUnlessAlone 41 = .ok (.invokevirtual 58, 3) := by decide +kernel
theorem dX0_storeUnlessAlone_44 : decode cX0_storeUnlessAlone 44 = .ok (.aload_n 0, 1) := by decide +kernel
theorem dX0_storeUnlessAlone_45 : decode cX0_storeUnlessAlone 45 = .ok (.getfield 26, 3) := by decide +kernel
theorem dX0_storeUnlessAlone_48 : decode cX0_storeUnlessAlone 48 = .ok (.iload_n 3, 1) := by decide +kernel
theorem dX0_storeUnlessAlone_49 : decode cX0_storeUnlessAlone 49 = .ok (.aload_n 0, 1) := by decide +kernel
theorem dX0_storeUnlessAlone_50 : decode cX0_storeUnlessAlone 50 = .ok (.getfield 26, 3) := by decide +kernel
theorem dX0_storeUnlessAlone_53 : decode cX0_storeUnlessAlone 53 = .ok (.iload_n 3, 1) := by decide +kernel
theorem dX0_storeUnlessAlone_54 : decode cX0_storeUnlessAlone 54 = .ok (.invokevirtual 44, 3) := by decide +kernel
theorem dX0_storeUnlessAlone_57 : decode cX0_storeUnlessAlone 57 = .ok (.iconst 1, 1) := by decide +kernel
theorem dX0_storeUnlessAlone_58 : decode cX0_storeUnlessAlone 58 = .ok (.iadd, 1) := by decide +kernel
theorem dX0_storeUnlessAlone_59 : decode cX0_storeUnlessAlone 59 = .ok (.invokevirtual 32, 3) := by decide +kernel
theorem dX0_storeUnlessAlone_62 : decode cX0_storeUnlessAlone 62 = .ok (.iconst 1, 1) := by decide +kernel
theorem dX0_storeUnlessAlone_63 : decode cX0_storeUnlessAlone 63 = .ok (.ireturn, 1) := by decide +kernel
theorem dX0_isAlone_0 : decode cX0_isAlone 0 = .ok (.aload_n 0, 1) := by decide +kernel
theorem dX0_isAlone_1 : decode cX0_isAlone 1 = .ok (.getfield 20, 3) := by decide +kernel
theorem dX0_isAlone_4 : decode cX0_isAlone 4 = .ok (.iload_n 1, 1) := by decide +kernel
theorem dX0_isAlone_5 : decode cX0_isAlone 5 = .ok (.invokevirtual 44, 3) := by decide +kernel
theorem dX0_isAlone_8 : decode cX0_isAlone 8 = .ok (.iconst 1, 1) := by decide +kernel
theorem dX0_isAlone_9 : decode cX0_isAlone 9 = .ok (.if_icmp .ne 7, 3) := by decide +kernel
theorem dX0_isAlone_12 : decode cX0_isAlone 12 = .ok (.iconst 1, 1) := by decide +kernel
theorem dX0_isAlone_13 : decode cX0_isAlone 13 = .ok (.goto 4, 3) := by decide +kernel
theorem dX0_isAlone_16 : decode cX0_isAlone 16 = .ok (.iconst 0, 1) := by decide +kernel
theorem dX0_isAlone_17 : decode cX0_isAlone 17 = .ok (.ireturn, 1) := by decide +kernel
theorem dX0_differencesOf_0 : decode cX0_differencesOf 0 = .ok (.iconst 0, 1) := by decide +kernel
theorem dX0_differencesOf_1 : decode cX0_differencesOf 1 = .ok (.istore_n 3, 1) := by decide +kernel
theorem dX0_differencesOf_2 : decode cX0_differencesOf 2 = .ok (.iconst 0, 1) := by decide +kernel
theorem dX0_differencesOf_3 : decode cX0_differencesOf 3 = .ok (.istore 4, 2) := by decide +kernel
theorem dX0_differencesOf_5 : decode cX0_differencesOf 5 = .ok (.iload 4, 2) := by decide +kernel
theorem dX0_differencesOf_7 : decode cX0_differencesOf 7 = .ok (.bipush 12, 2) := by decide +kernel
theorem dX0_differencesOf_9 : decode cX0_differencesOf 9 = .ok (.if_icmp .ge 29, 3) := by decide +kernel
theorem dX0_differencesOf_12 : decode cX0_differencesOf 12 = .ok (.aload_n 0, 1) := by decide +kernel
theorem dX0_differencesOf_13 : decode cX0_differencesOf 13 = .ok (.iload_n 1, 1) := by decide +kernel
theorem dX0_differencesOf_14 : decode cX0_differencesOf 14 = .ok (.iload 4, 2) := by decide +kernel
theorem dX0_differencesOf_16 : decode cX0_differencesOf 16 = .ok (.invokevirtual 51, 3) := by decide +kernel
theorem dX0_differencesOf_19 : decode cX0_differencesOf 19 = .ok (.aload_n 0, 1) := by decide +kernel
theorem dX0_differencesOf_20 : decode cX0_differencesOf 20 = .ok (.iload_n 2, 1) := by decide +kernel
theorem dX0_differencesOf_21 : decode cX0_differencesOf 21 = .ok (.iload 4, 2) := by decide +kernel
theorem dX0_differencesOf_23 : decode cX0_differencesOf 23 = .ok (.invokevirtual 51, 3) := by decide +kernel
theorem dX0_differencesOf_26 : decode cX0_differencesOf 26 = .ok (.if_icmp .eq 6, 3) := by decide +kernel
theorem dX0_differencesOf_29 : decode cX0_differencesOf 29 = .ok (.iinc 3 1, 3) := by decide +kernel
theorem dX0_differencesOf_32 : decode cX0_differencesOf 32 = .ok (.iinc 4 1, 3) := by decide +kernel
theorem dX0_differencesOf_35 : decode cX0_differencesOf 35 = .ok (.goto (-30), 3) := by decide +kernel
theorem dX0_differencesOf_38 : decode cX0_differencesOf 38 = .ok (.iload_n 3, 1) := by decide +kernel
theorem dX0_differencesOf_39 : decode cX0_differencesOf 39 = .ok (.ireturn, 1) := by decide +kernel
theorem dX0_copyCells_0 : decode cX0_copyCells 0 = .ok (.iconst 0, 1) := by decide +kernel
theorem dX0_copyCells_1 : decode cX0_copyCells 1 = .ok (.istore_n 3, 1) := by decide +kernel
theorem dX0_copyCells_2 : decode cX0_copyCells 2 = .ok (.iload_n 3, 1) := by decide +kernel
theorem dX0_copyCells_3 : decode cX0_copyCells 3 = .ok (.bipush 12, 2) := by decide +kernel
theorem dX0_copyCells_5 : decode cX0_copyCells 5 = .ok (.if_icmp .ge 21, 3) := by decide +kernel
theorem dX0_copyCells_8 : decode cX0_copyCells 8 = .ok (.aload_n 0, 1) := by decide +kernel
theorem dX0_copyCells_9 : decode cX0_copyCells 9 = .ok (.iload_n 2, 1) := by decide +kernel
theorem dX0_copyCells_10 : decode cX0_copyCells 10 = .ok (.iload_n 3, 1) := by decide +kernel
theorem dX0_copyCells_11 : decode cX0_copyCells 11 = .ok (.aload_n 0, 1) := by decide +kernel
theorem dX0_copyCells_12 : decode cX0_copyCells 12 = .ok (.iload_n 1, 1) := by decide +kernel
theorem dX0_copyCells_13 : decode cX0_copyCells 13 = .ok (.iload_n 3, 1) := by decide +kernel
theorem dX0_copyCells_14 : decode cX0_copyCells 14 = .ok (.invokevirtual 51, 3) := by decide +kernel
theorem dX0_copyCells_17 : decode cX0_copyCells 17 = .ok (.invokevirtual 58, 3) := by decide +kernel
theorem dX0_copyCells_20 : decode cX0_copyCells 20 = .ok (.iinc 3 1, 3) := by decide +kernel
theorem dX0_copyCells_23 : decode cX0_copyCells 23 = .ok (.goto (-21), 3) := by decide +kernel
theorem dX0_copyCells_26 : decode cX0_copyCells 26 = .ok (.return_, 1) := by decide +kernel
theorem dX0_twinOf_0 : decode cX0_twinOf 0 = .ok (.iload_n 1, 1) := by decide +kernel
theorem dX0_twinOf_1 : decode cX0_twinOf 1 = .ok (.bipush 16, 2) := by decide +kernel
theorem dX0_twinOf_3 : decode cX0_twinOf 3 = .ok (.irem, 1) := by decide +kernel
theorem dX0_twinOf_4 : decode cX0_twinOf 4 = .ok (.istore_n 2, 1) := by decide +kernel
theorem dX0_twinOf_5 : decode cX0_twinOf 5 = .ok (.iconst 0, 1) := by decide +kernel
theorem dX0_twinOf_6 : decode cX0_twinOf 6 = .ok (.istore_n 3, 1) := by decide +kernel
theorem dX0_twinOf_7 : decode cX0_twinOf 7 = .ok (.iload_n 3, 1) := by decide +kernel
theorem dX0_twinOf_8 : decode cX0_twinOf 8 = .ok (.iconst 4, 1) := by decide +kernel
theorem dX0_twinOf_9 : decode cX0_twinOf 9 = .ok (.if_icmp .ge 58, 3) := by decide +kernel
theorem dX0_twinOf_12 : decode cX0_twinOf 12 = .ok (.iload_n 3, 1) := by decide +kernel
theorem dX0_twinOf_13 : decode cX0_twinOf 13 = .ok (.bipush 16, 2) := by decide +kernel
theorem dX0_twinOf_15 : decode cX0_twinOf 15 = .ok (.imul, 1) := by decide +kernel
theorem dX0_twinOf_16 : decode cX0_twinOf 16 = .ok (.iload_n 2, 1) := by decide +kernel
theorem dX0_twinOf_17 : decode cX0_twinOf 17 = .ok (.iadd, 1) := by decide +kernel
theorem dX0_twinOf_18 : decode cX0_twinOf 18 = .ok (.istore 4, 2) := by decide +kernel
theorem dX0_twinOf_20 : decode cX0_twinOf 20 = .ok (.iload_n 2, 1) := by decide +kernel
theorem dX0_twinOf_21 : decode cX0_twinOf 21 = .ok (.bipush 12, 2) := by decide +kernel
theorem dX0_twinOf_23 : decode cX0_twinOf 23 = .ok (.if_icmp .ge 17, 3) := by decide +kernel
theorem dX0_twinOf_26 : decode cX0_twinOf 26 = .ok (.aload_n 0, 1) := by decide +kernel
theorem dX0_twinOf_27 : decode cX0_twinOf 27 = .ok (.iload 4, 2) := by decide +kernel
theorem dX0_twinOf_29 : decode cX0_twinOf 29 = .ok (.invokevirtual 48, 3) := by decide +kernel
theorem dX0_twinOf_32 : decode cX0_twinOf 32 = .ok (.aload_n 0, 1) := by decide +kernel
theorem dX0_twinOf_33 : decode cX0_twinOf 33 = .ok (.iload_n 1, 1) := by decide +kernel
theorem dX0_twinOf_34 : decode cX0_twinOf 34 = .ok (.invokevirtual 48, 3) := by decide +kernel
theorem dX0_twinOf_37 : decode cX0_twinOf 37 = .ok (.if_icmp .ne 7, 3) := by decide +kernel
theorem dX0_twinOf_40 : decode cX0_twinOf 40 = .ok (.iconst 1, 1) := by decide +kernel
theorem dX0_twinOf_41 : decode cX0_twinOf 41 = .ok (.goto 4, 3) := by decide +kernel
theorem dX0_twinOf_44 : decode cX0_twinOf 44 = .ok (.iconst 0, 1) := by decide +kernel
theorem dX0_twinOf_45 : decode cX0_twinOf 45 = .ok (.istore 5, 2) := by decide +kernel
theorem dX0_twinOf_47 : decode cX0_twinOf 47 = .ok (.iload 4, 2) := by decide +kernel
theorem dX0_twinOf_49 : decode cX0_twinOf 49 = .ok (.iload_n 1, 1) := by decide +kernel
theorem dX0_twinOf_50 : decode cX0_twinOf 50 = .ok (.if_icmp .eq 11, 3) := by decide +kernel
theorem dX0_twinOf_53 : decode cX0_twinOf 53 = .ok (.iload 5, 2) := by decide +kernel
theorem dX0_twinOf_55 : decode cX0_twinOf 55 = .ok (.ifCond .eq 6, 3) := by decide +kernel
theorem dX0_twinOf_58 : decode cX0_twinOf 58 = .ok (.iload 4, 2) := by decide +kernel
theorem dX0_twinOf_60 : decode cX0_twinOf 60 = .ok (.ireturn, 1) := by decide +kernel
theorem dX0_twinOf_61 : decode cX0_twinOf 61 = .ok (.iinc 3 1, 3) := by decide +kernel
theorem dX0_twinOf_64 : decode cX0_twinOf 64 = .ok (.goto (-57), 3) := by decide +kernel
theorem dX0_twinOf_67 : decode cX0_twinOf 67 = .ok (.bipush (-5), 2) := by decide +kernel
theorem dX0_twinOf_69 : decode cX0_twinOf 69 = .ok (.ireturn, 1) := by decide +kernel
theorem dX0_windowsOf_0 : decode cX0_windowsOf 0 = .ok (.iconst 0, 1) := by decide +kernel
theorem dX0_windowsOf_1 : decode cX0_windowsOf 1 = .ok (.istore_n 2, 1) := by decide +kernel
theorem dX0_windowsOf_2 : decode cX0_windowsOf 2 = .ok (.iconst 0, 1) := by decide +kernel
theorem dX0_windowsOf_3 : decode cX0_windowsOf 3 = .ok (.istore_n 3, 1) := by decide +kernel
theorem dX0_windowsOf_4 : decode cX0_windowsOf 4 = .ok (.iload_n 3, 1) := by decide +kernel
theorem dX0_windowsOf_5 : decode cX0_windowsOf 5 = .ok (.iconst 4, 1) := by decide +kernel
theorem dX0_windowsOf_6 : decode cX0_windowsOf 6 = .ok (.if_icmp .ge 27, 3) := by decide +kernel
theorem dX0_windowsOf_9 : decode cX0_windowsOf 9 = .ok (.aload_n 0, 1) := by decide +kernel
theorem dX0_windowsOf_10 : decode cX0_windowsOf 10 = .ok (.getfield 23, 3) := by decide +kernel
theorem dX0_windowsOf_13 : decode cX0_windowsOf 13 = .ok (.iload_n 3, 1) := by decide +kernel
theorem dX0_windowsOf_14 : decode cX0_windowsOf 14 = .ok (.invokevirtual 44, 3) := by decide +kernel
theorem dX0_windowsOf_17 : decode cX0_windowsOf 17 = .ok (.iload_n 1, 1) := by decide +kernel
theorem dX0_windowsOf_18 : decode cX0_windowsOf 18 = .ok (.if_icmp .ne 9, 3) := by decide +kernel
theorem dX0_windowsOf_21 : decode cX0_windowsOf 21 = .ok (.iload_n 2, 1) := by decide +kernel
theorem dX0_windowsOf_22 : decode cX0_windowsOf 22 = .ok (.iconst 1, 1) := by decide +kernel
theorem dX0_windowsOf_23 : decode cX0_windowsOf 23 = .ok (.iload_n 3, 1) := by decide +kernel
theorem dX0_windowsOf_24 : decode cX0_windowsOf 24 = .ok (.ishl, 1) := by decide +kernel
theorem dX0_windowsOf_25 : decode cX0_windowsOf 25 = .ok (.ior, 1) := by decide +kernel
theorem dX0_windowsOf_26 : decode cX0_windowsOf 26 = .ok (.istore_n 2, 1) := by decide +kernel
theorem dX0_windowsOf_27 : decode cX0_windowsOf 27 = .ok (.iinc 3 1, 3) := by decide +kernel
theorem dX0_windowsOf_30 : decode cX0_windowsOf 30 = .ok (.goto (-26), 3) := by decide +kernel
theorem dX0_windowsOf_33 : decode cX0_windowsOf 33 = .ok (.iload_n 2, 1) := by decide +kernel
theorem dX0_windowsOf_34 : decode cX0_windowsOf 34 = .ok (.ireturn, 1) := by decide +kernel
theorem dX0_usedCellsOf_0 : decode cX0_usedCellsOf 0 = .ok (.iconst 0, 1) := by decide +kernel
theorem dX0_usedCellsOf_1 : decode cX0_usedCellsOf 1 = .ok (.istore_n 2, 1) := by decide +kernel
theorem dX0_usedCellsOf_2 : decode cX0_usedCellsOf 2 = .ok (.iconst 0, 1) := by decide +kernel
theorem dX0_usedCellsOf_3 : decode cX0_usedCellsOf 3 = .ok (.istore_n 3, 1) := by decide +kernel
theorem dX0_usedCellsOf_4 : decode cX0_usedCellsOf 4 = .ok (.iload_n 3, 1) := by decide +kernel
theorem dX0_usedCellsOf_5 : decode cX0_usedCellsOf 5 = .ok (.bipush 12, 2) := by decide +kernel
theorem dX0_usedCellsOf_7 : decode cX0_usedCellsOf 7 = .ok (.if_icmp .ge 21, 3) := by decide +kernel
theorem dX0_usedCellsOf_10 : decode cX0_usedCellsOf 10 = .ok (.aload_n 0, 1) := by decide +kernel
theorem dX0_usedCellsOf_11 : decode cX0_usedCellsOf 11 = .ok (.iload_n 1, 1) := by decide +kernel
theorem dX0_usedCellsOf_12 : decode cX0_usedCellsOf 12 = .ok (.iload_n 3, 1) := by decide +kernel
theorem dX0_usedCellsOf_13 : decode cX0_usedCellsOf 13 = .ok (.invokevirtual 51, 3) := by decide +kernel
theorem dX0_usedCellsOf_16 : decode cX0_usedCellsOf 16 = .ok (.ifCond .eq 6, 3) := by decide +kernel
theorem dX0_usedCellsOf_19 : decode cX0_usedCellsOf 19 = .ok (.iinc 2 1, 3) := by decide +kernel
theorem dX0_usedCellsOf_22 : decode cX0_usedCellsOf 22 = .ok (.iinc 3 1, 3) := by decide +kernel
theorem dX0_usedCellsOf_25 : decode cX0_usedCellsOf 25 = .ok (.goto (-21), 3) := by decide +kernel
theorem dX0_usedCellsOf_28 : decode cX0_usedCellsOf 28 = .ok (.iload_n 2, 1) := by decide +kernel
theorem dX0_usedCellsOf_29 : decode cX0_usedCellsOf 29 = .ok (.ireturn, 1) := by decide +kernel
theorem dX0_indexOf_0 : decode cX0_indexOf 0 = .ok (.iload_n 1, 1) := by decide +kernel
theorem dX0_indexOf_1 : decode cX0_indexOf 1 = .ok (.bipush 12, 2) := by decide +kernel
theorem dX0_indexOf_3 : decode cX0_indexOf 3 = .ok (.if_icmp .ge 12, 3) := by decide +kernel
theorem dX0_indexOf_6 : decode cX0_indexOf 6 = .ok (.iload_n 0, 1) := by decide +kernel
theorem dX0_indexOf_7 : decode cX0_indexOf 7 = .ok (.bipush 12, 2) := by decide +kernel
theorem dX0_indexOf_9 : decode cX0_indexOf 9 = .ok (.imul, 1) := by decide +kernel
theorem dX0_indexOf_10 : decode cX0_indexOf 10 = .ok (.iload_n 1, 1) := by decide +kernel
theorem dX0_indexOf_11 : decode cX0_indexOf 11 = .ok (.iadd, 1) := by decide +kernel
theorem dX0_indexOf_12 : decode cX0_indexOf 12 = .ok (.goto 10, 3) := by decide +kernel
theorem dX0_indexOf_15 : decode cX0_indexOf 15 = .ok (.bipush 96, 2) := by decide +kernel
theorem dX0_indexOf_17 : decode cX0_indexOf 17 = .ok (.iload_n 1, 1) := by decide +kernel
theorem dX0_indexOf_18 : decode cX0_indexOf 18 = .ok (.iadd, 1) := by decide +kernel
theorem dX0_indexOf_19 : decode cX0_indexOf 19 = .ok (.bipush 12, 2) := by decide +kernel
theorem dX0_indexOf_21 : decode cX0_indexOf 21 = .ok (.isub, 1) := by decide +kernel
theorem dX0_indexOf_22 : decode cX0_indexOf 22 = .ok (.ireturn, 1) := by decide +kernel
theorem dX1_init_0 : decode cX1_init 0 = .ok (.aload_n 0, 1) := by decide +kernel
theorem dX1_init_1 : decode cX1_init 1 = .ok (.invokespecial 3, 3) := by decide +kernel
theorem dX1_init_4 : decode cX1_init 4 = .ok (.aload_n 0, 1) := by decide +kernel
theorem dX1_init_5 : decode cX1_init 5 = .ok (.new 9, 3) := by decide +kernel
theorem dX1_init_8 : decode cX1_init 8 = .ok (.dup, 1) := by decide +kernel
theorem dX1_init_9 : decode cX1_init 9 = .ok (.bipush 16, 2) := by decide +kernel
theorem dX1_init_11 : decode cX1_init 11 = .ok (.invokespecial 11, 3) := by decide +kernel
theorem dX1_init_14 : decode cX1_init 14 = .ok (.putfield 14, 3) := by decide +kernel
theorem dX1_init_17 : decode cX1_init 17 = .ok (.return_, 1) := by decide +kernel
theorem dX2_init_0 : decode cX2_init 0 = .ok (.aload_n 0, 1) := by decide +kernel
theorem dX2_init_1 : decode cX2_init 1 = .ok (.invokespecial 3, 3) := by decide +kernel
theorem dX2_init_4 : decode cX2_init 4 = .ok (.aload_n 0, 1) := by decide +kernel
theorem dX2_init_5 : decode cX2_init 5 = .ok (.new 9, 3) := by decide +kernel
theorem dX2_init_8 : decode cX2_init 8 = .ok (.dup, 1) := by decide +kernel
theorem dX2_init_9 : decode cX2_init 9 = .ok (.bipush 24, 2) := by decide +kernel
theorem dX2_init_11 : decode cX2_init 11 = .ok (.invokespecial 13, 3) := by decide +kernel
theorem dX2_init_14 : decode cX2_init 14 = .ok (.putfield 16, 3) := by decide +kernel
theorem dX2_init_17 : decode cX2_init 17 = .ok (.return_, 1) := by decide +kernel
theorem dX2_copyFrom_0 : decode cX2_copyFrom 0 = .ok (.aload_n 0, 1) := by decide +kernel
theorem dX2_copyFrom_1 : decode cX2_copyFrom 1 = .ok (.getfield 16, 3) := by decide +kernel
theorem dX2_copyFrom_4 : decode cX2_copyFrom 4 = .ok (.aload_n 1, 1) := by decide +kernel
theorem dX2_copyFrom_5 : decode cX2_copyFrom 5 = .ok (.getfield 16, 3) := by decide +kernel
theorem dX2_copyFrom_8 : decode cX2_copyFrom 8 = .ok (.invokevirtual 20, 3) := by decide +kernel
theorem dX2_copyFrom_11 : decode cX2_copyFrom 11 = .ok (.aload_n 0, 1) := by decide +kernel
theorem dX2_copyFrom_12 : decode cX2_copyFrom 12 = .ok (.aload_n 1, 1) := by decide +kernel
theorem dX2_copyFrom_13 : decode cX2_copyFrom 13 = .ok (.getfield 24, 3) := by decide +kernel
theorem dX2_copyFrom_16 : decode cX2_copyFrom 16 = .ok (.putfield 24, 3) := by decide +kernel
theorem dX2_copyFrom_19 : decode cX2_copyFrom 19 = .ok (.return_, 1) := by decide +kernel
theorem dX2_add_0 : decode cX2_add 0 = .ok (.aload_n 0, 1) := by decide +kernel
theorem dX2_add_1 : decode cX2_add 1 = .ok (.getfield 24, 3) := by decide +kernel
theorem dX2_add_4 : decode cX2_add 4 = .ok (.iconst 3, 1) := by decide +kernel
theorem dX2_add_5 : decode cX2_add 5 = .ok (.imul, 1) := by decide +kernel
theorem dX2_add_6 : decode cX2_add 6 = .ok (.istore 4, 2) := by decide +kernel
theorem dX2_add_8 : decode cX2_add 8 = .ok (.aload_n 0, 1) := by decide +kernel
theorem dX2_add_9 : decode cX2_add 9 = .ok (.getfield 16, 3) := by decide +kernel
theorem dX2_add_12 : decode cX2_add 12 = .ok (.iload 4, 2) := by decide +kernel
theorem dX2_add_14 : decode cX2_add 14 = .ok (.iconst 0, 1) := by decide +kernel
theorem dX2_add_15 : decode cX2_add 15 = .ok (.iadd, 1) := by decide +kernel
theorem dX2_add_16 : decode cX2_add 16 = .ok (.iload_n 1, 1) := by decide +kernel
theorem dX2_add_17 : decode cX2_add 17 = .ok (.invokevirtual 28, 3) := by decide +kernel
theorem dX2_add_20 : decode cX2_add 20 = .ok (.aload_n 0, 1) := by decide +kernel
theorem dX2_add_21 : decode cX2_add 21 = .ok (.getfield 16, 3) := by decide +kernel
theorem dX2_add_24 : decode cX2_add 24 = .ok (.iload 4, 2) := by decide +kernel
theorem dX2_add_26 : decode cX2_add 26 = .ok (.iconst 1, 1) := by decide +kernel
theorem dX2_add_27 : decode cX2_add 27 = .ok (.iadd, 1) := by decide +kernel
theorem dX2_add_28 : decode cX2_add 28 = .ok (.iload_n 2, 1) := by decide +kernel
theorem dX2_add_29 : decode cX2_add 29 = .ok (.invokevirtual 28, 3) := by decide +kernel
theorem dX2_add_32 : decode cX2_add 32 = .ok (.aload_n 0, 1) := by decide +kernel
theorem dX2_add_33 : decode cX2_add 33 = .ok (.getfield 16, 3) := by decide +kernel
theorem dX2_add_36 : decode cX2_add 36 = .ok (.iload 4, 2) := by decide +kernel
theorem dX2_add_38 : decode cX2_add 38 = .ok (.iconst 2, 1) := by decide +kernel
theorem dX2_add_39 : decode cX2_add 39 = .ok (.iadd, 1) := by decide +kernel
theorem dX2_add_40 : decode cX2_add 40 = .ok (.iload_n 3, 1) := by decide +kernel
theorem dX2_add_41 : decode cX2_add 41 = .ok (.invokevirtual 28, 3) := by decide +kernel
theorem dX2_add_44 : decode cX2_add 44 = .ok (.aload_n 0, 1) := by decide +kernel
theorem dX2_add_45 : decode cX2_add 45 = .ok (.dup, 1) := by decide +kernel
theorem dX2_add_46 : decode cX2_add 46 = .ok (.getfield 24, 3) := by decide +kernel
theorem dX2_add_49 : decode cX2_add 49 = .ok (.iconst 1, 1) := by decide +kernel
theorem dX2_add_50 : decode cX2_add 50 = .ok (.iadd, 1) := by decide +kernel
theorem dX2_add_51 : decode cX2_add 51 = .ok (.putfield 24, 3) := by decide +kernel
theorem dX2_add_54 : decode cX2_add 54 = .ok (.return_, 1) := by decide +kernel
theorem dX2_tell_0 : decode cX2_tell 0 = .ok (.aload_n 0, 1) := by decide +kernel
theorem dX2_tell_1 : decode cX2_tell 1 = .ok (.getfield 16, 3) := by decide +kernel
theorem dX2_tell_4 : decode cX2_tell 4 = .ok (.aload_n 0, 1) := by decide +kernel
theorem dX2_tell_5 : decode cX2_tell 5 = .ok (.getfield 24, 3) := by decide +kernel
theorem dX2_tell_8 : decode cX2_tell 8 = .ok (.iconst 1, 1) := by decide +kernel
theorem dX2_tell_9 : decode cX2_tell 9 = .ok (.isub, 1) := by decide +kernel
theorem dX2_tell_10 : decode cX2_tell 10 = .ok (.iload_n 1, 1) := by decide +kernel
theorem dX2_tell_11 : decode cX2_tell 11 = .ok (.isub, 1) := by decide +kernel
theorem dX2_tell_12 : decode cX2_tell 12 = .ok (.iconst 3, 1) := by decide +kernel
theorem dX2_tell_13 : decode cX2_tell 13 = .ok (.imul, 1) := by decide +kernel
theorem dX2_tell_14 : decode cX2_tell 14 = .ok (.iload_n 2, 1) := by decide +kernel
theorem dX2_tell_15 : decode cX2_tell 15 = .ok (.iadd, 1) := by decide +kernel
theorem dX2_tell_16 : decode cX2_tell 16 = .ok (.invokevirtual 32, 3) := by decide +kernel
theorem dX2_tell_19 : decode cX2_tell 19 = .ok (.ireturn, 1) := by decide +kernel
theorem dX2_howManyBackTo_0 : decode cX2_howManyBackTo 0 = .ok (.iconst 0, 1) := by decide +kernel
theorem dX2_howManyBackTo_1 : decode cX2_howManyBackTo 1 = .ok (.istore_n 2, 1) := by decide +kernel
theorem dX2_howManyBackTo_2 : decode cX2_howManyBackTo 2 = .ok (.iconst 0, 1) := by decide +kernel
theorem dX2_howManyBackTo_3 : decode cX2_howManyBackTo 3 = .ok (.istore_n 3, 1) := by decide +kernel
theorem dX2_howManyBackTo_4 : decode cX2_howManyBackTo 4 = .ok (.iload_n 3, 1) := by decide +kernel
theorem dX2_howManyBackTo_5 : decode cX2_howManyBackTo 5 = .ok (.aload_n 0, 1) := by decide +kernel
theorem dX2_howManyBackTo_6 : decode cX2_howManyBackTo 6 = .ok (.getfield 24, 3) := by decide +kernel
theorem dX2_howManyBackTo_9 : decode cX2_howManyBackTo 9 = .ok (.if_icmp .ge 22, 3) := by decide +kernel
theorem dX2_howManyBackTo_12 : decode cX2_howManyBackTo 12 = .ok (.aload_n 0, 1) := by decide +kernel
theorem dX2_howManyBackTo_13 : decode cX2_howManyBackTo 13 = .ok (.iload_n 3, 1) := by decide +kernel
theorem dX2_howManyBackTo_14 : decode cX2_howManyBackTo 14 = .ok (.iconst 1, 1) := by decide +kernel
theorem dX2_howManyBackTo_15 : decode cX2_howManyBackTo 15 = .ok (.invokevirtual 36, 3) := by decide +kernel
theorem dX2_howManyBackTo_18 : decode cX2_howManyBackTo 18 = .ok (.iload_n 1, 1) := by decide +kernel
theorem dX2_howManyBackTo_19 : decode cX2_howManyBackTo 19 = .ok (.if_icmp .ne 6, 3) := by decide +kernel
theorem dX2_howManyBackTo_22 : decode cX2_howManyBackTo 22 = .ok (.iinc 2 1, 3) := by decide +kernel
theorem dX2_howManyBackTo_25 : decode cX2_howManyBackTo 25 = .ok (.iinc 3 1, 3) := by decide +kernel
theorem dX2_howManyBackTo_28 : decode cX2_howManyBackTo 28 = .ok (.goto (-24), 3) := by decide +kernel
theorem dX2_howManyBackTo_31 : decode cX2_howManyBackTo 31 = .ok (.iload_n 2, 1) := by decide +kernel
theorem dX2_howManyBackTo_32 : decode cX2_howManyBackTo 32 = .ok (.ireturn, 1) := by decide +kernel
theorem dX3_init_0 : decode cX3_init 0 = .ok (.aload_n 0, 1) := by decide +kernel
theorem dX3_init_1 : decode cX3_init 1 = .ok (.invokespecial 3, 3) := by decide +kernel
theorem dX3_init_4 : decode cX3_init 4 = .ok (.aload_n 0, 1) := by decide +kernel
theorem dX3_init_5 : decode cX3_init 5 = .ok (.iconst 4, 1) := by decide +kernel
theorem dX3_init_6 : decode cX3_init 6 = .ok (.anewarray 9, 3) := by decide +kernel
theorem dX3_init_9 : decode cX3_init 9 = .ok (.putfield 11, 3) := by decide +kernel
theorem dX3_init_12 : decode cX3_init 12 = .ok (.iconst 0, 1) := by decide +kernel
theorem dX3_init_13 : decode cX3_init 13 = .ok (.istore_n 1, 1) := by decide +kernel
theorem dX3_init_14 : decode cX3_init 14 = .ok (.iload_n 1, 1) := by decide +kernel
theorem dX3_init_15 : decode cX3_init 15 = .ok (.aload_n 0, 1) := by decide +kernel
theorem dX3_init_16 : decode cX3_init 16 = .ok (.getfield 11, 3) := by decide +kernel
theorem dX3_init_19 : decode cX3_init 19 = .ok (.arraylength, 1) := by decide +kernel
theorem dX3_init_20 : decode cX3_init 20 = .ok (.if_icmp .ge 22, 3) := by decide +kernel
theorem dX3_init_23 : decode cX3_init 23 = .ok (.aload_n 0, 1) := by decide +kernel
theorem dX3_init_24 : decode cX3_init 24 = .ok (.getfield 11, 3) := by decide +kernel
theorem dX3_init_27 : decode cX3_init 27 = .ok (.iload_n 1, 1) := by decide +kernel
theorem dX3_init_28 : decode cX3_init 28 = .ok (.new 9, 3) := by decide +kernel
theorem dX3_init_31 : decode cX3_init 31 = .ok (.dup, 1) := by decide +kernel
theorem dX3_init_32 : decode cX3_init 32 = .ok (.invokespecial 17, 3) := by decide +kernel
theorem dX3_init_35 : decode cX3_init 35 = .ok (.aastore, 1) := by decide +kernel
theorem dX3_init_36 : decode cX3_init 36 = .ok (.iinc 1 1, 3) := by decide +kernel
theorem dX3_init_39 : decode cX3_init 39 = .ok (.goto (-25), 3) := by decide +kernel
theorem dX3_init_42 : decode cX3_init 42 = .ok (.return_, 1) := by decide +kernel
theorem dX3_remember_0 : decode cX3_remember 0 = .ok (.aload_n 0, 1) := by decide +kernel
theorem dX3_remember_1 : decode cX3_remember 1 = .ok (.getfield 18, 3) := by decide +kernel
theorem dX3_remember_4 : decode cX3_remember 4 = .ok (.iconst 4, 1) := by decide +kernel
theorem dX3_remember_5 : decode cX3_remember 5 = .ok (.if_icmp .ne 7, 3) := by decide +kernel
theorem dX3_remember_8 : decode cX3_remember 8 = .ok (.aload_n 0, 1) := by decide +kernel
theorem dX3_remember_9 : decode cX3_remember 9 = .ok (.invokevirtual 22, 3) := by decide +kernel
theorem dX3_remember_12 : decode cX3_remember 12 = .ok (.aload_n 0, 1) := by decide +kernel
theorem dX3_remember_13 : decode cX3_remember 13 = .ok (.getfield 18, 3) := by decide +kernel
theorem dX3_remember_16 : decode cX3_remember 16 = .ok (.ifCond .lt 38, 3) := by decide +kernel
theorem dX3_remember_19 : decode cX3_remember 19 = .ok (.aload_n 0, 1) := by decide +kernel
theorem dX3_remember_20 : decode cX3_remember 20 = .ok (.getfield 18, 3) := by decide +kernel
theorem dX3_remember_23 : decode cX3_remember 23 = .ok (.aload_n 0, 1) := by decide +kernel
theorem dX3_remember_24 : decode cX3_remember 24 = .ok (.getfield 11, 3) := by decide +kernel
theorem dX3_remember_27 : decode cX3_remember 27 = .ok (.arraylength, 1) := by decide +kernel
theorem dX3_remember_28 : decode cX3_remember 28 = .ok (.if_icmp .ge 26, 3) := by decide +kernel
theorem dX3_remember_31 : decode cX3_remember 31 = .ok (.aload_n 0, 1) := by decide +kernel
theorem dX3_remember_32 : decode cX3_remember 32 = .ok (.getfield 11, 3) := by decide +kernel
theorem dX3_remember_35 : decode cX3_remember 35 = .ok (.aload_n 0, 1) := by decide +kernel
theorem dX3_remember_36 : decode cX3_remember 36 = .ok (.getfield 18, 3) := by decide +kernel
theorem dX3_remember_39 : decode cX3_remember 39 = .ok (.aaload, 1) := by decide +kernel
theorem dX3_remember_40 : decode cX3_remember 40 = .ok (.aload_n 1, 1) := by decide +kernel
theorem dX3_remember_41 : decode cX3_remember 41 = .ok (.invokevirtual 25, 3) := by decide +kernel
theorem dX3_remember_44 : decode cX3_remember 44 = .ok (.aload_n 0, 1) := by decide +kernel
theorem dX3_remember_45 : decode cX3_remember 45 = .ok (.dup, 1) := by decide +kernel
theorem dX3_remember_46 : decode cX3_remember 46 = .ok (.getfield 18, 3) := by decide +kernel
theorem dX3_remember_49 : decode cX3_remember 49 = .ok (.iconst 1, 1) := by decide +kernel
theorem dX3_remember_50 : decode cX3_remember 50 = .ok (.iadd, 1) := by decide +kernel
theorem dX3_remember_51 : decode cX3_remember 51 = .ok (.putfield 18, 3) := by decide +kernel
theorem dX3_remember_54 : decode cX3_remember 54 = .ok (.return_, 1) := by decide +kernel
theorem dX3_bringBack_0 : decode cX3_bringBack 0 = .ok (.aload_n 0, 1) := by decide +kernel
theorem dX3_bringBack_1 : decode cX3_bringBack 1 = .ok (.getfield 18, 3) := by decide +kernel
theorem dX3_bringBack_4 : decode cX3_bringBack 4 = .ok (.ifCond .le 38, 3) := by decide +kernel
theorem dX3_bringBack_7 : decode cX3_bringBack 7 = .ok (.aload_n 0, 1) := by decide +kernel
theorem dX3_bringBack_8 : decode cX3_bringBack 8 = .ok (.getfield 18, 3) := by decide +kernel
theorem dX3_bringBack_11 : decode cX3_bringBack 11 = .ok (.aload_n 0, 1) := by decide +kernel
theorem dX3_bringBack_12 : decode cX3_bringBack 12 = .ok (.getfield 11, 3) := by decide +kernel
theorem dX3_bringBack_15 : decode cX3_bringBack 15 = .ok (.arraylength, 1) := by decide +kernel
theorem dX3_bringBack_16 : decode cX3_bringBack 16 = .ok (.if_icmp .gt 26, 3) := by decide +kernel
theorem dX3_bringBack_19 : decode cX3_bringBack 19 = .ok (.aload_n 0, 1) := by decide +kernel
theorem dX3_bringBack_20 : decode cX3_bringBack 20 = .ok (.dup, 1) := by decide +kernel
theorem dX3_bringBack_21 : decode cX3_bringBack 21 = .ok (.getfield 18, 3) := by decide +kernel
theorem dX3_bringBack_24 : decode cX3_bringBack 24 = .ok (.iconst 1, 1) := by decide +kernel
theorem dX3_bringBack_25 : decode cX3_bringBack 25 = .ok (.isub, 1) := by decide +kernel
theorem dX3_bringBack_26 : decode cX3_bringBack 26 = .ok (.putfield 18, 3) := by decide +kernel
theorem dX3_bringBack_29 : decode cX3_bringBack 29 = .ok (.aload_n 1, 1) := by decide +kernel
theorem dX3_bringBack_30 : decode cX3_bringBack 30 = .ok (.aload_n 0, 1) := by decide +kernel
theorem dX3_bringBack_31 : decode cX3_bringBack 31 = .ok (.getfield 11, 3) := by decide +kernel
theorem dX3_bringBack_34 : decode cX3_bringBack 34 = .ok (.aload_n 0, 1) := by decide +kernel
theorem dX3_bringBack_35 : decode cX3_bringBack 35 = .ok (.getfield 18, 3) := by decide +kernel
theorem dX3_bringBack_38 : decode cX3_bringBack 38 = .ok (.aaload, 1) := by decide +kernel
theorem dX3_bringBack_39 : decode cX3_bringBack 39 = .ok (.invokevirtual 25, 3) := by decide +kernel
theorem dX3_bringBack_42 : decode cX3_bringBack 42 = .ok (.return_, 1) := by decide +kernel
theorem dX3_dropOldest_0 : decode cX3_dropOldest 0 = .ok (.aload_n 0, 1) := by decide +kernel
theorem dX3_dropOldest_1 : decode cX3_dropOldest 1 = .ok (.getfield 11, 3) := by decide +kernel
theorem dX3_dropOldest_4 : decode cX3_dropOldest 4 = .ok (.iconst 0, 1) := by decide +kernel
theorem dX3_dropOldest_5 : decode cX3_dropOldest 5 = .ok (.aaload, 1) := by decide +kernel
theorem dX3_dropOldest_6 : decode cX3_dropOldest 6 = .ok (.astore_n 1, 1) := by decide +kernel
theorem dX3_dropOldest_7 : decode cX3_dropOldest 7 = .ok (.iconst 1, 1) := by decide +kernel
theorem dX3_dropOldest_8 : decode cX3_dropOldest 8 = .ok (.istore_n 2, 1) := by decide +kernel
theorem dX3_dropOldest_9 : decode cX3_dropOldest 9 = .ok (.iload_n 2, 1) := by decide +kernel
theorem dX3_dropOldest_10 : decode cX3_dropOldest 10 = .ok (.aload_n 0, 1) := by decide +kernel
theorem dX3_dropOldest_11 : decode cX3_dropOldest 11 = .ok (.getfield 11, 3) := by decide +kernel
theorem dX3_dropOldest_14 : decode cX3_dropOldest 14 = .ok (.arraylength, 1) := by decide +kernel
theorem dX3_dropOldest_15 : decode cX3_dropOldest 15 = .ok (.if_icmp .ge 23, 3) := by decide +kernel
theorem dX3_dropOldest_18 : decode cX3_dropOldest 18 = .ok (.aload_n 0, 1) := by decide +kernel
theorem dX3_dropOldest_19 : decode cX3_dropOldest 19 = .ok (.getfield 11, 3) := by decide +kernel
theorem dX3_dropOldest_22 : decode cX3_dropOldest 22 = .ok (.iload_n 2, 1) := by decide +kernel
theorem dX3_dropOldest_23 : decode cX3_dropOldest 23 = .ok (.iconst 1, 1) := by decide +kernel
theorem dX3_dropOldest_24 : decode cX3_dropOldest 24 = .ok (.isub, 1) := by decide +kernel
theorem dX3_dropOldest_25 : decode cX3_dropOldest 25 = .ok (.aload_n 0, 1) := by decide +kernel
theorem dX3_dropOldest_26 : decode cX3_dropOldest 26 = .ok (.getfield 11, 3) := by decide +kernel
theorem dX3_dropOldest_29 : decode cX3_dropOldest 29 = .ok (.iload_n 2, 1) := by decide +kernel
theorem dX3_dropOldest_30 : decode cX3_dropOldest 30 = .ok (.aaload, 1) := by decide +kernel
theorem dX3_dropOldest_31 : decode cX3_dropOldest 31 = .ok (.aastore, 1) := by decide +kernel
theorem dX3_dropOldest_32 : decode cX3_dropOldest 32 = .ok (.iinc 2 1, 3) := by decide +kernel
theorem dX3_dropOldest_35 : decode cX3_dropOldest 35 = .ok (.goto (-26), 3) := by decide +kernel
theorem dX3_dropOldest_38 : decode cX3_dropOldest 38 = .ok (.aload_n 0, 1) := by decide +kernel
theorem dX3_dropOldest_39 : decode cX3_dropOldest 39 = .ok (.getfield 11, 3) := by decide +kernel
theorem dX3_dropOldest_42 : decode cX3_dropOldest 42 = .ok (.aload_n 0, 1) := by decide +kernel
theorem dX3_dropOldest_43 : decode cX3_dropOldest 43 = .ok (.getfield 11, 3) := by decide +kernel
theorem dX3_dropOldest_46 : decode cX3_dropOldest 46 = .ok (.arraylength, 1) := by decide +kernel
theorem dX3_dropOldest_47 : decode cX3_dropOldest 47 = .ok (.iconst 1, 1) := by decide +kernel
theorem dX3_dropOldest_48 : decode cX3_dropOldest 48 = .ok (.isub, 1) := by decide +kernel
theorem dX3_dropOldest_49 : decode cX3_dropOldest 49 = .ok (.aload_n 1, 1) := by decide +kernel
theorem dX3_dropOldest_50 : decode cX3_dropOldest 50 = .ok (.aastore, 1) := by decide +kernel
theorem dX3_dropOldest_51 : decode cX3_dropOldest 51 = .ok (.aload_n 0, 1) := by decide +kernel
theorem dX3_dropOldest_52 : decode cX3_dropOldest 52 = .ok (.dup, 1) := by decide +kernel
theorem dX3_dropOldest_53 : decode cX3_dropOldest 53 = .ok (.getfield 18, 3) := by decide +kernel
theorem dX3_dropOldest_56 : decode cX3_dropOldest 56 = .ok (.iconst 1, 1) := by decide +kernel
theorem dX3_dropOldest_57 : decode cX3_dropOldest 57 = .ok (.isub, 1) := by decide +kernel
theorem dX3_dropOldest_58 : decode cX3_dropOldest 58 = .ok (.putfield 18, 3) := by decide +kernel
theorem dX3_dropOldest_61 : decode cX3_dropOldest 61 = .ok (.return_, 1) := by decide +kernel
theorem dX4_init_0 : decode cX4_init 0 = .ok (.aload_n 0, 1) := by decide +kernel
theorem dX4_init_1 : decode cX4_init 1 = .ok (.invokespecial 3, 3) := by decide +kernel
theorem dX4_init_4 : decode cX4_init 4 = .ok (.aload_n 0, 1) := by decide +kernel
theorem dX4_init_5 : decode cX4_init 5 = .ok (.new 9, 3) := by decide +kernel
theorem dX4_init_8 : decode cX4_init 8 = .ok (.dup, 1) := by decide +kernel
theorem dX4_init_9 : decode cX4_init 9 = .ok (.invokespecial 11, 3) := by decide +kernel
theorem dX4_init_12 : decode cX4_init 12 = .ok (.putfield 12, 3) := by decide +kernel
theorem dX4_init_15 : decode cX4_init 15 = .ok (.aload_n 0, 1) := by decide +kernel
theorem dX4_init_16 : decode cX4_init 16 = .ok (.new 18, 3) := by decide +kernel
theorem dX4_init_19 : decode cX4_init 19 = .ok (.dup, 1) := by decide +kernel
theorem dX4_init_20 : decode cX4_init 20 = .ok (.invokespecial 20, 3) := by decide +kernel
theorem dX4_init_23 : decode cX4_init 23 = .ok (.putfield 21, 3) := by decide +kernel
theorem dX4_init_26 : decode cX4_init 26 = .ok (.aload_n 0, 1) := by decide +kernel
theorem dX4_init_27 : decode cX4_init 27 = .ok (.new 25, 3) := by decide +kernel
theorem dX4_init_30 : decode cX4_init 30 = .ok (.dup, 1) := by decide +kernel
theorem dX4_init_31 : decode cX4_init 31 = .ok (.invokespecial 27, 3) := by decide +kernel
theorem dX4_init_34 : decode cX4_init 34 = .ok (.putfield 28, 3) := by decide +kernel
theorem dX4_init_37 : decode cX4_init 37 = .ok (.return_, 1) := by decide +kernel
theorem dX4_copyFrom_0 : decode cX4_copyFrom 0 = .ok (.aload_n 0, 1) := by decide +kernel
theorem dX4_copyFrom_1 : decode cX4_copyFrom 1 = .ok (.getfield 12, 3) := by decide +kernel
theorem dX4_copyFrom_4 : decode cX4_copyFrom 4 = .ok (.aload_n 1, 1) := by decide +kernel
theorem dX4_copyFrom_5 : decode cX4_copyFrom 5 = .ok (.getfield 12, 3) := by decide +kernel
theorem dX4_copyFrom_8 : decode cX4_copyFrom 8 = .ok (.invokevirtual 32, 3) := by decide +kernel
theorem dX4_copyFrom_11 : decode cX4_copyFrom 11 = .ok (.aload_n 0, 1) := by decide +kernel
theorem dX4_copyFrom_12 : decode cX4_copyFrom 12 = .ok (.getfield 21, 3) := by decide +kernel
theorem dX4_copyFrom_15 : decode cX4_copyFrom 15 = .ok (.aload_n 1, 1) := by decide +kernel
theorem dX4_copyFrom_16 : decode cX4_copyFrom 16 = .ok (.getfield 21, 3) := by decide +kernel
theorem dX4_copyFrom_19 : decode cX4_copyFrom 19 = .ok (.invokevirtual 36, 3) := by decide +kernel
theorem dX4_copyFrom_22 : decode cX4_copyFrom 22 = .ok (.aload_n 0, 1) := by decide +kernel
theorem dX4_copyFrom_23 : decode cX4_copyFrom 23 = .ok (.getfield 28, 3) := by decide +kernel
theorem dX4_copyFrom_26 : decode cX4_copyFrom 26 = .ok (.aload_n 1, 1) := by decide +kernel
theorem dX4_copyFrom_27 : decode cX4_copyFrom 27 = .ok (.getfield 28, 3) := by decide +kernel
theorem dX4_copyFrom_30 : decode cX4_copyFrom 30 = .ok (.invokevirtual 39, 3) := by decide +kernel
theorem dX4_copyFrom_33 : decode cX4_copyFrom 33 = .ok (.aload_n 0, 1) := by decide +kernel
theorem dX4_copyFrom_34 : decode cX4_copyFrom 34 = .ok (.aload_n 1, 1) := by decide +kernel
theorem dX4_copyFrom_35 : decode cX4_copyFrom 35 = .ok (.getfield 42, 3) := by decide +kernel
theorem dX4_copyFrom_38 : decode cX4_copyFrom 38 = .ok (.putfield 42, 3) := by decide +kernel
theorem dX4_copyFrom_41 : decode cX4_copyFrom 41 = .ok (.aload_n 0, 1) := by decide +kernel
theorem dX4_copyFrom_42 : decode cX4_copyFrom 42 = .ok (.aload_n 1, 1) := by decide +kernel
theorem dX4_copyFrom_43 : decode cX4_copyFrom 43 = .ok (.getfield 46, 3) := by decide +kernel
theorem dX4_copyFrom_46 : decode cX4_copyFrom 46 = .ok (.putfield 46, 3) := by decide +kernel
theorem dX4_copyFrom_49 : decode cX4_copyFrom 49 = .ok (.aload_n 0, 1) := by decide +kernel
theorem dX4_copyFrom_50 : decode cX4_copyFrom 50 = .ok (.aload_n 1, 1) := by decide +kernel
theorem dX4_copyFrom_51 : decode cX4_copyFrom 51 = .ok (.getfield 49, 3) := by decide +kernel
theorem dX4_copyFrom_54 : decode cX4_copyFrom 54 = .ok (.putfield 49, 3) := by decide +kernel
theorem dX4_copyFrom_57 : decode cX4_copyFrom 57 = .ok (.aload_n 0, 1) := by decide +kernel
theorem dX4_copyFrom_58 : decode cX4_copyFrom 58 = .ok (.aload_n 1, 1) := by decide +kernel
theorem dX4_copyFrom_59 : decode cX4_copyFrom 59 = .ok (.getfield 52, 3) := by decide +kernel
theorem dX4_copyFrom_62 : decode cX4_copyFrom 62 = .ok (.putfield 52, 3) := by decide +kernel
theorem dX4_copyFrom_65 : decode cX4_copyFrom 65 = .ok (.aload_n 0, 1) := by decide +kernel
theorem dX4_copyFrom_66 : decode cX4_copyFrom 66 = .ok (.aload_n 1, 1) := by decide +kernel
theorem dX4_copyFrom_67 : decode cX4_copyFrom 67 = .ok (.getfield 55, 3) := by decide +kernel
theorem dX4_copyFrom_70 : decode cX4_copyFrom 70 = .ok (.putfield 55, 3) := by decide +kernel
theorem dX4_copyFrom_73 : decode cX4_copyFrom 73 = .ok (.return_, 1) := by decide +kernel
theorem dX4_startAt_0 : decode cX4_startAt 0 = .ok (.aload_n 0, 1) := by decide +kernel
theorem dX4_startAt_1 : decode cX4_startAt 1 = .ok (.iload_n 1, 1) := by decide +kernel
theorem dX4_startAt_2 : decode cX4_startAt 2 = .ok (.putfield 46, 3) := by decide +kernel
theorem dX4_startAt_5 : decode cX4_startAt 5 = .ok (.aload_n 0, 1) := by decide +kernel
theorem dX4_startAt_6 : decode cX4_startAt 6 = .ok (.iconst 0, 1) := by decide +kernel
theorem dX4_startAt_7 : decode cX4_startAt 7 = .ok (.putfield 42, 3) := by decide +kernel
theorem dX4_startAt_10 : decode cX4_startAt 10 = .ok (.aload_n 0, 1) := by decide +kernel
theorem dX4_startAt_11 : decode cX4_startAt 11 = .ok (.iconst 0, 1) := by decide +kernel
theorem dX4_startAt_12 : decode cX4_startAt 12 = .ok (.putfield 49, 3) := by decide +kernel
theorem dX4_startAt_15 : decode cX4_startAt 15 = .ok (.aload_n 0, 1) := by decide +kernel
theorem dX4_startAt_16 : decode cX4_startAt 16 = .ok (.getfield 21, 3) := by decide +kernel
theorem dX4_startAt_19 : decode cX4_startAt 19 = .ok (.iconst 0, 1) := by decide +kernel
theorem dX4_startAt_20 : decode cX4_startAt 20 = .ok (.putfield 58, 3) := by decide +kernel
theorem dX4_startAt_23 : decode cX4_startAt 23 = .ok (.return_, 1) := by decide +kernel
theorem dX4_takeSteps_0 : decode cX4_takeSteps 0 = .ok (.iconst 0, 1) := by decide +kernel
theorem dX4_takeSteps_1 : decode cX4_takeSteps 1 = .ok (.istore_n 2, 1) := by decide +kernel
theorem dX4_takeSteps_2 : decode cX4_takeSteps 2 = .ok (.iload_n 2, 1) := by decide +kernel
theorem dX4_takeSteps_3 : decode cX4_takeSteps 3 = .ok (.iload_n 1, 1) := by decide +kernel
theorem dX4_takeSteps_4 : decode cX4_takeSteps 4 = .ok (.if_icmp .ge 20, 3) := by decide +kernel
theorem dX4_takeSteps_7 : decode cX4_takeSteps 7 = .ok (.aload_n 0, 1) := by decide +kernel
theorem dX4_takeSteps_8 : decode cX4_takeSteps 8 = .ok (.getfield 49, 3) := by decide +kernel
theorem dX4_takeSteps_11 : decode cX4_takeSteps 11 = .ok (.ifCond .ne 13, 3) := by decide +kernel
theorem dX4_takeSteps_14 : decode cX4_takeSteps 14 = .ok (.aload_n 0, 1) := by decide +kernel
theorem dX4_takeSteps_15 : decode cX4_takeSteps 15 = .ok (.invokevirtual 61, 3) := by decide +kernel
theorem dX4_takeSteps_18 : decode cX4_takeSteps 18 = .ok (.iinc 2 1, 3) := by decide +kernel
theorem dX4_takeSteps_21 : decode cX4_takeSteps 21 = .ok (.goto (-19), 3) := by decide +kernel
theorem dX4_takeSteps_24 : decode cX4_takeSteps 24 = .ok (.iload_n 2, 1) := by decide +kernel
theorem dX4_takeSteps_25 : decode cX4_takeSteps 25 = .ok (.ireturn, 1) := by decide +kernel
theorem dX4_step_0 : decode cX4_step 0 = .ok (.aload_n 0, 1) := by decide +kernel
theorem dX4_step_1 : decode cX4_step 1 = .ok (.getfield 46, 3) := by decide +kernel
theorem dX4_step_4 : decode cX4_step 4 = .ok (.istore_n 1, 1) := by decide +kernel
theorem dX4_step_5 : decode cX4_step 5 = .ok (.aload_n 0, 1) := by decide +kernel
theorem dX4_step_6 : decode cX4_step 6 = .ok (.getfield 12, 3) := by decide +kernel
theorem dX4_step_9 : decode cX4_step 9 = .ok (.iload_n 1, 1) := by decide +kernel
theorem dX4_step_10 : decode cX4_step 10 = .ok (.invokevirtual 64, 3) := by decide +kernel
theorem dX4_step_13 : decode cX4_step 13 = .ok (.istore_n 2, 1) := by decide +kernel
theorem dX4_step_14 : decode cX4_step 14 = .ok (.iload_n 2, 1) := by decide +kernel
theorem dX4_step_15 : decode cX4_step 15 = .ok (.bipush 100, 2) := by decide +kernel
theorem dX4_step_17 : decode cX4_step 17 = .ok (.idiv, 1) := by decide +kernel
theorem dX4_step_18 : decode cX4_step 18 = .ok (.istore_n 3, 1) := by decide +kernel
theorem dX4_step_19 : decode cX4_step 19 = .ok (.iload_n 2, 1) := by decide +kernel
theorem dX4_step_20 : decode cX4_step 20 = .ok (.bipush 100, 2) := by decide +kernel
theorem dX4_step_22 : decode cX4_step 22 = .ok (.irem, 1) := by decide +kernel
theorem dX4_step_23 : decode cX4_step 23 = .ok (.istore 4, 2) := by decide +kernel
theorem dX4_step_25 : decode cX4_step 25 = .ok (.aload_n 0, 1) := by decide +kernel
theorem dX4_step_26 : decode cX4_step 26 = .ok (.getfield 28, 3) := by decide +kernel
theorem dX4_step_29 : decode cX4_step 29 = .ok (.iload_n 1, 1) := by decide +kernel
theorem dX4_step_30 : decode cX4_step 30 = .ok (.aload_n 0, 1) := by decide +kernel
theorem dX4_step_31 : decode cX4_step 31 = .ok (.getfield 12, 3) := by decide +kernel
theorem dX4_step_34 : decode cX4_step 34 = .ok (.iload_n 1, 1) := by decide +kernel
theorem dX4_step_35 : decode cX4_step 35 = .ok (.invokevirtual 68, 3) := by decide +kernel
theorem dX4_step_38 : decode cX4_step 38 = .ok (.iload_n 2, 1) := by decide +kernel
theorem dX4_step_39 : decode cX4_step 39 = .ok (.invokevirtual 71, 3) := by decide +kernel
theorem dX4_step_42 : decode cX4_step 42 = .ok (.aload_n 0, 1) := by decide +kernel
theorem dX4_step_43 : decode cX4_step 43 = .ok (.iload_n 1, 1) := by decide +kernel
theorem dX4_step_44 : decode cX4_step 44 = .ok (.iconst 1, 1) := by decide +kernel
theorem dX4_step_45 : decode cX4_step 45 = .ok (.iadd, 1) := by decide +kernel
theorem dX4_step_46 : decode cX4_step 46 = .ok (.putfield 46, 3) := by decide +kernel
theorem dX4_step_49 : decode cX4_step 49 = .ok (.aload_n 0, 1) := by decide +kernel
theorem dX4_step_50 : decode cX4_step 50 = .ok (.aload_n 0, 1) := by decide +kernel
theorem dX4_step_51 : decode cX4_step 51 = .ok (.iload_n 3, 1) := by decide +kernel
theorem dX4_step_52 : decode cX4_step 52 = .ok (.iload 4, 2) := by decide +kernel
theorem dX4_step_54 : decode cX4_step 54 = .ok (.invokevirtual 75, 3) := by decide +kernel
theorem dX4_step_57 : decode cX4_step 57 = .ok (.putfield 49, 3) := by decide +kernel
theorem dX4_step_60 : decode cX4_step 60 = .ok (.aload_n 0, 1) := by decide +kernel
theorem dX4_step_61 : decode cX4_step 61 = .ok (.getfield 49, 3) := by decide +kernel
theorem dX4_step_64 : decode cX4_step 64 = .ok (.ifCond .ne 14, 3) := by decide +kernel
theorem dX4_step_67 : decode cX4_step 67 = .ok (.aload_n 0, 1) := by decide +kernel
theorem dX4_step_68 : decode cX4_step 68 = .ok (.iload_n 3, 1) := by decide +kernel
theorem dX4_step_69 : decode cX4_step 69 = .ok (.iload 4, 2) := by decide +kernel
theorem dX4_step_71 : decode cX4_step 71 = .ok (.iload_n 1, 1) := by decide +kernel
theorem dX4_step_72 : decode cX4_step 72 = .ok (.bipush 16, 2) := by decide +kernel
theorem dX4_step_74 : decode cX4_step 74 = .ok (.idiv, 1) := by decide +kernel
theorem dX4_step_75 : decode cX4_step 75 = .ok (.invokevirtual 79, 3) := by decide +kernel
theorem dX4_step_78 : decode cX4_step 78 = .ok (.aload_n 0, 1) := by decide +kernel
theorem dX4_step_79 : decode cX4_step 79 = .ok (.getfield 49, 3) := by decide +kernel
theorem dX4_step_82 : decode cX4_step 82 = .ok (.ifCond .ne 18, 3) := by decide +kernel
theorem dX4_step_85 : decode cX4_step 85 = .ok (.aload_n 0, 1) := by decide +kernel
theorem dX4_step_86 : decode cX4_step 86 = .ok (.getfield 46, 3) := by decide +kernel
theorem dX4_step_89 : decode cX4_step 89 = .ok (.bipush 64, 2) := by decide +kernel
theorem dX4_step_91 : decode cX4_step 91 = .ok (.if_icmp .ne 9, 3) := by decide +kernel
theorem dX4_step_94 : decode cX4_step 94 = .ok (.aload_n 0, 1) := by decide +kernel
theorem dX4_step_95 : decode cX4_step 95 = .ok (.bipush 6, 2) := by decide +kernel
theorem dX4_step_97 : decode cX4_step 97 = .ok (.putfield 49, 3) := by decide +kernel
theorem dX4_step_100 : decode cX4_step 100 = .ok (.return_, 1) := by decide +kernel
theorem dX4_hindranceOf_0 : decode cX4_hindranceOf 0 = .ok (.iload_n 1, 1) := by decide +kernel
theorem dX4_hindranceOf_1 : decode cX4_hindranceOf 1 = .ok (.iload_n 2, 1) := by decide +kernel
theorem dX4_hindranceOf_2 : decode cX4_hindranceOf 2 = .ok (.invokestatic 82, 3) := by decide +kernel
theorem dX4_hindranceOf_5 : decode cX4_hindranceOf 5 = .ok (.ifCond .eq 5, 3) := by decide +kernel
theorem dX4_hindranceOf_8 : decode cX4_hindranceOf 8 = .ok (.iconst 3, 1) := by decide +kernel
theorem dX4_hindranceOf_9 : decode cX4_hindranceOf 9 = .ok (.ireturn, 1) := by decide +kernel
theorem dX4_hindranceOf_10 : decode cX4_hindranceOf 10 = .ok (.iload_n 1, 1) := by decide +kernel
theorem dX4_hindranceOf_11 : decode cX4_hindranceOf 11 = .ok (.bipush 7, 2) := by decide +kernel
theorem dX4_hindranceOf_13 : decode cX4_hindranceOf 13 = .ok (.if_icmp .ne 17, 3) := by decide +kernel
theorem dX4_hindranceOf_16 : decode cX4_hindranceOf 16 = .ok (.aload_n 0, 1) := by decide +kernel
theorem dX4_hindranceOf_17 : decode cX4_hindranceOf 17 = .ok (.getfield 21, 3) := by decide +kernel
theorem dX4_hindranceOf_20 : decode cX4_hindranceOf 20 = .ok (.getfield 58, 3) := by decide +kernel
theorem dX4_hindranceOf_23 : decode cX4_hindranceOf 23 = .ok (.bipush 8, 2) := by decide +kernel
theorem dX4_hindranceOf_25 : decode cX4_hindranceOf 25 = .ok (.if_icmp .lt 5, 3) := by decide +kernel
theorem dX4_hindranceOf_28 : decode cX4_hindranceOf 28 = .ok (.iconst 4, 1) := by decide +kernel
theorem dX4_hindranceOf_29 : decode cX4_hindranceOf 29 = .ok (.ireturn, 1) := by decide +kernel
theorem dX4_hindranceOf_30 : decode cX4_hindranceOf 30 = .ok (.iload_n 1, 1) := by decide +kernel
theorem dX4_hindranceOf_31 : decode cX4_hindranceOf 31 = .ok (.bipush 8, 2) := by decide +kernel
theorem dX4_hindranceOf_33 : decode cX4_hindranceOf 33 = .ok (.if_icmp .ne 15, 3) := by decide +kernel
theorem dX4_hindranceOf_36 : decode cX4_hindranceOf 36 = .ok (.aload_n 0, 1) := by decide +kernel
theorem dX4_hindranceOf_37 : decode cX4_hindranceOf 37 = .ok (.getfield 21, 3) := by decide +kernel
theorem dX4_hindranceOf_40 : decode cX4_hindranceOf 40 = .ok (.getfield 58, 3) := by decide +kernel
theorem dX4_hindranceOf_43 : decode cX4_hindranceOf 43 = .ok (.ifCond .ne 5, 3) := by decide +kernel
theorem dX4_hindranceOf_46 : decode cX4_hindranceOf 46 = .ok (.iconst 5, 1) := by decide +kernel
theorem dX4_hindranceOf_47 : decode cX4_hindranceOf 47 = .ok (.ireturn, 1) := by decide +kernel
theorem dX4_hindranceOf_48 : decode cX4_hindranceOf 48 = .ok (.iconst 0, 1) := by decide +kernel
theorem dX4_hindranceOf_49 : decode cX4_hindranceOf 49 = .ok (.ireturn, 1) := by decide +kernel
theorem dX4_isBeyond_0 : decode cX4_isBeyond 0 = .ok (.iload_n 0, 1) := by decide +kernel
theorem dX4_isBeyond_1 : decode cX4_isBeyond 1 = .ok (.tableswitch 89 2 7 #[39, 39, 39, 39, 51, 74], 39) := by decide +kernel
theorem dX4_isBeyond_40 : decode cX4_isBeyond 40 = .ok (.iload_n 1, 1) := by decide +kernel
theorem dX4_isBeyond_41 : decode cX4_isBeyond 41 = .ok (.bipush 64, 2) := by decide +kernel
theorem dX4_isBeyond_43 : decode cX4_isBeyond 43 = .ok (.if_icmp .lt 7, 3) := by decide +kernel
theorem dX4_isBeyond_46 : decode cX4_isBeyond 46 = .ok (.iconst 1, 1) := by decide +kernel
theorem dX4_isBeyond_47 : decode cX4_isBeyond 47 = .ok (.goto 4, 3) := by decide +kernel
theorem dX4_isBeyond_50 : decode cX4_isBeyond 50 = .ok (.iconst 0, 1) := by decide +kernel
theorem dX4_isBeyond_51 : decode cX4_isBeyond 51 = .ok (.ireturn, 1) := by decide +kernel
theorem dX4_isBeyond_52 : decode cX4_isBeyond 52 = .ok (.iload_n 1, 1) := by decide +kernel
theorem dX4_isBeyond_53 : decode cX4_isBeyond 53 = .ok (.bipush 10, 2) := by decide +kernel
theorem dX4_isBeyond_55 : decode cX4_isBeyond 55 = .ok (.idiv, 1) := by decide +kernel
theorem dX4_isBeyond_56 : decode cX4_isBeyond 56 = .ok (.iconst 4, 1) := by decide +kernel
theorem dX4_isBeyond_57 : decode cX4_isBeyond 57 = .ok (.if_icmp .ge 12, 3) := by decide +kernel
theorem dX4_isBeyond_60 : decode cX4_isBeyond 60 = .ok (.iload_n 1, 1) := by decide +kernel
theorem dX4_isBeyond_61 : decode cX4_isBeyond 61 = .ok (.bipush 10, 2) := by decide +kernel
theorem dX4_isBeyond_63 : decode cX4_isBeyond 63 = .ok (.irem, 1) := by decide +kernel
theorem dX4_isBeyond_64 : decode cX4_isBeyond 64 = .ok (.bipush 8, 2) := by decide +kernel
theorem dX4_isBeyond_66 : decode cX4_isBeyond 66 = .ok (.if_icmp .lt 7, 3) := by decide +kernel
theorem dX4_isBeyond_69 : decode cX4_isBeyond 69 = .ok (.iconst 1, 1) := by decide +kernel
theorem dX4_isBeyond_70 : decode cX4_isBeyond 70 = .ok (.goto 4, 3) := by decide +kernel
theorem dX4_isBeyond_73 : decode cX4_isBeyond 73 = .ok (.iconst 0, 1) := by decide +kernel
theorem dX4_isBeyond_74 : decode cX4_isBeyond 74 = .ok (.ireturn, 1) := by decide +kernel
theorem dX4_isBeyond_75 : decode cX4_isBeyond 75 = .ok (.iload_n 1, 1) := by decide +kernel
theorem dX4_isBeyond_76 : decode cX4_isBeyond 76 = .ok (.bipush 10, 2) := by decide +kernel
theorem dX4_isBeyond_78 : decode cX4_isBeyond 78 = .ok (.idiv, 1) := by decide +kernel
theorem dX4_isBeyond_79 : decode cX4_isBeyond 79 = .ok (.bipush 8, 2) := by decide +kernel
theorem dX4_isBeyond_81 : decode cX4_isBeyond 81 = .ok (.if_icmp .lt 7, 3) := by decide +kernel
theorem dX4_isBeyond_84 : decode cX4_isBeyond 84 = .ok (.iconst 1, 1) := by decide +kernel
theorem dX4_isBeyond_85 : decode cX4_isBeyond 85 = .ok (.goto 4, 3) := by decide +kernel
theorem dX4_isBeyond_88 : decode cX4_isBeyond 88 = .ok (.iconst 0, 1) := by decide +kernel
theorem dX4_isBeyond_89 : decode cX4_isBeyond 89 = .ok (.ireturn, 1) := by decide +kernel
theorem dX4_isBeyond_90 : decode cX4_isBeyond 90 = .ok (.iconst 0, 1) := by decide +kernel
theorem dX4_isBeyond_91 : decode cX4_isBeyond 91 = .ok (.ireturn, 1) := by decide +kernel
theorem dX4_carryOut_0 : decode cX4_carryOut 0 = .ok (.iload_n 1, 1) := by decide +kernel
theorem dX4_carryOut_1 : decode cX4_carryOut 1 = .ok (.tableswitch 183 1 9 #[51, 59, 74, 108, 116, 138, 159, 168, 175], 51) := by decide +kernel
theorem dX4_carryOut_52 : decode cX4_carryOut 52 = .ok (.aload_n 0, 1) := by decide +kernel
theorem dX4_carryOut_53 : decode cX4_carryOut 53 = .ok (.iload_n 2, 1) := by decide +kernel
theorem dX4_carryOut_54 : decode cX4_carryOut 54 = .ok (.putfield 42, 3) := by decide +kernel
theorem dX4_carryOut_57 : decode cX4_carryOut 57 = .ok (.goto 132, 3) := by decide +kernel
theorem dX4_carryOut_60 : decode cX4_carryOut 60 = .ok (.aload_n 0, 1) := by decide +kernel
theorem dX4_carryOut_61 : decode cX4_carryOut 61 = .ok (.aload_n 0, 1) := by decide +kernel
theorem dX4_carryOut_62 : decode cX4_carryOut 62 = .ok (.getfield 12, 3) := by decide +kernel
theorem dX4_carryOut_65 : decode cX4_carryOut 65 = .ok (.iload_n 2, 1) := by decide +kernel
theorem dX4_carryOut_66 : decode cX4_carryOut 66 = .ok (.invokevirtual 64, 3) := by decide +kernel
theorem dX4_carryOut_69 : decode cX4_carryOut 69 = .ok (.invokevirtual 86, 3) := by decide +kernel
theorem dX4_carryOut_72 : decode cX4_carryOut 72 = .ok (.goto 117, 3) := by decide +kernel
theorem dX4_carryOut_75 : decode cX4_carryOut 75 = .ok (.aload_n 0, 1) := by decide +kernel
theorem dX4_carryOut_76 : decode cX4_carryOut 76 = .ok (.aload_n 0, 1) := by decide +kernel
theorem dX4_carryOut_77 : decode cX4_carryOut 77 = .ok (.getfield 12, 3) := by decide +kernel
theorem dX4_carryOut_80 : decode cX4_carryOut 80 = .ok (.iload_n 2, 1) := by decide +kernel
theorem dX4_carryOut_81 : decode cX4_carryOut 81 = .ok (.aload_n 0, 1) := by decide +kernel
theorem dX4_carryOut_82 : decode cX4_carryOut 82 = .ok (.getfield 42, 3) := by decide +kernel
theorem dX4_carryOut_85 : decode cX4_carryOut 85 = .ok (.invokevirtual 90, 3) := by decide +kernel
theorem dX4_carryOut_88 : decode cX4_carryOut 88 = .ok (.ifCond .ne 10, 3) := by decide +kernel
theorem dX4_carryOut_91 : decode cX4_carryOut 91 = .ok (.aload_n 0, 1) := by decide +kernel
theorem dX4_carryOut_92 : decode cX4_carryOut 92 = .ok (.getfield 52, 3) := by decide +kernel
theorem dX4_carryOut_95 : decode cX4_carryOut 95 = .ok (.ifCond .ne 7, 3) := by decide +kernel
theorem dX4_carryOut_98 : decode cX4_carryOut 98 = .ok (.iconst 0, 1) := by decide +kernel
theorem dX4_carryOut_99 : decode cX4_carryOut 99 = .ok (.goto 4, 3) := by decide +kernel
theorem dX4_carryOut_102 : decode cX4_carryOut 102 = .ok (.iconst 2, 1) := by decide +kernel
theorem dX4_carryOut_103 : decode cX4_carryOut 103 = .ok (.putfield 49, 3) := by decide +kernel
theorem dX4_carryOut_106 : decode cX4_carryOut 106 = .ok (.goto 83, 3) := by decide +kernel
theorem dX4_carryOut_109 : decode cX4_carryOut 109 = .ok (.aload_n 0, 1) := by decide +kernel
theorem dX4_carryOut_110 : decode cX4_carryOut 110 = .ok (.iload_n 2, 1) := by decide +kernel
theorem dX4_carryOut_111 : decode cX4_carryOut 111 = .ok (.putfield 46, 3) := by decide +kernel
theorem dX4_carryOut_114 : decode cX4_carryOut 114 = .ok (.goto 75, 3) := by decide +kernel
theorem dX4_carryOut_117 : decode cX4_carryOut 117 = .ok (.aload_n 0, 1) := by decide +kernel
theorem dX4_carryOut_118 : decode cX4_carryOut 118 = .ok (.aload_n 0, 1) := by decide +kernel
theorem dX4_carryOut_119 : decode cX4_carryOut 119 = .ok (.getfield 42, 3) := by decide +kernel
theorem dX4_carryOut_122 : decode cX4_carryOut 122 = .ok (.ifCond .ne 7, 3) := by decide +kernel
theorem dX4_carryOut_125 : decode cX4_carryOut 125 = .ok (.iload_n 2, 1) := by decide +kernel
theorem dX4_carryOut_126 : decode cX4_carryOut 126 = .ok (.goto 7, 3) := by decide +kernel
theorem dX4_carryOut_129 : decode cX4_carryOut 129 = .ok (.aload_n 0, 1) := by decide +kernel
theorem dX4_carryOut_130 : decode cX4_carryOut 130 = .ok (.getfield 46, 3) := by decide +kernel
theorem dX4_carryOut_133 : decode cX4_carryOut 133 = .ok (.putfield 46, 3) := by decide +kernel
theorem dX4_carryOut_136 : decode cX4_carryOut 136 = .ok (.goto 53, 3) := by decide +kernel
theorem dX4_carryOut_139 : decode cX4_carryOut 139 = .ok (.aload_n 0, 1) := by decide +kernel
theorem dX4_carryOut_140 : decode cX4_carryOut 140 = .ok (.getfield 12, 3) := by decide +kernel
theorem dX4_carryOut_143 : decode cX4_carryOut 143 = .ok (.getfield 93, 3) := by decide +kernel
theorem dX4_carryOut_146 : decode cX4_carryOut 146 = .ok (.iload_n 2, 1) := by decide +kernel
theorem dX4_carryOut_147 : decode cX4_carryOut 147 = .ok (.bipush 10, 2) := by decide +kernel
theorem dX4_carryOut_149 : decode cX4_carryOut 149 = .ok (.idiv, 1) := by decide +kernel
theorem dX4_carryOut_150 : decode cX4_carryOut 150 = .ok (.iload_n 2, 1) := by decide +kernel
theorem dX4_carryOut_151 : decode cX4_carryOut 151 = .ok (.bipush 10, 2) := by decide +kernel
theorem dX4_carryOut_153 : decode cX4_carryOut 153 = .ok (.irem, 1) := by decide +kernel
theorem dX4_carryOut_154 : decode cX4_carryOut 154 = .ok (.invokevirtual 97, 3) := by decide +kernel
theorem dX4_carryOut_157 : decode cX4_carryOut 157 = .ok (.goto 32, 3) := by decide +kernel
theorem dX4_carryOut_160 : decode cX4_carryOut 160 = .ok (.aload_n 0, 1) := by decide +kernel
theorem dX4_carryOut_161 : decode cX4_carryOut 161 = .ok (.iload_n 3, 1) := by decide +kernel
theorem dX4_carryOut_162 : decode cX4_carryOut 162 = .ok (.iload_n 2, 1) := by decide +kernel
theorem dX4_carryOut_163 : decode cX4_carryOut 163 = .ok (.invokevirtual 103, 3) := by decide +kernel
theorem dX4_carryOut_166 : decode cX4_carryOut 166 = .ok (.goto 23, 3) := by decide +kernel
theorem dX4_carryOut_169 : decode cX4_carryOut 169 = .ok (.aload_n 0, 1) := by decide +kernel
theorem dX4_carryOut_170 : decode cX4_carryOut 170 = .ok (.invokevirtual 106, 3) := by decide +kernel
theorem dX4_carryOut_173 : decode cX4_carryOut 173 = .ok (.goto 16, 3) := by decide +kernel
theorem dX4_carryOut_176 : decode cX4_carryOut 176 = .ok (.aload_n 0, 1) := by decide +kernel
theorem dX4_carryOut_177 : decode cX4_carryOut 177 = .ok (.iload_n 2, 1) := by decide +kernel
theorem dX4_carryOut_178 : decode cX4_carryOut 178 = .ok (.invokevirtual 86, 3) := by decide +kernel
theorem dX4_carryOut_181 : decode cX4_carryOut 181 = .ok (.goto 8, 3) := by decide +kernel
theorem dX4_carryOut_184 : decode cX4_carryOut 184 = .ok (.aload_n 0, 1) := by decide +kernel
theorem dX4_carryOut_185 : decode cX4_carryOut 185 = .ok (.iconst 1, 1) := by decide +kernel
theorem dX4_carryOut_186 : decode cX4_carryOut 186 = .ok (.putfield 49, 3) := by decide +kernel
theorem dX4_carryOut_189 : decode cX4_carryOut 189 = .ok (.return_, 1) := by decide +kernel
theorem dX4_increase_0 : decode cX4_increase 0 = .ok (.aload_n 0, 1) := by decide +kernel
theorem dX4_increase_1 : decode cX4_increase 1 = .ok (.getfield 42, 3) := by decide +kernel
theorem dX4_increase_4 : decode cX4_increase 4 = .ok (.iload_n 1, 1) := by decide +kernel
theorem dX4_increase_5 : decode cX4_increase 5 = .ok (.iadd, 1) := by decide +kernel
theorem dX4_increase_6 : decode cX4_increase 6 = .ok (.istore_n 2, 1) := by decide +kernel
theorem dX4_increase_7 : decode cX4_increase 7 = .ok (.aload_n 0, 1) := by decide +kernel
theorem dX4_increase_8 : decode cX4_increase 8 = .ok (.iload_n 2, 1) := by decide +kernel
theorem dX4_increase_9 : decode cX4_increase 9 = .ok (.sipush 999, 3) := by decide +kernel
theorem dX4_increase_12 : decode cX4_increase 12 = .ok (.if_icmp .le 13, 3) := by decide +kernel
theorem dX4_increase_15 : decode cX4_increase 15 = .ok (.iload_n 2, 1) := by decide +kernel
theorem dX4_increase_16 : decode cX4_increase 16 = .ok (.sipush 999, 3) := by decide +kernel
theorem dX4_increase_19 : decode cX4_increase 19 = .ok (.isub, 1) := by decide +kernel
theorem dX4_increase_20 : decode cX4_increase 20 = .ok (.iconst 1, 1) := by decide +kernel
theorem dX4_increase_21 : decode cX4_increase 21 = .ok (.isub, 1) := by decide +kernel
theorem dX4_increase_22 : decode cX4_increase 22 = .ok (.goto 4, 3) := by decide +kernel
theorem dX4_increase_25 : decode cX4_increase 25 = .ok (.iload_n 2, 1) := by decide +kernel
theorem dX4_increase_26 : decode cX4_increase 26 = .ok (.putfield 42, 3) := by decide +kernel
theorem dX4_increase_29 : decode cX4_increase 29 = .ok (.return_, 1) := by decide +kernel
theorem dX4_callFrom_0 : decode cX4_callFrom 0 = .ok (.aload_n 0, 1) := by decide +kernel
theorem dX4_callFrom_1 : decode cX4_callFrom 1 = .ok (.getfield 21, 3) := by decide +kernel
theorem dX4_callFrom_4 : decode cX4_callFrom 4 = .ok (.iload_n 1, 1) := by decide +kernel
theorem dX4_callFrom_5 : decode cX4_callFrom 5 = .ok (.aload_n 0, 1) := by decide +kernel
theorem dX4_callFrom_6 : decode cX4_callFrom 6 = .ok (.getfield 12, 3) := by decide +kernel
theorem dX4_callFrom_9 : decode cX4_callFrom 9 = .ok (.getfield 93, 3) := by decide +kernel
theorem dX4_callFrom_12 : decode cX4_callFrom 12 = .ok (.iload_n 1, 1) := by decide +kernel
theorem dX4_callFrom_13 : decode cX4_callFrom 13 = .ok (.invokevirtual 109, 3) := by decide +kernel
theorem dX4_callFrom_16 : decode cX4_callFrom 16 = .ok (.aload_n 0, 1) := by decide +kernel
theorem dX4_callFrom_17 : decode cX4_callFrom 17 = .ok (.getfield 46, 3) := by decide +kernel
theorem dX4_callFrom_20 : decode cX4_callFrom 20 = .ok (.invokevirtual 112, 3) := by decide +kernel
theorem dX4_callFrom_23 : decode cX4_callFrom 23 = .ok (.aload_n 0, 1) := by decide +kernel
theorem dX4_callFrom_24 : decode cX4_callFrom 24 = .ok (.getfield 12, 3) := by decide +kernel
theorem dX4_callFrom_27 : decode cX4_callFrom 27 = .ok (.getfield 93, 3) := by decide +kernel
theorem dX4_callFrom_30 : decode cX4_callFrom 30 = .ok (.iload_n 1, 1) := by decide +kernel
theorem dX4_callFrom_31 : decode cX4_callFrom 31 = .ok (.iload_n 2, 1) := by decide +kernel
theorem dX4_callFrom_32 : decode cX4_callFrom 32 = .ok (.bipush 10, 2) := by decide +kernel
theorem dX4_callFrom_34 : decode cX4_callFrom 34 = .ok (.idiv, 1) := by decide +kernel
theorem dX4_callFrom_35 : decode cX4_callFrom 35 = .ok (.invokevirtual 97, 3) := by decide +kernel
theorem dX4_callFrom_38 : decode cX4_callFrom 38 = .ok (.aload_n 0, 1) := by decide +kernel
end
section
theorem dX4_callFrom_39 : decode cX4_callFrom 39 = .ok (.iload_n 1, 1) := by decide +kernel
theorem dX4_callFrom_40 : decode cX4_callFrom 40 = .ok (.bipush 16, 2) := by decide +kernel
theorem dX4_callFrom_42 : decode cX4_callFrom 42 = .ok (.imul, 1) := by decide +kernel
theorem dX4_callFrom_43 : decode cX4_callFrom 43 = .ok (.iload_n 2, 1) := by decide +kernel
theorem dX4_callFrom_44 : decode cX4_callFrom 44 = .ok (.bipush 10, 2) := by decide +kernel
theorem dX4_callFrom_46 : decode cX4_callFrom 46 = .ok (.irem, 1) := by decide +kernel
theorem dX4_callFrom_47 : decode cX4_callFrom 47 = .ok (.iadd, 1) := by decide +kernel
theorem dX4_callFrom_48 : decode cX4_callFrom 48 = .ok (.putfield 46, 3) := by decide +kernel
theorem dX4_callFrom_51 : decode cX4_callFrom 51 = .ok (.aload_n 0, 1) := by decide +kernel
theorem dX4_callFrom_52 : decode cX4_callFrom 52 = .ok (.dup, 1) := by decide +kernel
theorem dX4_callFrom_53 : decode cX4_callFrom 53 = .ok (.getfield 55, 3) := by decide +kernel
theorem dX4_callFrom_56 : decode cX4_callFrom 56 = .ok (.iconst 1, 1) := by decide +kernel
theorem dX4_callFrom_57 : decode cX4_callFrom 57 = .ok (.iadd, 1) := by decide +kernel
theorem dX4_callFrom_58 : decode cX4_callFrom 58 = .ok (.putfield 55, 3) := by decide +kernel
theorem dX4_callFrom_61 : decode cX4_callFrom 61 = .ok (.return_, 1) := by decide +kernel
theorem dX4_comeBack_0 : decode cX4_comeBack 0 = .ok (.aload_n 0, 1) := by decide +kernel
theorem dX4_comeBack_1 : decode cX4_comeBack 1 = .ok (.getfield 12, 3) := by decide +kernel
theorem dX4_comeBack_4 : decode cX4_comeBack 4 = .ok (.getfield 93, 3) := by decide +kernel
theorem dX4_comeBack_7 : decode cX4_comeBack 7 = .ok (.aload_n 0, 1) := by decide +kernel
theorem dX4_comeBack_8 : decode cX4_comeBack 8 = .ok (.getfield 21, 3) := by decide +kernel
theorem dX4_comeBack_11 : decode cX4_comeBack 11 = .ok (.iconst 0, 1) := by decide +kernel
theorem dX4_comeBack_12 : decode cX4_comeBack 12 = .ok (.iconst 0, 1) := by decide +kernel
theorem dX4_comeBack_13 : decode cX4_comeBack 13 = .ok (.invokevirtual 113, 3) := by decide +kernel
theorem dX4_comeBack_16 : decode cX4_comeBack 16 = .ok (.aload_n 0, 1) := by decide +kernel
theorem dX4_comeBack_17 : decode cX4_comeBack 17 = .ok (.getfield 21, 3) := by decide +kernel
theorem dX4_comeBack_20 : decode cX4_comeBack 20 = .ok (.iconst 0, 1) := by decide +kernel
theorem dX4_comeBack_21 : decode cX4_comeBack 21 = .ok (.iconst 1, 1) := by decide +kernel
theorem dX4_comeBack_22 : decode cX4_comeBack 22 = .ok (.invokevirtual 113, 3) := by decide +kernel
theorem dX4_comeBack_25 : decode cX4_comeBack 25 = .ok (.invokevirtual 97, 3) := by decide +kernel
theorem dX4_comeBack_28 : decode cX4_comeBack 28 = .ok (.aload_n 0, 1) := by decide +kernel
theorem dX4_comeBack_29 : decode cX4_comeBack 29 = .ok (.aload_n 0, 1) := by decide +kernel
theorem dX4_comeBack_30 : decode cX4_comeBack 30 = .ok (.getfield 21, 3) := by decide +kernel
theorem dX4_comeBack_33 : decode cX4_comeBack 33 = .ok (.iconst 0, 1) := by decide +kernel
theorem dX4_comeBack_34 : decode cX4_comeBack 34 = .ok (.iconst 2, 1) := by decide +kernel
theorem dX4_comeBack_35 : decode cX4_comeBack 35 = .ok (.invokevirtual 113, 3) := by decide +kernel
theorem dX4_comeBack_38 : decode cX4_comeBack 38 = .ok (.putfield 46, 3) := by decide +kernel
theorem dX4_comeBack_41 : decode cX4_comeBack 41 = .ok (.aload_n 0, 1) := by decide +kernel
theorem dX4_comeBack_42 : decode cX4_comeBack 42 = .ok (.getfield 21, 3) := by decide +kernel
theorem dX4_comeBack_45 : decode cX4_comeBack 45 = .ok (.dup, 1) := by decide +kernel
theorem dX4_comeBack_46 : decode cX4_comeBack 46 = .ok (.getfield 58, 3) := by decide +kernel
theorem dX4_comeBack_49 : decode cX4_comeBack 49 = .ok (.iconst 1, 1) := by decide +kernel
theorem dX4_comeBack_50 : decode cX4_comeBack 50 = .ok (.isub, 1) := by decide +kernel
theorem dX4_comeBack_51 : decode cX4_comeBack 51 = .ok (.putfield 58, 3) := by decide +kernel
theorem dX4_comeBack_54 : decode cX4_comeBack 54 = .ok (.return_, 1) := by decide +kernel
theorem dX5_init_0 : decode cX5_init 0 = .ok (.aload_n 0, 1) := by decide +kernel
theorem dX5_init_1 : decode cX5_init 1 = .ok (.invokespecial 1, 3) := by decide +kernel
theorem dX5_init_4 : decode cX5_init 4 = .ok (.aload_n 0, 1) := by decide +kernel
theorem dX5_init_5 : decode cX5_init 5 = .ok (.iload_n 1, 1) := by decide +kernel
theorem dX5_init_6 : decode cX5_init 6 = .ok (.iconst 0, 1) := by decide +kernel
theorem dX5_init_7 : decode cX5_init 7 = .ok (.invokestatic 7, 3) := by decide +kernel
theorem dX5_init_10 : decode cX5_init 10 = .ok (.newarray .int, 2) := by decide +kernel
theorem dX5_init_12 : decode cX5_init 12 = .ok (.putfield 13, 3) := by decide +kernel
theorem dX5_init_15 : decode cX5_init 15 = .ok (.return_, 1) := by decide +kernel
theorem dX5_read_0 : decode cX5_read 0 = .ok (.iload_n 1, 1) := by decide +kernel
theorem dX5_read_1 : decode cX5_read 1 = .ok (.ifCond .lt 21, 3) := by decide +kernel
theorem dX5_read_4 : decode cX5_read 4 = .ok (.iload_n 1, 1) := by decide +kernel
theorem dX5_read_5 : decode cX5_read 5 = .ok (.aload_n 0, 1) := by decide +kernel
theorem dX5_read_6 : decode cX5_read 6 = .ok (.getfield 13, 3) := by decide +kernel
theorem dX5_read_9 : decode cX5_read 9 = .ok (.arraylength, 1) := by decide +kernel
theorem dX5_read_10 : decode cX5_read 10 = .ok (.if_icmp .ge 12, 3) := by decide +kernel
theorem dX5_read_13 : decode cX5_read 13 = .ok (.aload_n 0, 1) := by decide +kernel
theorem dX5_read_14 : decode cX5_read 14 = .ok (.getfield 13, 3) := by decide +kernel
theorem dX5_read_17 : decode cX5_read 17 = .ok (.iload_n 1, 1) := by decide +kernel
theorem dX5_read_18 : decode cX5_read 18 = .ok (.iaload, 1) := by decide +kernel
theorem dX5_read_19 : decode cX5_read 19 = .ok (.goto 4, 3) := by decide +kernel
theorem dX5_read_22 : decode cX5_read 22 = .ok (.iconst 0, 1) := by decide +kernel
theorem dX5_read_23 : decode cX5_read 23 = .ok (.ireturn, 1) := by decide +kernel
theorem dX5_write_0 : decode cX5_write 0 = .ok (.iload_n 1, 1) := by decide +kernel
theorem dX5_write_1 : decode cX5_write 1 = .ok (.ifCond .lt 19, 3) := by decide +kernel
theorem dX5_write_4 : decode cX5_write 4 = .ok (.iload_n 1, 1) := by decide +kernel
theorem dX5_write_5 : decode cX5_write 5 = .ok (.aload_n 0, 1) := by decide +kernel
theorem dX5_write_6 : decode cX5_write 6 = .ok (.getfield 13, 3) := by decide +kernel
theorem dX5_write_9 : decode cX5_write 9 = .ok (.arraylength, 1) := by decide +kernel
theorem dX5_write_10 : decode cX5_write 10 = .ok (.if_icmp .ge 10, 3) := by decide +kernel
theorem dX5_write_13 : decode cX5_write 13 = .ok (.aload_n 0, 1) := by decide +kernel
theorem dX5_write_14 : decode cX5_write 14 = .ok (.getfield 13, 3) := by decide +kernel
theorem dX5_write_17 : decode cX5_write 17 = .ok (.iload_n 1, 1) := by decide +kernel
theorem dX5_write_18 : decode cX5_write 18 = .ok (.iload_n 2, 1) := by decide +kernel
theorem dX5_write_19 : decode cX5_write 19 = .ok (.iastore, 1) := by decide +kernel
theorem dX5_write_20 : decode cX5_write 20 = .ok (.return_, 1) := by decide +kernel
theorem dX5_sum_0 : decode cX5_sum 0 = .ok (.iconst 0, 1) := by decide +kernel
theorem dX5_sum_1 : decode cX5_sum 1 = .ok (.istore_n 1, 1) := by decide +kernel
theorem dX5_sum_2 : decode cX5_sum 2 = .ok (.aload_n 0, 1) := by decide +kernel
theorem dX5_sum_3 : decode cX5_sum 3 = .ok (.getfield 13, 3) := by decide +kernel
theorem dX5_sum_6 : decode cX5_sum 6 = .ok (.astore_n 2, 1) := by decide +kernel
theorem dX5_sum_7 : decode cX5_sum 7 = .ok (.aload_n 2, 1) := by decide +kernel
theorem dX5_sum_8 : decode cX5_sum 8 = .ok (.arraylength, 1) := by decide +kernel
theorem dX5_sum_9 : decode cX5_sum 9 = .ok (.istore_n 3, 1) := by decide +kernel
theorem dX5_sum_10 : decode cX5_sum 10 = .ok (.iconst 0, 1) := by decide +kernel
theorem dX5_sum_11 : decode cX5_sum 11 = .ok (.istore 4, 2) := by decide +kernel
theorem dX5_sum_13 : decode cX5_sum 13 = .ok (.iload 4, 2) := by decide +kernel
theorem dX5_sum_15 : decode cX5_sum 15 = .ok (.iload_n 3, 1) := by decide +kernel
theorem dX5_sum_16 : decode cX5_sum 16 = .ok (.if_icmp .ge 20, 3) := by decide +kernel
theorem dX5_sum_19 : decode cX5_sum 19 = .ok (.aload_n 2, 1) := by decide +kernel
theorem dX5_sum_20 : decode cX5_sum 20 = .ok (.iload 4, 2) := by decide +kernel
theorem dX5_sum_22 : decode cX5_sum 22 = .ok (.iaload, 1) := by decide +kernel
theorem dX5_sum_23 : decode cX5_sum 23 = .ok (.istore 5, 2) := by decide +kernel
theorem dX5_sum_25 : decode cX5_sum 25 = .ok (.iload_n 1, 1) := by decide +kernel
theorem dX5_sum_26 : decode cX5_sum 26 = .ok (.iload 5, 2) := by decide +kernel
theorem dX5_sum_28 : decode cX5_sum 28 = .ok (.iadd, 1) := by decide +kernel
theorem dX5_sum_29 : decode cX5_sum 29 = .ok (.istore_n 1, 1) := by decide +kernel
theorem dX5_sum_30 : decode cX5_sum 30 = .ok (.iinc 4 1, 3) := by decide +kernel
theorem dX5_sum_33 : decode cX5_sum 33 = .ok (.goto (-20), 3) := by decide +kernel
theorem dX5_sum_36 : decode cX5_sum 36 = .ok (.iload_n 1, 1) := by decide +kernel
theorem dX5_sum_37 : decode cX5_sum 37 = .ok (.ireturn, 1) := by decide +kernel
theorem dX5_differencesTo_0 : decode cX5_differencesTo 0 = .ok (.iconst 0, 1) := by decide +kernel
theorem dX5_differencesTo_1 : decode cX5_differencesTo 1 = .ok (.istore_n 2, 1) := by decide +kernel
theorem dX5_differencesTo_2 : decode cX5_differencesTo 2 = .ok (.iconst 0, 1) := by decide +kernel
theorem dX5_differencesTo_3 : decode cX5_differencesTo 3 = .ok (.istore_n 3, 1) := by decide +kernel
theorem dX5_differencesTo_4 : decode cX5_differencesTo 4 = .ok (.iload_n 3, 1) := by decide +kernel
theorem dX5_differencesTo_5 : decode cX5_differencesTo 5 = .ok (.aload_n 0, 1) := by decide +kernel
theorem dX5_differencesTo_6 : decode cX5_differencesTo 6 = .ok (.getfield 13, 3) := by decide +kernel
theorem dX5_differencesTo_9 : decode cX5_differencesTo 9 = .ok (.arraylength, 1) := by decide +kernel
theorem dX5_differencesTo_10 : decode cX5_differencesTo 10 = .ok (.if_icmp .ge 26, 3) := by decide +kernel
theorem dX5_differencesTo_13 : decode cX5_differencesTo 13 = .ok (.aload_n 0, 1) := by decide +kernel
theorem dX5_differencesTo_14 : decode cX5_differencesTo 14 = .ok (.getfield 13, 3) := by decide +kernel
theorem dX5_differencesTo_17 : decode cX5_differencesTo 17 = .ok (.iload_n 3, 1) := by decide +kernel
theorem dX5_differencesTo_18 : decode cX5_differencesTo 18 = .ok (.iaload, 1) := by decide +kernel
theorem dX5_differencesTo_19 : decode cX5_differencesTo 19 = .ok (.aload_n 1, 1) := by decide +kernel
theorem dX5_differencesTo_20 : decode cX5_differencesTo 20 = .ok (.iload_n 3, 1) := by decide +kernel
theorem dX5_differencesTo_21 : decode cX5_differencesTo 21 = .ok (.invokevirtual 19, 3) := by decide +kernel
theorem dX5_differencesTo_24 : decode cX5_differencesTo 24 = .ok (.if_icmp .eq 6, 3) := by decide +kernel
theorem dX5_differencesTo_27 : decode cX5_differencesTo 27 = .ok (.iinc 2 1, 3) := by decide +kernel
theorem dX5_differencesTo_30 : decode cX5_differencesTo 30 = .ok (.iinc 3 1, 3) := by decide +kernel
theorem dX5_differencesTo_33 : decode cX5_differencesTo 33 = .ok (.goto (-29), 3) := by decide +kernel
theorem dX5_differencesTo_36 : decode cX5_differencesTo 36 = .ok (.iload_n 2, 1) := by decide +kernel
theorem dX5_differencesTo_37 : decode cX5_differencesTo 37 = .ok (.ireturn, 1) := by decide +kernel
theorem dX5_copyFrom_0 : decode cX5_copyFrom 0 = .ok (.aload_n 1, 1) := by decide +kernel
theorem dX5_copyFrom_1 : decode cX5_copyFrom 1 = .ok (.getfield 13, 3) := by decide +kernel
theorem dX5_copyFrom_4 : decode cX5_copyFrom 4 = .ok (.iconst 0, 1) := by decide +kernel
theorem dX5_copyFrom_5 : decode cX5_copyFrom 5 = .ok (.aload_n 0, 1) := by decide +kernel
theorem dX5_copyFrom_6 : decode cX5_copyFrom 6 = .ok (.getfield 13, 3) := by decide +kernel
theorem dX5_copyFrom_9 : decode cX5_copyFrom 9 = .ok (.iconst 0, 1) := by decide +kernel
theorem dX5_copyFrom_10 : decode cX5_copyFrom 10 = .ok (.aload_n 0, 1) := by decide +kernel
theorem dX5_copyFrom_11 : decode cX5_copyFrom 11 = .ok (.getfield 13, 3) := by decide +kernel
theorem dX5_copyFrom_14 : decode cX5_copyFrom 14 = .ok (.arraylength, 1) := by decide +kernel
theorem dX5_copyFrom_15 : decode cX5_copyFrom 15 = .ok (.aload_n 1, 1) := by decide +kernel
theorem dX5_copyFrom_16 : decode cX5_copyFrom 16 = .ok (.getfield 13, 3) := by decide +kernel
theorem dX5_copyFrom_19 : decode cX5_copyFrom 19 = .ok (.arraylength, 1) := by decide +kernel
theorem dX5_copyFrom_20 : decode cX5_copyFrom 20 = .ok (.invokestatic 23, 3) := by decide +kernel
theorem dX5_copyFrom_23 : decode cX5_copyFrom 23 = .ok (.invokestatic 26, 3) := by decide +kernel
theorem dX5_copyFrom_26 : decode cX5_copyFrom 26 = .ok (.return_, 1) := by decide +kernel
theorem dX6_init_0 : decode cX6_init 0 = .ok (.aload_n 0, 1) := by decide +kernel
theorem dX6_init_1 : decode cX6_init 1 = .ok (.invokespecial 3, 3) := by decide +kernel
theorem dX6_init_4 : decode cX6_init 4 = .ok (.aload_n 0, 1) := by decide +kernel
theorem dX6_init_5 : decode cX6_init 5 = .ok (.bipush 80, 2) := by decide +kernel
theorem dX6_init_7 : decode cX6_init 7 = .ok (.newarray .char, 2) := by decide +kernel
theorem dX6_init_9 : decode cX6_init 9 = .ok (.putfield 9, 3) := by decide +kernel
theorem dX6_init_12 : decode cX6_init 12 = .ok (.return_, 1) := by decide +kernel
theorem dX7_init_0 : decode cX7_init 0 = .ok (.aload_n 0, 1) := by decide +kernel
theorem dX7_init_1 : decode cX7_init 1 = .ok (.invokespecial 3, 3) := by decide +kernel
theorem dX7_init_4 : decode cX7_init 4 = .ok (.aload_n 0, 1) := by decide +kernel
theorem dX7_init_5 : decode cX7_init 5 = .ok (.new 9, 3) := by decide +kernel
theorem dX7_init_8 : decode cX7_init 8 = .ok (.dup, 1) := by decide +kernel
theorem dX7_init_9 : decode cX7_init 9 = .ok (.bipush 36, 2) := by decide +kernel
theorem dX7_init_11 : decode cX7_init 11 = .ok (.invokespecial 13, 3) := by decide +kernel
theorem dX7_init_14 : decode cX7_init 14 = .ok (.putfield 16, 3) := by decide +kernel
theorem dX7_init_17 : decode cX7_init 17 = .ok (.return_, 1) := by decide +kernel
theorem dX7_copyFrom_0 : decode cX7_copyFrom 0 = .ok (.aload_n 0, 1) := by decide +kernel
theorem dX7_copyFrom_1 : decode cX7_copyFrom 1 = .ok (.getfield 16, 3) := by decide +kernel
theorem dX7_copyFrom_4 : decode cX7_copyFrom 4 = .ok (.aload_n 1, 1) := by decide +kernel
theorem dX7_copyFrom_5 : decode cX7_copyFrom 5 = .ok (.getfield 16, 3) := by decide +kernel
theorem dX7_copyFrom_8 : decode cX7_copyFrom 8 = .ok (.invokevirtual 20, 3) := by decide +kernel
theorem dX7_copyFrom_11 : decode cX7_copyFrom 11 = .ok (.aload_n 0, 1) := by decide +kernel
theorem dX7_copyFrom_12 : decode cX7_copyFrom 12 = .ok (.aload_n 1, 1) := by decide +kernel
theorem dX7_copyFrom_13 : decode cX7_copyFrom 13 = .ok (.getfield 24, 3) := by decide +kernel
theorem dX7_copyFrom_16 : decode cX7_copyFrom 16 = .ok (.putfield 24, 3) := by decide +kernel
theorem dX7_copyFrom_19 : decode cX7_copyFrom 19 = .ok (.return_, 1) := by decide +kernel
theorem dX7_add_0 : decode cX7_add 0 = .ok (.aload_n 0, 1) := by decide +kernel
theorem dX7_add_1 : decode cX7_add 1 = .ok (.getfield 24, 3) := by decide +kernel
theorem dX7_add_4 : decode cX7_add 4 = .ok (.bipush 12, 2) := by decide +kernel
theorem dX7_add_6 : decode cX7_add 6 = .ok (.irem, 1) := by decide +kernel
theorem dX7_add_7 : decode cX7_add 7 = .ok (.iconst 3, 1) := by decide +kernel
theorem dX7_add_8 : decode cX7_add 8 = .ok (.imul, 1) := by decide +kernel
theorem dX7_add_9 : decode cX7_add 9 = .ok (.istore 4, 2) := by decide +kernel
theorem dX7_add_11 : decode cX7_add 11 = .ok (.aload_n 0, 1) := by decide +kernel
theorem dX7_add_12 : decode cX7_add 12 = .ok (.getfield 16, 3) := by decide +kernel
theorem dX7_add_15 : decode cX7_add 15 = .ok (.iload 4, 2) := by decide +kernel
theorem dX7_add_17 : decode cX7_add 17 = .ok (.iconst 0, 1) := by decide +kernel
theorem dX7_add_18 : decode cX7_add 18 = .ok (.iadd, 1) := by decide +kernel
theorem dX7_add_19 : decode cX7_add 19 = .ok (.iload_n 1, 1) := by decide +kernel
theorem dX7_add_20 : decode cX7_add 20 = .ok (.invokevirtual 28, 3) := by decide +kernel
theorem dX7_add_23 : decode cX7_add 23 = .ok (.aload_n 0, 1) := by decide +kernel
theorem dX7_add_24 : decode cX7_add 24 = .ok (.getfield 16, 3) := by decide +kernel
theorem dX7_add_27 : decode cX7_add 27 = .ok (.iload 4, 2) := by decide +kernel
theorem dX7_add_29 : decode cX7_add 29 = .ok (.iconst 1, 1) := by decide +kernel
theorem dX7_add_30 : decode cX7_add 30 = .ok (.iadd, 1) := by decide +kernel
theorem dX7_add_31 : decode cX7_add 31 = .ok (.iload_n 2, 1) := by decide +kernel
theorem dX7_add_32 : decode cX7_add 32 = .ok (.invokevirtual 28, 3) := by decide +kernel
theorem dX7_add_35 : decode cX7_add 35 = .ok (.aload_n 0, 1) := by decide +kernel
theorem dX7_add_36 : decode cX7_add 36 = .ok (.getfield 16, 3) := by decide +kernel
theorem dX7_add_39 : decode cX7_add 39 = .ok (.iload 4, 2) := by decide +kernel
theorem dX7_add_41 : decode cX7_add 41 = .ok (.iconst 2, 1) := by decide +kernel
theorem dX7_add_42 : decode cX7_add 42 = .ok (.iadd, 1) := by decide +kernel
theorem dX7_add_43 : decode cX7_add 43 = .ok (.iload_n 3, 1) := by decide +kernel
theorem dX7_add_44 : decode cX7_add 44 = .ok (.invokevirtual 28, 3) := by decide +kernel
theorem dX7_add_47 : decode cX7_add 47 = .ok (.aload_n 0, 1) := by decide +kernel
theorem dX7_add_48 : decode cX7_add 48 = .ok (.dup, 1) := by decide +kernel
theorem dX7_add_49 : decode cX7_add 49 = .ok (.getfield 24, 3) := by decide +kernel
theorem dX7_add_52 : decode cX7_add 52 = .ok (.iconst 1, 1) := by decide +kernel
theorem dX7_add_53 : decode cX7_add 53 = .ok (.iadd, 1) := by decide +kernel
theorem dX7_add_54 : decode cX7_add 54 = .ok (.putfield 24, 3) := by decide +kernel
theorem dX7_add_57 : decode cX7_add 57 = .ok (.return_, 1) := by decide +kernel
theorem dX7_tell_0 : decode cX7_tell 0 = .ok (.aload_n 0, 1) := by decide +kernel
theorem dX7_tell_1 : decode cX7_tell 1 = .ok (.getfield 16, 3) := by decide +kernel
theorem dX7_tell_4 : decode cX7_tell 4 = .ok (.aload_n 0, 1) := by decide +kernel
theorem dX7_tell_5 : decode cX7_tell 5 = .ok (.getfield 24, 3) := by decide +kernel
theorem dX7_tell_8 : decode cX7_tell 8 = .ok (.iconst 1, 1) := by decide +kernel
theorem dX7_tell_9 : decode cX7_tell 9 = .ok (.isub, 1) := by decide +kernel
theorem dX7_tell_10 : decode cX7_tell 10 = .ok (.iload_n 1, 1) := by decide +kernel
theorem dX7_tell_11 : decode cX7_tell 11 = .ok (.isub, 1) := by decide +kernel
theorem dX7_tell_12 : decode cX7_tell 12 = .ok (.bipush 12, 2) := by decide +kernel
theorem dX7_tell_14 : decode cX7_tell 14 = .ok (.irem, 1) := by decide +kernel
theorem dX7_tell_15 : decode cX7_tell 15 = .ok (.iconst 3, 1) := by decide +kernel
theorem dX7_tell_16 : decode cX7_tell 16 = .ok (.imul, 1) := by decide +kernel
theorem dX7_tell_17 : decode cX7_tell 17 = .ok (.iload_n 2, 1) := by decide +kernel
theorem dX7_tell_18 : decode cX7_tell 18 = .ok (.iadd, 1) := by decide +kernel
theorem dX7_tell_19 : decode cX7_tell 19 = .ok (.invokevirtual 32, 3) := by decide +kernel
theorem dX7_tell_22 : decode cX7_tell 22 = .ok (.ireturn, 1) := by decide +kernel
theorem dX8_init_0 : decode cX8_init 0 = .ok (.aload_n 0, 1) := by decide +kernel
theorem dX8_init_1 : decode cX8_init 1 = .ok (.invokespecial 1, 3) := by decide +kernel
theorem dX8_init_4 : decode cX8_init 4 = .ok (.aload_n 0, 1) := by decide +kernel
theorem dX8_init_5 : decode cX8_init 5 = .ok (.new 7, 3) := by decide +kernel
theorem dX8_init_8 : decode cX8_init 8 = .ok (.dup, 1) := by decide +kernel
theorem dX8_init_9 : decode cX8_init 9 = .ok (.invokespecial 9, 3) := by decide +kernel
theorem dX8_init_12 : decode cX8_init 12 = .ok (.putfield 10, 3) := by decide +kernel
theorem dX8_init_15 : decode cX8_init 15 = .ok (.aload_n 0, 1) := by decide +kernel
theorem dX8_init_16 : decode cX8_init 16 = .ok (.new 7, 3) := by decide +kernel
theorem dX8_init_19 : decode cX8_init 19 = .ok (.dup, 1) := by decide +kernel
theorem dX8_init_20 : decode cX8_init 20 = .ok (.invokespecial 9, 3) := by decide +kernel
theorem dX8_init_23 : decode cX8_init 23 = .ok (.putfield 16, 3) := by decide +kernel
theorem dX8_init_26 : decode cX8_init 26 = .ok (.aload_n 0, 1) := by decide +kernel
theorem dX8_init_27 : decode cX8_init 27 = .ok (.new 7, 3) := by decide +kernel
theorem dX8_init_30 : decode cX8_init 30 = .ok (.dup, 1) := by decide +kernel
theorem dX8_init_31 : decode cX8_init 31 = .ok (.invokespecial 9, 3) := by decide +kernel
theorem dX8_init_34 : decode cX8_init 34 = .ok (.putfield 19, 3) := by decide +kernel
theorem dX8_init_37 : decode cX8_init 37 = .ok (.aload_n 0, 1) := by decide +kernel
theorem dX8_init_38 : decode cX8_init 38 = .ok (.new 22, 3) := by decide +kernel
theorem dX8_init_41 : decode cX8_init 41 = .ok (.dup, 1) := by decide +kernel
theorem dX8_init_42 : decode cX8_init 42 = .ok (.invokespecial 24, 3) := by decide +kernel
theorem dX8_init_45 : decode cX8_init 45 = .ok (.putfield 25, 3) := by decide +kernel
theorem dX8_init_48 : decode cX8_init 48 = .ok (.aload_n 0, 1) := by decide +kernel
theorem dX8_init_49 : decode cX8_init 49 = .ok (.new 29, 3) := by decide +kernel
theorem dX8_init_52 : decode cX8_init 52 = .ok (.dup, 1) := by decide +kernel
theorem dX8_init_53 : decode cX8_init 53 = .ok (.invokespecial 31, 3) := by decide +kernel
theorem dX8_init_56 : decode cX8_init 56 = .ok (.putfield 32, 3) := by decide +kernel
theorem dX8_init_59 : decode cX8_init 59 = .ok (.aload_n 0, 1) := by decide +kernel
theorem dX8_init_60 : decode cX8_init 60 = .ok (.new 36, 3) := by decide +kernel
theorem dX8_init_63 : decode cX8_init 63 = .ok (.dup, 1) := by decide +kernel
theorem dX8_init_64 : decode cX8_init 64 = .ok (.invokespecial 38, 3) := by decide +kernel
theorem dX8_init_67 : decode cX8_init 67 = .ok (.putfield 39, 3) := by decide +kernel
theorem dX8_init_70 : decode cX8_init 70 = .ok (.return_, 1) := by decide +kernel
theorem dX8_put_0 : decode cX8_put 0 = .ok (.iload_n 1, 1) := by decide +kernel
theorem dX8_put_1 : decode cX8_put 1 = .ok (.bipush 8, 2) := by decide +kernel
theorem dX8_put_3 : decode cX8_put 3 = .ok (.invokestatic 43, 3) := by decide +kernel
theorem dX8_put_6 : decode cX8_put 6 = .ok (.ifCond .eq 12, 3) := by decide +kernel
theorem dX8_put_9 : decode cX8_put 9 = .ok (.iload_n 2, 1) := by decide +kernel
theorem dX8_put_10 : decode cX8_put 10 = .ok (.bipush 16, 2) := by decide +kernel
theorem dX8_put_12 : decode cX8_put 12 = .ok (.invokestatic 43, 3) := by decide +kernel
theorem dX8_put_15 : decode cX8_put 15 = .ok (.ifCond .ne 5, 3) := by decide +kernel
theorem dX8_put_18 : decode cX8_put 18 = .ok (.iconst (-1), 1) := by decide +kernel
theorem dX8_put_19 : decode cX8_put 19 = .ok (.ireturn, 1) := by decide +kernel
theorem dX8_put_20 : decode cX8_put 20 = .ok (.iload_n 3, 1) := by decide +kernel
theorem dX8_put_21 : decode cX8_put 21 = .ok (.ifCond .lt 10, 3) := by decide +kernel
theorem dX8_put_24 : decode cX8_put 24 = .ok (.iload_n 3, 1) := by decide +kernel
theorem dX8_put_25 : decode cX8_put 25 = .ok (.sipush 999, 3) := by decide +kernel
theorem dX8_put_28 : decode cX8_put 28 = .ok (.if_icmp .le 6, 3) := by decide +kernel
theorem dX8_put_31 : decode cX8_put 31 = .ok (.bipush (-2), 2) := by decide +kernel
theorem dX8_put_33 : decode cX8_put 33 = .ok (.ireturn, 1) := by decide +kernel
theorem dX8_put_34 : decode cX8_put 34 = .ok (.aload_n 0, 1) := by decide +kernel
theorem dX8_put_35 : decode cX8_put 35 = .ok (.getfield 10, 3) := by decide +kernel
theorem dX8_put_38 : decode cX8_put 38 = .ok (.getfield 47, 3) := by decide +kernel
theorem dX8_put_41 : decode cX8_put 41 = .ok (.iload_n 1, 1) := by decide +kernel
theorem dX8_put_42 : decode cX8_put 42 = .ok (.iload_n 2, 1) := by decide +kernel
theorem dX8_put_43 : decode cX8_put 43 = .ok (.invokevirtual 51, 3) := by decide +kernel
theorem dX8_put_46 : decode cX8_put 46 = .ok (.istore 4, 2) := by decide +kernel
theorem dX8_put_48 : decode cX8_put 48 = .ok (.iload 4, 2) := by decide +kernel
theorem dX8_put_50 : decode cX8_put 50 = .ok (.iload_n 3, 1) := by decide +kernel
theorem dX8_put_51 : decode cX8_put 51 = .ok (.if_icmp .ne 6, 3) := by decide +kernel
theorem dX8_put_54 : decode cX8_put 54 = .ok (.bipush (-5), 2) := by decide +kernel
theorem dX8_put_56 : decode cX8_put 56 = .ok (.ireturn, 1) := by decide +kernel
theorem dX8_put_57 : decode cX8_put 57 = .ok (.aload_n 0, 1) := by decide +kernel
theorem dX8_put_58 : decode cX8_put 58 = .ok (.getfield 25, 3) := by decide +kernel
theorem dX8_put_61 : decode cX8_put 61 = .ok (.aload_n 0, 1) := by decide +kernel
theorem dX8_put_62 : decode cX8_put 62 = .ok (.getfield 10, 3) := by decide +kernel
theorem dX8_put_65 : decode cX8_put 65 = .ok (.invokevirtual 57, 3) := by decide +kernel
theorem dX8_put_68 : decode cX8_put 68 = .ok (.aload_n 0, 1) := by decide +kernel
theorem dX8_put_69 : decode cX8_put 69 = .ok (.getfield 10, 3) := by decide +kernel
theorem dX8_put_72 : decode cX8_put 72 = .ok (.getfield 47, 3) := by decide +kernel
theorem dX8_put_75 : decode cX8_put 75 = .ok (.iload_n 1, 1) := by decide +kernel
theorem dX8_put_76 : decode cX8_put 76 = .ok (.iload_n 2, 1) := by decide +kernel
theorem dX8_put_77 : decode cX8_put 77 = .ok (.iload_n 3, 1) := by decide +kernel
theorem dX8_put_78 : decode cX8_put 78 = .ok (.invokevirtual 61, 3) := by decide +kernel
theorem dX8_put_81 : decode cX8_put 81 = .ok (.iload 4, 2) := by decide +kernel
theorem dX8_put_83 : decode cX8_put 83 = .ok (.ireturn, 1) := by decide +kernel
theorem dX8_lock_0 : decode cX8_lock 0 = .ok (.iload_n 1, 1) := by decide +kernel
theorem dX8_lock_1 : decode cX8_lock 1 = .ok (.bipush 8, 2) := by decide +kernel
theorem dX8_lock_3 : decode cX8_lock 3 = .ok (.invokestatic 43, 3) := by decide +kernel
theorem dX8_lock_6 : decode cX8_lock 6 = .ok (.ifCond .ne 5, 3) := by decide +kernel
theorem dX8_lock_9 : decode cX8_lock 9 = .ok (.iconst (-1), 1) := by decide +kernel
theorem dX8_lock_10 : decode cX8_lock 10 = .ok (.ireturn, 1) := by decide +kernel
theorem dX8_lock_11 : decode cX8_lock 11 = .ok (.aload_n 0, 1) := by decide +kernel
theorem dX8_lock_12 : decode cX8_lock 12 = .ok (.getfield 10, 3) := by decide +kernel
theorem dX8_lock_15 : decode cX8_lock 15 = .ok (.getfield 47, 3) := by decide +kernel
theorem dX8_lock_18 : decode cX8_lock 18 = .ok (.iload_n 1, 1) := by decide +kernel
theorem dX8_lock_19 : decode cX8_lock 19 = .ok (.invokevirtual 65, 3) := by decide +kernel
theorem dX8_lock_22 : decode cX8_lock 22 = .ok (.iload_n 2, 1) := by decide +kernel
theorem dX8_lock_23 : decode cX8_lock 23 = .ok (.if_icmp .ne 6, 3) := by decide +kernel
theorem dX8_lock_26 : decode cX8_lock 26 = .ok (.bipush (-5), 2) := by decide +kernel
theorem dX8_lock_28 : decode cX8_lock 28 = .ok (.ireturn, 1) := by decide +kernel
theorem dX8_lock_29 : decode cX8_lock 29 = .ok (.aload_n 0, 1) := by decide +kernel
theorem dX8_lock_30 : decode cX8_lock 30 = .ok (.getfield 25, 3) := by decide +kernel
theorem dX8_lock_33 : decode cX8_lock 33 = .ok (.aload_n 0, 1) := by decide +kernel
theorem dX8_lock_34 : decode cX8_lock 34 = .ok (.getfield 10, 3) := by decide +kernel
theorem dX8_lock_37 : decode cX8_lock 37 = .ok (.invokevirtual 57, 3) := by decide +kernel
theorem dX8_lock_40 : decode cX8_lock 40 = .ok (.aload_n 0, 1) := by decide +kernel
theorem dX8_lock_41 : decode cX8_lock 41 = .ok (.getfield 10, 3) := by decide +kernel
theorem dX8_lock_44 : decode cX8_lock 44 = .ok (.getfield 47, 3) := by decide +kernel
theorem dX8_lock_47 : decode cX8_lock 47 = .ok (.getfield 69, 3) := by decide +kernel
theorem dX8_lock_50 : decode cX8_lock 50 = .ok (.iload_n 1, 1) := by decide +kernel
theorem dX8_lock_51 : decode cX8_lock 51 = .ok (.iload_n 2, 1) := by decide +kernel
theorem dX8_lock_52 : decode cX8_lock 52 = .ok (.ifCond .eq 7, 3) := by decide +kernel
theorem dX8_lock_55 : decode cX8_lock 55 = .ok (.iconst 1, 1) := by decide +kernel
theorem dX8_lock_56 : decode cX8_lock 56 = .ok (.goto 4, 3) := by decide +kernel
theorem dX8_lock_59 : decode cX8_lock 59 = .ok (.iconst 0, 1) := by decide +kernel
theorem dX8_lock_60 : decode cX8_lock 60 = .ok (.invokevirtual 73, 3) := by decide +kernel
theorem dX8_lock_63 : decode cX8_lock 63 = .ok (.aload_n 0, 1) := by decide +kernel
theorem dX8_lock_64 : decode cX8_lock 64 = .ok (.getfield 10, 3) := by decide +kernel
theorem dX8_lock_67 : decode cX8_lock 67 = .ok (.getfield 47, 3) := by decide +kernel
theorem dX8_lock_70 : decode cX8_lock 70 = .ok (.getfield 69, 3) := by decide +kernel
theorem dX8_lock_73 : decode cX8_lock 73 = .ok (.invokevirtual 79, 3) := by decide +kernel
theorem dX8_lock_76 : decode cX8_lock 76 = .ok (.ireturn, 1) := by decide +kernel
theorem dX8_show_0 : decode cX8_show 0 = .ok (.iload_n 1, 1) := by decide +kernel
theorem dX8_show_1 : decode cX8_show 1 = .ok (.iconst 4, 1) := by decide +kernel
theorem dX8_show_2 : decode cX8_show 2 = .ok (.invokestatic 43, 3) := by decide +kernel
theorem dX8_show_5 : decode cX8_show 5 = .ok (.ifCond .eq 12, 3) := by decide +kernel
theorem dX8_show_8 : decode cX8_show 8 = .ok (.iload_n 2, 1) := by decide +kernel
theorem dX8_show_9 : decode cX8_show 9 = .ok (.bipush 8, 2) := by decide +kernel
theorem dX8_show_11 : decode cX8_show 11 = .ok (.invokestatic 43, 3) := by decide +kernel
theorem dX8_show_14 : decode cX8_show 14 = .ok (.ifCond .ne 5, 3) := by decide +kernel
theorem dX8_show_17 : decode cX8_show 17 = .ok (.iconst (-1), 1) := by decide +kernel
theorem dX8_show_18 : decode cX8_show 18 = .ok (.ireturn, 1) := by decide +kernel
theorem dX8_show_19 : decode cX8_show 19 = .ok (.aload_n 0, 1) := by decide +kernel
theorem dX8_show_20 : decode cX8_show 20 = .ok (.getfield 10, 3) := by decide +kernel
theorem dX8_show_23 : decode cX8_show 23 = .ok (.getfield 47, 3) := by decide +kernel
theorem dX8_show_26 : decode cX8_show 26 = .ok (.getfield 83, 3) := by decide +kernel
theorem dX8_show_29 : decode cX8_show 29 = .ok (.iload_n 1, 1) := by decide +kernel
theorem dX8_show_30 : decode cX8_show 30 = .ok (.invokevirtual 86, 3) := by decide +kernel
theorem dX8_show_33 : decode cX8_show 33 = .ok (.istore_n 3, 1) := by decide +kernel
theorem dX8_show_34 : decode cX8_show 34 = .ok (.iload_n 3, 1) := by decide +kernel
theorem dX8_show_35 : decode cX8_show 35 = .ok (.iload_n 2, 1) := by decide +kernel
theorem dX8_show_36 : decode cX8_show 36 = .ok (.if_icmp .ne 6, 3) := by decide +kernel
theorem dX8_show_39 : decode cX8_show 39 = .ok (.bipush (-5), 2) := by decide +kernel
theorem dX8_show_41 : decode cX8_show 41 = .ok (.ireturn, 1) := by decide +kernel
theorem dX8_show_42 : decode cX8_show 42 = .ok (.aload_n 0, 1) := by decide +kernel
theorem dX8_show_43 : decode cX8_show 43 = .ok (.getfield 25, 3) := by decide +kernel
theorem dX8_show_46 : decode cX8_show 46 = .ok (.aload_n 0, 1) := by decide +kernel
theorem dX8_show_47 : decode cX8_show 47 = .ok (.getfield 10, 3) := by decide +kernel
theorem dX8_show_50 : decode cX8_show 50 = .ok (.invokevirtual 57, 3) := by decide +kernel
theorem dX8_show_53 : decode cX8_show 53 = .ok (.aload_n 0, 1) := by decide +kernel
theorem dX8_show_54 : decode cX8_show 54 = .ok (.getfield 10, 3) := by decide +kernel
theorem dX8_show_57 : decode cX8_show 57 = .ok (.getfield 47, 3) := by decide +kernel
theorem dX8_show_60 : decode cX8_show 60 = .ok (.getfield 83, 3) := by decide +kernel
theorem dX8_show_63 : decode cX8_show 63 = .ok (.iload_n 1, 1) := by decide +kernel
theorem dX8_show_64 : decode cX8_show 64 = .ok (.iload_n 2, 1) := by decide +kernel
theorem dX8_show_65 : decode cX8_show 65 = .ok (.invokevirtual 73, 3) := by decide +kernel
theorem dX8_show_68 : decode cX8_show 68 = .ok (.iload_n 3, 1) := by decide +kernel
theorem dX8_show_69 : decode cX8_show 69 = .ok (.ireturn, 1) := by decide +kernel
theorem dX8_copyBank_0 : decode cX8_copyBank 0 = .ok (.iload_n 1, 1) := by decide +kernel
theorem dX8_copyBank_1 : decode cX8_copyBank 1 = .ok (.bipush 8, 2) := by decide +kernel
theorem dX8_copyBank_3 : decode cX8_copyBank 3 = .ok (.invokestatic 43, 3) := by decide +kernel
theorem dX8_copyBank_6 : decode cX8_copyBank 6 = .ok (.ifCond .eq 12, 3) := by decide +kernel
theorem dX8_copyBank_9 : decode cX8_copyBank 9 = .ok (.iload_n 2, 1) := by decide +kernel
theorem dX8_copyBank_10 : decode cX8_copyBank 10 = .ok (.bipush 8, 2) := by decide +kernel
theorem dX8_copyBank_12 : decode cX8_copyBank 12 = .ok (.invokestatic 43, 3) := by decide +kernel
theorem dX8_copyBank_15 : decode cX8_copyBank 15 = .ok (.ifCond .ne 5, 3) := by decide +kernel
theorem dX8_copyBank_18 : decode cX8_copyBank 18 = .ok (.iconst (-1), 1) := by decide +kernel
theorem dX8_copyBank_19 : decode cX8_copyBank 19 = .ok (.ireturn, 1) := by decide +kernel
theorem dX8_copyBank_20 : decode cX8_copyBank 20 = .ok (.aload_n 0, 1) := by decide +kernel
theorem dX8_copyBank_21 : decode cX8_copyBank 21 = .ok (.getfield 10, 3) := by decide +kernel
theorem dX8_copyBank_24 : decode cX8_copyBank 24 = .ok (.getfield 47, 3) := by decide +kernel
theorem dX8_copyBank_27 : decode cX8_copyBank 27 = .ok (.iload_n 1, 1) := by decide +kernel
theorem dX8_copyBank_28 : decode cX8_copyBank 28 = .ok (.iload_n 2, 1) := by decide +kernel
theorem dX8_copyBank_29 : decode cX8_copyBank 29 = .ok (.invokevirtual 90, 3) := by decide +kernel
theorem dX8_copyBank_32 : decode cX8_copyBank 32 = .ok (.istore_n 3, 1) := by decide +kernel
theorem dX8_copyBank_33 : decode cX8_copyBank 33 = .ok (.iload_n 3, 1) := by decide +kernel
theorem dX8_copyBank_34 : decode cX8_copyBank 34 = .ok (.ifCond .ne 6, 3) := by decide +kernel
theorem dX8_copyBank_37 : decode cX8_copyBank 37 = .ok (.bipush (-5), 2) := by decide +kernel
theorem dX8_copyBank_39 : decode cX8_copyBank 39 = .ok (.ireturn, 1) := by decide +kernel
theorem dX8_copyBank_40 : decode cX8_copyBank 40 = .ok (.aload_n 0, 1) := by decide +kernel
theorem dX8_copyBank_41 : decode cX8_copyBank 41 = .ok (.getfield 25, 3) := by decide +kernel
theorem dX8_copyBank_44 : decode cX8_copyBank 44 = .ok (.aload_n 0, 1) := by decide +kernel
theorem dX8_copyBank_45 : decode cX8_copyBank 45 = .ok (.getfield 10, 3) := by decide +kernel
theorem dX8_copyBank_48 : decode cX8_copyBank 48 = .ok (.invokevirtual 57, 3) := by decide +kernel
theorem dX8_copyBank_51 : decode cX8_copyBank 51 = .ok (.aload_n 0, 1) := by decide +kernel
theorem dX8_copyBank_52 : decode cX8_copyBank 52 = .ok (.getfield 10, 3) := by decide +kernel
theorem dX8_copyBank_55 : decode cX8_copyBank 55 = .ok (.getfield 47, 3) := by decide +kernel
theorem dX8_copyBank_58 : decode cX8_copyBank 58 = .ok (.iload_n 1, 1) := by decide +kernel
theorem dX8_copyBank_59 : decode cX8_copyBank 59 = .ok (.iload_n 2, 1) := by decide +kernel
theorem dX8_copyBank_60 : decode cX8_copyBank 60 = .ok (.invokevirtual 93, 3) := by decide +kernel
theorem dX8_copyBank_63 : decode cX8_copyBank 63 = .ok (.iload_n 3, 1) := by decide +kernel
theorem dX8_copyBank_64 : decode cX8_copyBank 64 = .ok (.ireturn, 1) := by decide +kernel
theorem dX8_set_0 : decode cX8_set 0 = .ok (.iload_n 1, 1) := by decide +kernel
theorem dX8_set_1 : decode cX8_set 1 = .ok (.iconst 2, 1) := by decide +kernel
theorem dX8_set_2 : decode cX8_set 2 = .ok (.invokestatic 43, 3) := by decide +kernel
theorem dX8_set_5 : decode cX8_set 5 = .ok (.ifCond .ne 6, 3) := by decide +kernel
theorem dX8_set_8 : decode cX8_set 8 = .ok (.bipush (-2), 2) := by decide +kernel
theorem dX8_set_10 : decode cX8_set 10 = .ok (.ireturn, 1) := by decide +kernel
theorem dX8_set_11 : decode cX8_set 11 = .ok (.aload_n 0, 1) := by decide +kernel
theorem dX8_set_12 : decode cX8_set 12 = .ok (.getfield 10, 3) := by decide +kernel
theorem dX8_set_15 : decode cX8_set 15 = .ok (.getfield 96, 3) := by decide +kernel
theorem dX8_set_18 : decode cX8_set 18 = .ok (.istore_n 2, 1) := by decide +kernel
theorem dX8_set_19 : decode cX8_set 19 = .ok (.iload_n 2, 1) := by decide +kernel
theorem dX8_set_20 : decode cX8_set 20 = .ok (.iload_n 1, 1) := by decide +kernel
theorem dX8_set_21 : decode cX8_set 21 = .ok (.if_icmp .ne 6, 3) := by decide +kernel
theorem dX8_set_24 : decode cX8_set 24 = .ok (.bipush (-5), 2) := by decide +kernel
theorem dX8_set_26 : decode cX8_set 26 = .ok (.ireturn, 1) := by decide +kernel
theorem dX8_set_27 : decode cX8_set 27 = .ok (.aload_n 0, 1) := by decide +kernel
theorem dX8_set_28 : decode cX8_set 28 = .ok (.getfield 25, 3) := by decide +kernel
theorem dX8_set_31 : decode cX8_set 31 = .ok (.aload_n 0, 1) := by decide +kernel
theorem dX8_set_32 : decode cX8_set 32 = .ok (.getfield 10, 3) := by decide +kernel
theorem dX8_set_35 : decode cX8_set 35 = .ok (.invokevirtual 57, 3) := by decide +kernel
theorem dX8_set_38 : decode cX8_set 38 = .ok (.aload_n 0, 1) := by decide +kernel
theorem dX8_set_39 : decode cX8_set 39 = .ok (.getfield 10, 3) := by decide +kernel
theorem dX8_set_42 : decode cX8_set 42 = .ok (.iload_n 1, 1) := by decide +kernel
theorem dX8_set_43 : decode cX8_set 43 = .ok (.putfield 96, 3) := by decide +kernel
theorem dX8_set_46 : decode cX8_set 46 = .ok (.iload_n 2, 1) := by decide +kernel
theorem dX8_set_47 : decode cX8_set 47 = .ok (.ireturn, 1) := by decide +kernel
theorem dX8_begin_0 : decode cX8_begin 0 = .ok (.iload_n 1, 1) := by decide +kernel
theorem dX8_begin_1 : decode cX8_begin 1 = .ok (.bipush 64, 2) := by decide +kernel
theorem dX8_begin_3 : decode cX8_begin 3 = .ok (.invokestatic 43, 3) := by decide +kernel
theorem dX8_begin_6 : decode cX8_begin 6 = .ok (.ifCond .ne 5, 3) := by decide +kernel
theorem dX8_begin_9 : decode cX8_begin 9 = .ok (.iconst (-1), 1) := by decide +kernel
theorem dX8_begin_10 : decode cX8_begin 10 = .ok (.ireturn, 1) := by decide +kernel
theorem dX8_begin_11 : decode cX8_begin 11 = .ok (.aload_n 0, 1) := by decide +kernel
theorem dX8_begin_12 : decode cX8_begin 12 = .ok (.getfield 10, 3) := by decide +kernel
theorem dX8_begin_15 : decode cX8_begin 15 = .ok (.getfield 100, 3) := by decide +kernel
theorem dX8_begin_18 : decode cX8_begin 18 = .ok (.istore_n 2, 1) := by decide +kernel
theorem dX8_begin_19 : decode cX8_begin 19 = .ok (.aload_n 0, 1) := by decide +kernel
theorem dX8_begin_20 : decode cX8_begin 20 = .ok (.getfield 25, 3) := by decide +kernel
theorem dX8_begin_23 : decode cX8_begin 23 = .ok (.aload_n 0, 1) := by decide +kernel
theorem dX8_begin_24 : decode cX8_begin 24 = .ok (.getfield 10, 3) := by decide +kernel
theorem dX8_begin_27 : decode cX8_begin 27 = .ok (.invokevirtual 57, 3) := by decide +kernel
theorem dX8_begin_30 : decode cX8_begin 30 = .ok (.aload_n 0, 1) := by decide +kernel
theorem dX8_begin_31 : decode cX8_begin 31 = .ok (.getfield 10, 3) := by decide +kernel
theorem dX8_begin_34 : decode cX8_begin 34 = .ok (.iload_n 1, 1) := by decide +kernel
theorem dX8_begin_35 : decode cX8_begin 35 = .ok (.invokevirtual 103, 3) := by decide +kernel
theorem dX8_begin_38 : decode cX8_begin 38 = .ok (.iload_n 2, 1) := by decide +kernel
theorem dX8_begin_39 : decode cX8_begin 39 = .ok (.ireturn, 1) := by decide +kernel
theorem dX8_run_0 : decode cX8_run 0 = .ok (.iload_n 1, 1) := by decide +kernel
theorem dX8_run_1 : decode cX8_run 1 = .ok (.invokestatic 107, 3) := by decide +kernel
theorem dX8_run_4 : decode cX8_run 4 = .ok (.ifCond .ne 6, 3) := by decide +kernel
theorem dX8_run_7 : decode cX8_run 7 = .ok (.bipush (-2), 2) := by decide +kernel
theorem dX8_run_9 : decode cX8_run 9 = .ok (.ireturn, 1) := by decide +kernel
theorem dX8_run_10 : decode cX8_run 10 = .ok (.aload_n 0, 1) := by decide +kernel
theorem dX8_run_11 : decode cX8_run 11 = .ok (.getfield 10, 3) := by decide +kernel
theorem dX8_run_14 : decode cX8_run 14 = .ok (.getfield 110, 3) := by decide +kernel
theorem dX8_run_17 : decode cX8_run 17 = .ok (.ifCond .eq 6, 3) := by decide +kernel
theorem dX8_run_20 : decode cX8_run 20 = .ok (.bipush (-4), 2) := by decide +kernel
theorem dX8_run_22 : decode cX8_run 22 = .ok (.ireturn, 1) := by decide +kernel
theorem dX8_run_23 : decode cX8_run 23 = .ok (.aload_n 0, 1) := by decide +kernel
theorem dX8_run_24 : decode cX8_run 24 = .ok (.getfield 10, 3) := by decide +kernel
theorem dX8_run_27 : decode cX8_run 27 = .ok (.getfield 113, 3) := by decide +kernel
theorem dX8_run_30 : decode cX8_run 30 = .ok (.getfield 117, 3) := by decide +kernel
theorem dX8_run_33 : decode cX8_run 33 = .ok (.iload_n 1, 1) := by decide +kernel
theorem dX8_run_34 : decode cX8_run 34 = .ok (.iadd, 1) := by decide +kernel
theorem dX8_run_35 : decode cX8_run 35 = .ok (.ldc 122, 2) := by decide +kernel
theorem dX8_run_37 : decode cX8_run 37 = .ok (.if_icmp .le 6, 3) := by decide +kernel
theorem dX8_run_40 : decode cX8_run 40 = .ok (.bipush (-3), 2) := by decide +kernel
theorem dX8_run_42 : decode cX8_run 42 = .ok (.ireturn, 1) := by decide +kernel
theorem dX8_run_43 : decode cX8_run 43 = .ok (.aload_n 0, 1) := by decide +kernel
theorem dX8_run_44 : decode cX8_run 44 = .ok (.getfield 25, 3) := by decide +kernel
theorem dX8_run_47 : decode cX8_run 47 = .ok (.aload_n 0, 1) := by decide +kernel
theorem dX8_run_48 : decode cX8_run 48 = .ok (.getfield 10, 3) := by decide +kernel
theorem dX8_run_51 : decode cX8_run 51 = .ok (.invokevirtual 57, 3) := by decide +kernel
theorem dX8_run_54 : decode cX8_run 54 = .ok (.aload_n 0, 1) := by decide +kernel
theorem dX8_run_55 : decode cX8_run 55 = .ok (.getfield 10, 3) := by decide +kernel
theorem dX8_run_58 : decode cX8_run 58 = .ok (.iload_n 1, 1) := by decide +kernel
theorem dX8_run_59 : decode cX8_run 59 = .ok (.invokevirtual 123, 3) := by decide +kernel
theorem dX8_run_62 : decode cX8_run 62 = .ok (.ireturn, 1) := by decide +kernel
theorem dX8_undo_0 : decode cX8_undo 0 = .ok (.aload_n 0, 1) := by decide +kernel
theorem dX8_undo_1 : decode cX8_undo 1 = .ok (.getfield 25, 3) := by decide +kernel
theorem dX8_undo_4 : decode cX8_undo 4 = .ok (.getfield 154, 3) := by decide +kernel
theorem dX8_undo_7 : decode cX8_undo 7 = .ok (.ifCond .ne 6, 3) := by decide +kernel
theorem dX8_undo_10 : decode cX8_undo 10 = .ok (.bipush (-5), 2) := by decide +kernel
theorem dX8_undo_12 : decode cX8_undo 12 = .ok (.ireturn, 1) := by decide +kernel
theorem dX8_undo_13 : decode cX8_undo 13 = .ok (.aload_n 0, 1) := by decide +kernel
theorem dX8_undo_14 : decode cX8_undo 14 = .ok (.getfield 25, 3) := by decide +kernel
theorem dX8_undo_17 : decode cX8_undo 17 = .ok (.aload_n 0, 1) := by decide +kernel
theorem dX8_undo_18 : decode cX8_undo 18 = .ok (.getfield 10, 3) := by decide +kernel
theorem dX8_undo_21 : decode cX8_undo 21 = .ok (.invokevirtual 155, 3) := by decide +kernel
theorem dX8_undo_24 : decode cX8_undo 24 = .ok (.aload_n 0, 1) := by decide +kernel
theorem dX8_undo_25 : decode cX8_undo 25 = .ok (.getfield 25, 3) := by decide +kernel
theorem dX8_undo_28 : decode cX8_undo 28 = .ok (.getfield 154, 3) := by decide +kernel
theorem dX8_undo_31 : decode cX8_undo 31 = .ok (.ireturn, 1) := by decide +kernel
theorem dX8_restore_0 : decode cX8_restore 0 = .ok (.aload_n 0, 1) := by decide +kernel
theorem dX8_restore_1 : decode cX8_restore 1 = .ok (.getfield 161, 3) := by decide +kernel
theorem dX8_restore_4 : decode cX8_restore 4 = .ok (.ifCond .ne 6, 3) := by decide +kernel
theorem dX8_restore_7 : decode cX8_restore 7 = .ok (.bipush (-5), 2) := by decide +kernel
theorem dX8_restore_9 : decode cX8_restore 9 = .ok (.ireturn, 1) := by decide +kernel
theorem dX8_restore_10 : decode cX8_restore 10 = .ok (.aload_n 0, 1) := by decide +kernel
theorem dX8_restore_11 : decode cX8_restore 11 = .ok (.getfield 25, 3) := by decide +kernel
theorem dX8_restore_14 : decode cX8_restore 14 = .ok (.aload_n 0, 1) := by decide +kernel
theorem dX8_restore_15 : decode cX8_restore 15 = .ok (.getfield 10, 3) := by decide +kernel
theorem dX8_restore_18 : decode cX8_restore 18 = .ok (.invokevirtual 57, 3) := by decide +kernel
theorem dX8_restore_21 : decode cX8_restore 21 = .ok (.aload_n 0, 1) := by decide +kernel
theorem dX8_restore_22 : decode cX8_restore 22 = .ok (.getfield 10, 3) := by decide +kernel
theorem dX8_restore_25 : decode cX8_restore 25 = .ok (.aload_n 0, 1) := by decide +kernel
theorem dX8_restore_26 : decode cX8_restore 26 = .ok (.getfield 19, 3) := by decide +kernel
theorem dX8_restore_29 : decode cX8_restore 29 = .ok (.invokevirtual 158, 3) := by decide +kernel
theorem dX8_restore_32 : decode cX8_restore 32 = .ok (.aload_n 0, 1) := by decide +kernel
theorem dX8_restore_33 : decode cX8_restore 33 = .ok (.getfield 10, 3) := by decide +kernel
theorem dX8_restore_36 : decode cX8_restore 36 = .ok (.getfield 100, 3) := by decide +kernel
theorem dX8_restore_39 : decode cX8_restore 39 = .ok (.ireturn, 1) := by decide +kernel
theorem dX8_cell_0 : decode cX8_cell 0 = .ok (.iload_n 1, 1) := by decide +kernel
theorem dX8_cell_1 : decode cX8_cell 1 = .ok (.bipush 8, 2) := by decide +kernel
theorem dX8_cell_3 : decode cX8_cell 3 = .ok (.invokestatic 43, 3) := by decide +kernel
theorem dX8_cell_6 : decode cX8_cell 6 = .ok (.ifCond .eq 12, 3) := by decide +kernel
theorem dX8_cell_9 : decode cX8_cell 9 = .ok (.iload_n 2, 1) := by decide +kernel
theorem dX8_cell_10 : decode cX8_cell 10 = .ok (.bipush 16, 2) := by decide +kernel
theorem dX8_cell_12 : decode cX8_cell 12 = .ok (.invokestatic 43, 3) := by decide +kernel
theorem dX8_cell_15 : decode cX8_cell 15 = .ok (.ifCond .ne 5, 3) := by decide +kernel
theorem dX8_cell_18 : decode cX8_cell 18 = .ok (.iconst (-1), 1) := by decide +kernel
theorem dX8_cell_19 : decode cX8_cell 19 = .ok (.ireturn, 1) := by decide +kernel
theorem dX8_cell_20 : decode cX8_cell 20 = .ok (.aload_n 0, 1) := by decide +kernel
theorem dX8_cell_21 : decode cX8_cell 21 = .ok (.getfield 10, 3) := by decide +kernel
theorem dX8_cell_24 : decode cX8_cell 24 = .ok (.getfield 47, 3) := by decide +kernel
theorem dX8_cell_27 : decode cX8_cell 27 = .ok (.iload_n 1, 1) := by decide +kernel
theorem dX8_cell_28 : decode cX8_cell 28 = .ok (.iload_n 2, 1) := by decide +kernel
theorem dX8_cell_29 : decode cX8_cell 29 = .ok (.invokevirtual 51, 3) := by decide +kernel
theorem dX8_cell_32 : decode cX8_cell 32 = .ok (.ireturn, 1) := by decide +kernel
theorem dX8_address_0 : decode cX8_address 0 = .ok (.iload_n 1, 1) := by decide +kernel
theorem dX8_address_1 : decode cX8_address 1 = .ok (.bipush 64, 2) := by decide +kernel
theorem dX8_address_3 : decode cX8_address 3 = .ok (.invokestatic 43, 3) := by decide +kernel
theorem dX8_address_6 : decode cX8_address 6 = .ok (.ifCond .ne 5, 3) := by decide +kernel
theorem dX8_address_9 : decode cX8_address 9 = .ok (.iconst (-1), 1) := by decide +kernel
theorem dX8_address_10 : decode cX8_address 10 = .ok (.ireturn, 1) := by decide +kernel
theorem dX8_address_11 : decode cX8_address 11 = .ok (.iload_n 2, 1) := by decide +kernel
theorem dX8_address_12 : decode cX8_address 12 = .ok (.tableswitch 73 0 3 #[32, 44, 56, 61], 32) := by decide +kernel
theorem dX8_address_44 : decode cX8_address 44 = .ok (.aload_n 0, 1) := by decide +kernel
theorem dX8_address_45 : decode cX8_address 45 = .ok (.getfield 10, 3) := by decide +kernel
theorem dX8_address_48 : decode cX8_address 48 = .ok (.getfield 47, 3) := by decide +kernel
theorem dX8_address_51 : decode cX8_address 51 = .ok (.iload_n 1, 1) := by decide +kernel
theorem dX8_address_52 : decode cX8_address 52 = .ok (.invokevirtual 164, 3) := by decide +kernel
theorem dX8_address_55 : decode cX8_address 55 = .ok (.ireturn, 1) := by decide +kernel
theorem dX8_address_56 : decode cX8_address 56 = .ok (.aload_n 0, 1) := by decide +kernel
theorem dX8_address_57 : decode cX8_address 57 = .ok (.getfield 10, 3) := by decide +kernel
theorem dX8_address_60 : decode cX8_address 60 = .ok (.getfield 47, 3) := by decide +kernel
theorem dX8_address_63 : decode cX8_address 63 = .ok (.iload_n 1, 1) := by decide +kernel
theorem dX8_address_64 : decode cX8_address 64 = .ok (.invokevirtual 167, 3) := by decide +kernel
theorem dX8_address_67 : decode cX8_address 67 = .ok (.ireturn, 1) := by decide +kernel
theorem dX8_address_68 : decode cX8_address 68 = .ok (.iload_n 1, 1) := by decide +kernel
theorem dX8_address_69 : decode cX8_address 69 = .ok (.bipush 16, 2) := by decide +kernel
theorem dX8_address_71 : decode cX8_address 71 = .ok (.irem, 1) := by decide +kernel
theorem dX8_address_72 : decode cX8_address 72 = .ok (.ireturn, 1) := by decide +kernel
theorem dX8_address_73 : decode cX8_address 73 = .ok (.aload_n 0, 1) := by decide +kernel
theorem dX8_address_74 : decode cX8_address 74 = .ok (.getfield 10, 3) := by decide +kernel
theorem dX8_address_77 : decode cX8_address 77 = .ok (.getfield 47, 3) := by decide +kernel
theorem dX8_address_80 : decode cX8_address 80 = .ok (.iload_n 1, 1) := by decide +kernel
theorem dX8_address_81 : decode cX8_address 81 = .ok (.invokevirtual 170, 3) := by decide +kernel
theorem dX8_address_84 : decode cX8_address 84 = .ok (.ireturn, 1) := by decide +kernel
theorem dX8_address_85 : decode cX8_address 85 = .ok (.bipush (-2), 2) := by decide +kernel
theorem dX8_address_87 : decode cX8_address 87 = .ok (.ireturn, 1) := by decide +kernel
theorem dX8_bank_0 : decode cX8_bank 0 = .ok (.iload_n 1, 1) := by decide +kernel
theorem dX8_bank_1 : decode cX8_bank 1 = .ok (.bipush 8, 2) := by decide +kernel
theorem dX8_bank_3 : decode cX8_bank 3 = .ok (.invokestatic 43, 3) := by decide +kernel
theorem dX8_bank_6 : decode cX8_bank 6 = .ok (.ifCond .ne 5, 3) := by decide +kernel
theorem dX8_bank_9 : decode cX8_bank 9 = .ok (.iconst (-1), 1) := by decide +kernel
theorem dX8_bank_10 : decode cX8_bank 10 = .ok (.ireturn, 1) := by decide +kernel
theorem dX8_bank_11 : decode cX8_bank 11 = .ok (.iload_n 2, 1) := by decide +kernel
theorem dX8_bank_12 : decode cX8_bank 12 = .ok (.tableswitch 121 0 5 #[40, 55, 67, 79, 91, 106], 40) := by decide +kernel
theorem dX8_bank_52 : decode cX8_bank 52 = .ok (.aload_n 0, 1) := by decide +kernel
theorem dX8_bank_53 : decode cX8_bank 53 = .ok (.getfield 10, 3) := by decide +kernel
theorem dX8_bank_56 : decode cX8_bank 56 = .ok (.getfield 47, 3) := by decide +kernel
theorem dX8_bank_59 : decode cX8_bank 59 = .ok (.getfield 69, 3) := by decide +kernel
theorem dX8_bank_62 : decode cX8_bank 62 = .ok (.iload_n 1, 1) := by decide +kernel
theorem dX8_bank_63 : decode cX8_bank 63 = .ok (.invokevirtual 86, 3) := by decide +kernel
theorem dX8_bank_66 : decode cX8_bank 66 = .ok (.ireturn, 1) := by decide +kernel
theorem dX8_bank_67 : decode cX8_bank 67 = .ok (.aload_n 0, 1) := by decide +kernel
theorem dX8_bank_68 : decode cX8_bank 68 = .ok (.getfield 10, 3) := by decide +kernel
theorem dX8_bank_71 : decode cX8_bank 71 = .ok (.getfield 47, 3) := by decide +kernel
theorem dX8_bank_74 : decode cX8_bank 74 = .ok (.iload_n 1, 1) := by decide +kernel
theorem dX8_bank_75 : decode cX8_bank 75 = .ok (.invokevirtual 173, 3) := by decide +kernel
theorem dX8_bank_78 : decode cX8_bank 78 = .ok (.ireturn, 1) := by decide +kernel
theorem dX8_bank_79 : decode cX8_bank 79 = .ok (.aload_n 0, 1) := by decide +kernel
theorem dX8_bank_80 : decode cX8_bank 80 = .ok (.getfield 10, 3) := by decide +kernel
theorem dX8_bank_83 : decode cX8_bank 83 = .ok (.getfield 47, 3) := by decide +kernel
theorem dX8_bank_86 : decode cX8_bank 86 = .ok (.iload_n 1, 1) := by decide +kernel
theorem dX8_bank_87 : decode cX8_bank 87 = .ok (.invokevirtual 176, 3) := by decide +kernel
theorem dX8_bank_90 : decode cX8_bank 90 = .ok (.ireturn, 1) := by decide +kernel
theorem dX8_bank_91 : decode cX8_bank 91 = .ok (.aload_n 0, 1) := by decide +kernel
theorem dX8_bank_92 : decode cX8_bank 92 = .ok (.getfield 10, 3) := by decide +kernel
theorem dX8_bank_95 : decode cX8_bank 95 = .ok (.getfield 179, 3) := by decide +kernel
theorem dX8_bank_98 : decode cX8_bank 98 = .ok (.iload_n 1, 1) := by decide +kernel
theorem dX8_bank_99 : decode cX8_bank 99 = .ok (.invokevirtual 183, 3) := by decide +kernel
theorem dX8_bank_102 : decode cX8_bank 102 = .ok (.ireturn, 1) := by decide +kernel
theorem dX8_bank_103 : decode cX8_bank 103 = .ok (.aload_n 0, 1) := by decide +kernel
theorem dX8_bank_104 : decode cX8_bank 104 = .ok (.getfield 10, 3) := by decide +kernel
theorem dX8_bank_107 : decode cX8_bank 107 = .ok (.getfield 47, 3) := by decide +kernel
theorem dX8_bank_110 : decode cX8_bank 110 = .ok (.getfield 188, 3) := by decide +kernel
theorem dX8_bank_113 : decode cX8_bank 113 = .ok (.iload_n 1, 1) := by decide +kernel
theorem dX8_bank_114 : decode cX8_bank 114 = .ok (.invokevirtual 86, 3) := by decide +kernel
theorem dX8_bank_117 : decode cX8_bank 117 = .ok (.ireturn, 1) := by decide +kernel
theorem dX8_bank_118 : decode cX8_bank 118 = .ok (.aload_n 0, 1) := by decide +kernel
theorem dX8_bank_119 : decode cX8_bank 119 = .ok (.getfield 10, 3) := by decide +kernel
theorem dX8_bank_122 : decode cX8_bank 122 = .ok (.getfield 47, 3) := by decide +kernel
theorem dX8_bank_125 : decode cX8_bank 125 = .ok (.getfield 191, 3) := by decide +kernel
theorem dX8_bank_128 : decode cX8_bank 128 = .ok (.iload_n 1, 1) := by decide +kernel
theorem dX8_bank_129 : decode cX8_bank 129 = .ok (.invokevirtual 86, 3) := by decide +kernel
theorem dX8_bank_132 : decode cX8_bank 132 = .ok (.ireturn, 1) := by decide +kernel
theorem dX8_bank_133 : decode cX8_bank 133 = .ok (.bipush (-2), 2) := by decide +kernel
theorem dX8_bank_135 : decode cX8_bank 135 = .ok (.ireturn, 1) := by decide +kernel
theorem dX8_window_0 : decode cX8_window 0 = .ok (.iload_n 1, 1) := by decide +kernel
theorem dX8_window_1 : decode cX8_window 1 = .ok (.iconst 4, 1) := by decide +kernel
theorem dX8_window_2 : decode cX8_window 2 = .ok (.invokestatic 43, 3) := by decide +kernel
theorem dX8_window_5 : decode cX8_window 5 = .ok (.ifCond .eq 20, 3) := by decide +kernel
theorem dX8_window_8 : decode cX8_window 8 = .ok (.aload_n 0, 1) := by decide +kernel
theorem dX8_window_9 : decode cX8_window 9 = .ok (.getfield 10, 3) := by decide +kernel
theorem dX8_window_12 : decode cX8_window 12 = .ok (.getfield 47, 3) := by decide +kernel
theorem dX8_window_15 : decode cX8_window 15 = .ok (.getfield 83, 3) := by decide +kernel
theorem dX8_window_18 : decode cX8_window 18 = .ok (.iload_n 1, 1) := by decide +kernel
theorem dX8_window_19 : decode cX8_window 19 = .ok (.invokevirtual 86, 3) := by decide +kernel
theorem dX8_window_22 : decode cX8_window 22 = .ok (.goto 4, 3) := by decide +kernel
theorem dX8_window_25 : decode cX8_window 25 = .ok (.iconst (-1), 1) := by decide +kernel
theorem dX8_window_26 : decode cX8_window 26 = .ok (.ireturn, 1) := by decide +kernel
theorem dX8_frame_0 : decode cX8_frame 0 = .ok (.iload_n 1, 1) := by decide +kernel
theorem dX8_frame_1 : decode cX8_frame 1 = .ok (.ifCond .lt 11, 3) := by decide +kernel
theorem dX8_frame_4 : decode cX8_frame 4 = .ok (.iload_n 2, 1) := by decide +kernel
theorem dX8_frame_5 : decode cX8_frame 5 = .ok (.iconst 3, 1) := by decide +kernel
theorem dX8_frame_6 : decode cX8_frame 6 = .ok (.invokestatic 43, 3) := by decide +kernel
theorem dX8_frame_9 : decode cX8_frame 9 = .ok (.ifCond .ne 6, 3) := by decide +kernel
theorem dX8_frame_12 : decode cX8_frame 12 = .ok (.bipush (-2), 2) := by decide +kernel
theorem dX8_frame_14 : decode cX8_frame 14 = .ok (.ireturn, 1) := by decide +kernel
theorem dX8_frame_15 : decode cX8_frame 15 = .ok (.iload_n 1, 1) := by decide +kernel
theorem dX8_frame_16 : decode cX8_frame 16 = .ok (.aload_n 0, 1) := by decide +kernel
theorem dX8_frame_17 : decode cX8_frame 17 = .ok (.getfield 10, 3) := by decide +kernel
theorem dX8_frame_20 : decode cX8_frame 20 = .ok (.getfield 179, 3) := by decide +kernel
theorem dX8_frame_23 : decode cX8_frame 23 = .ok (.getfield 194, 3) := by decide +kernel
theorem dX8_frame_26 : decode cX8_frame 26 = .ok (.if_icmp .lt 6, 3) := by decide +kernel
theorem dX8_frame_29 : decode cX8_frame 29 = .ok (.bipush (-5), 2) := by decide +kernel
theorem dX8_frame_31 : decode cX8_frame 31 = .ok (.ireturn, 1) := by decide +kernel
theorem dX8_frame_32 : decode cX8_frame 32 = .ok (.aload_n 0, 1) := by decide +kernel
theorem dX8_frame_33 : decode cX8_frame 33 = .ok (.getfield 10, 3) := by decide +kernel
theorem dX8_frame_36 : decode cX8_frame 36 = .ok (.getfield 179, 3) := by decide +kernel
theorem dX8_frame_39 : decode cX8_frame 39 = .ok (.iload_n 1, 1) := by decide +kernel
theorem dX8_frame_40 : decode cX8_frame 40 = .ok (.iload_n 2, 1) := by decide +kernel
theorem dX8_frame_41 : decode cX8_frame 41 = .ok (.invokevirtual 195, 3) := by decide +kernel
theorem dX8_frame_44 : decode cX8_frame 44 = .ok (.ireturn, 1) := by decide +kernel
theorem dX8_latest_0 : decode cX8_latest 0 = .ok (.iload_n 1, 1) := by decide +kernel
theorem dX8_latest_1 : decode cX8_latest 1 = .ok (.ifCond .lt 11, 3) := by decide +kernel
theorem dX8_latest_4 : decode cX8_latest 4 = .ok (.iload_n 2, 1) := by decide +kernel
theorem dX8_latest_5 : decode cX8_latest 5 = .ok (.iconst 3, 1) := by decide +kernel
theorem dX8_latest_6 : decode cX8_latest 6 = .ok (.invokestatic 43, 3) := by decide +kernel
theorem dX8_latest_9 : decode cX8_latest 9 = .ok (.ifCond .ne 6, 3) := by decide +kernel
theorem dX8_latest_12 : decode cX8_latest 12 = .ok (.bipush (-2), 2) := by decide +kernel
theorem dX8_latest_14 : decode cX8_latest 14 = .ok (.ireturn, 1) := by decide +kernel
theorem dX8_latest_15 : decode cX8_latest 15 = .ok (.iload_n 1, 1) := by decide +kernel
theorem dX8_latest_16 : decode cX8_latest 16 = .ok (.aload_n 0, 1) := by decide +kernel
theorem dX8_latest_17 : decode cX8_latest 17 = .ok (.getfield 10, 3) := by decide +kernel
theorem dX8_latest_20 : decode cX8_latest 20 = .ok (.getfield 113, 3) := by decide +kernel
theorem dX8_latest_23 : decode cX8_latest 23 = .ok (.getfield 117, 3) := by decide +kernel
theorem dX8_latest_26 : decode cX8_latest 26 = .ok (.bipush 12, 2) := by decide +kernel
theorem dX8_latest_28 : decode cX8_latest 28 = .ok (.invokestatic 198, 3) := by decide +kernel
theorem dX8_latest_31 : decode cX8_latest 31 = .ok (.if_icmp .lt 6, 3) := by decide +kernel
theorem dX8_latest_34 : decode cX8_latest 34 = .ok (.bipush (-5), 2) := by decide +kernel
theorem dX8_latest_36 : decode cX8_latest 36 = .ok (.ireturn, 1) := by decide +kernel
theorem dX8_latest_37 : decode cX8_latest 37 = .ok (.aload_n 0, 1) := by decide +kernel
theorem dX8_latest_38 : decode cX8_latest 38 = .ok (.getfield 10, 3) := by decide +kernel
theorem dX8_latest_41 : decode cX8_latest 41 = .ok (.getfield 113, 3) := by decide +kernel
theorem dX8_latest_44 : decode cX8_latest 44 = .ok (.iload_n 1, 1) := by decide +kernel
theorem dX8_latest_45 : decode cX8_latest 45 = .ok (.iload_n 2, 1) := by decide +kernel
theorem dX8_latest_46 : decode cX8_latest 46 = .ok (.invokevirtual 203, 3) := by decide +kernel
theorem dX8_latest_49 : decode cX8_latest 49 = .ok (.ireturn, 1) := by decide +kernel
theorem dX8_next_0 : decode cX8_next 0 = .ok (.iload_n 1, 1) := by decide +kernel
theorem dX8_next_1 : decode cX8_next 1 = .ok (.iconst 3, 1) := by decide +kernel
theorem dX8_next_2 : decode cX8_next 2 = .ok (.invokestatic 43, 3) := by decide +kernel
theorem dX8_next_5 : decode cX8_next 5 = .ok (.ifCond .ne 6, 3) := by decide +kernel
theorem dX8_next_8 : decode cX8_next 8 = .ok (.bipush (-2), 2) := by decide +kernel
theorem dX8_next_10 : decode cX8_next 10 = .ok (.ireturn, 1) := by decide +kernel
theorem dX8_next_11 : decode cX8_next 11 = .ok (.aload_n 0, 1) := by decide +kernel
theorem dX8_next_12 : decode cX8_next 12 = .ok (.getfield 10, 3) := by decide +kernel
theorem dX8_next_15 : decode cX8_next 15 = .ok (.getfield 110, 3) := by decide +kernel
theorem dX8_next_18 : decode cX8_next 18 = .ok (.ifCond .eq 6, 3) := by decide +kernel
theorem dX8_next_21 : decode cX8_next 21 = .ok (.bipush (-5), 2) := by decide +kernel
theorem dX8_next_23 : decode cX8_next 23 = .ok (.ireturn, 1) := by decide +kernel
theorem dX8_next_24 : decode cX8_next 24 = .ok (.iload_n 1, 1) := by decide +kernel
theorem dX8_next_25 : decode cX8_next 25 = .ok (.ifCond .ne 21, 3) := by decide +kernel
theorem dX8_next_28 : decode cX8_next 28 = .ok (.aload_n 0, 1) := by decide +kernel
theorem dX8_next_29 : decode cX8_next 29 = .ok (.getfield 10, 3) := by decide +kernel
theorem dX8_next_32 : decode cX8_next 32 = .ok (.getfield 47, 3) := by decide +kernel
theorem dX8_next_35 : decode cX8_next 35 = .ok (.aload_n 0, 1) := by decide +kernel
theorem dX8_next_36 : decode cX8_next 36 = .ok (.getfield 10, 3) := by decide +kernel
theorem dX8_next_39 : decode cX8_next 39 = .ok (.getfield 100, 3) := by decide +kernel
theorem dX8_next_42 : decode cX8_next 42 = .ok (.invokevirtual 164, 3) := by decide +kernel
theorem dX8_next_45 : decode cX8_next 45 = .ok (.ireturn, 1) := by decide +kernel
theorem dX8_next_46 : decode cX8_next 46 = .ok (.aload_n 0, 1) := by decide +kernel
theorem dX8_next_47 : decode cX8_next 47 = .ok (.getfield 16, 3) := by decide +kernel
theorem dX8_next_50 : decode cX8_next 50 = .ok (.aload_n 0, 1) := by decide +kernel
theorem dX8_next_51 : decode cX8_next 51 = .ok (.getfield 10, 3) := by decide +kernel
theorem dX8_next_54 : decode cX8_next 54 = .ok (.invokevirtual 158, 3) := by decide +kernel
theorem dX8_next_57 : decode cX8_next 57 = .ok (.aload_n 0, 1) := by decide +kernel
theorem dX8_next_58 : decode cX8_next 58 = .ok (.getfield 16, 3) := by decide +kernel
theorem dX8_next_61 : decode cX8_next 61 = .ok (.invokevirtual 204, 3) := by decide +kernel
theorem dX8_next_64 : decode cX8_next 64 = .ok (.iload_n 1, 1) := by decide +kernel
theorem dX8_next_65 : decode cX8_next 65 = .ok (.iconst 1, 1) := by decide +kernel
theorem dX8_next_66 : decode cX8_next 66 = .ok (.if_icmp .ne 13, 3) := by decide +kernel
theorem dX8_next_69 : decode cX8_next 69 = .ok (.aload_n 0, 1) := by decide +kernel
theorem dX8_next_70 : decode cX8_next 70 = .ok (.getfield 16, 3) := by decide +kernel
theorem dX8_next_73 : decode cX8_next 73 = .ok (.getfield 110, 3) := by decide +kernel
theorem dX8_next_76 : decode cX8_next 76 = .ok (.goto 10, 3) := by decide +kernel
theorem dX8_next_79 : decode cX8_next 79 = .ok (.aload_n 0, 1) := by decide +kernel
theorem dX8_next_80 : decode cX8_next 80 = .ok (.getfield 16, 3) := by decide +kernel
theorem dX8_next_83 : decode cX8_next 83 = .ok (.getfield 100, 3) := by decide +kernel
theorem dX8_next_86 : decode cX8_next 86 = .ok (.ireturn, 1) := by decide +kernel
theorem dX8_ifRun_0 : decode cX8_ifRun 0 = .ok (.iload_n 1, 1) := by decide +kernel
theorem dX8_ifRun_1 : decode cX8_ifRun 1 = .ok (.invokestatic 107, 3) := by decide +kernel
theorem dX8_ifRun_4 : decode cX8_ifRun 4 = .ok (.ifCond .eq 11, 3) := by decide +kernel
theorem dX8_ifRun_7 : decode cX8_ifRun 7 = .ok (.iload_n 2, 1) := by decide +kernel
theorem dX8_ifRun_8 : decode cX8_ifRun 8 = .ok (.iconst 5, 1) := by decide +kernel
theorem dX8_ifRun_9 : decode cX8_ifRun 9 = .ok (.invokestatic 43, 3) := by decide +kernel
theorem dX8_ifRun_12 : decode cX8_ifRun 12 = .ok (.ifCond .ne 6, 3) := by decide +kernel
theorem dX8_ifRun_15 : decode cX8_ifRun 15 = .ok (.bipush (-2), 2) := by decide +kernel
theorem dX8_ifRun_17 : decode cX8_ifRun 17 = .ok (.ireturn, 1) := by decide +kernel
theorem dX8_ifRun_18 : decode cX8_ifRun 18 = .ok (.aload_n 0, 1) := by decide +kernel
theorem dX8_ifRun_19 : decode cX8_ifRun 19 = .ok (.getfield 10, 3) := by decide +kernel
theorem dX8_ifRun_22 : decode cX8_ifRun 22 = .ok (.getfield 110, 3) := by decide +kernel
theorem dX8_ifRun_25 : decode cX8_ifRun 25 = .ok (.ifCond .eq 6, 3) := by decide +kernel
theorem dX8_ifRun_28 : decode cX8_ifRun 28 = .ok (.bipush (-4), 2) := by decide +kernel
theorem dX8_ifRun_30 : decode cX8_ifRun 30 = .ok (.ireturn, 1) := by decide +kernel
theorem dX8_ifRun_31 : decode cX8_ifRun 31 = .ok (.aload_n 0, 1) := by decide +kernel
theorem dX8_ifRun_32 : decode cX8_ifRun 32 = .ok (.getfield 16, 3) := by decide +kernel
theorem dX8_ifRun_35 : decode cX8_ifRun 35 = .ok (.aload_n 0, 1) := by decide +kernel
theorem dX8_ifRun_36 : decode cX8_ifRun 36 = .ok (.getfield 10, 3) := by decide +kernel
theorem dX8_ifRun_39 : decode cX8_ifRun 39 = .ok (.invokevirtual 158, 3) := by decide +kernel
theorem dX8_ifRun_42 : decode cX8_ifRun 42 = .ok (.aload_n 0, 1) := by decide +kernel
theorem dX8_ifRun_43 : decode cX8_ifRun 43 = .ok (.getfield 16, 3) := by decide +kernel
theorem dX8_ifRun_46 : decode cX8_ifRun 46 = .ok (.iload_n 1, 1) := by decide +kernel
theorem dX8_ifRun_47 : decode cX8_ifRun 47 = .ok (.invokevirtual 123, 3) := by decide +kernel
theorem dX8_ifRun_50 : decode cX8_ifRun 50 = .ok (.istore_n 3, 1) := by decide +kernel
theorem dX8_ifRun_51 : decode cX8_ifRun 51 = .ok (.iload_n 2, 1) := by decide +kernel
theorem dX8_ifRun_52 : decode cX8_ifRun 52 = .ok (.tableswitch 61 0 3 #[32, 34, 42, 50], 32) := by decide +kernel
theorem dX8_ifRun_84 : decode cX8_ifRun 84 = .ok (.iload_n 3, 1) := by decide +kernel
theorem dX8_ifRun_85 : decode cX8_ifRun 85 = .ok (.ireturn, 1) := by decide +kernel
theorem dX8_ifRun_86 : decode cX8_ifRun 86 = .ok (.aload_n 0, 1) := by decide +kernel
theorem dX8_ifRun_87 : decode cX8_ifRun 87 = .ok (.getfield 16, 3) := by decide +kernel
theorem dX8_ifRun_90 : decode cX8_ifRun 90 = .ok (.getfield 110, 3) := by decide +kernel
theorem dX8_ifRun_93 : decode cX8_ifRun 93 = .ok (.ireturn, 1) := by decide +kernel
theorem dX8_ifRun_94 : decode cX8_ifRun 94 = .ok (.aload_n 0, 1) := by decide +kernel
theorem dX8_ifRun_95 : decode cX8_ifRun 95 = .ok (.getfield 16, 3) := by decide +kernel
theorem dX8_ifRun_98 : decode cX8_ifRun 98 = .ok (.getfield 207, 3) := by decide +kernel
theorem dX8_ifRun_101 : decode cX8_ifRun 101 = .ok (.ireturn, 1) := by decide +kernel
theorem dX8_ifRun_102 : decode cX8_ifRun 102 = .ok (.aload_n 0, 1) := by decide +kernel
theorem dX8_ifRun_103 : decode cX8_ifRun 103 = .ok (.getfield 16, 3) := by decide +kernel
theorem dX8_ifRun_106 : decode cX8_ifRun 106 = .ok (.getfield 179, 3) := by decide +kernel
theorem dX8_ifRun_109 : decode cX8_ifRun 109 = .ok (.getfield 194, 3) := by decide +kernel
theorem dX8_ifRun_112 : decode cX8_ifRun 112 = .ok (.ireturn, 1) := by decide +kernel
theorem dX8_ifRun_113 : decode cX8_ifRun 113 = .ok (.aload_n 0, 1) := by decide +kernel
theorem dX8_ifRun_114 : decode cX8_ifRun 114 = .ok (.getfield 16, 3) := by decide +kernel
theorem dX8_ifRun_117 : decode cX8_ifRun 117 = .ok (.getfield 47, 3) := by decide +kernel
theorem dX8_ifRun_120 : decode cX8_ifRun 120 = .ok (.getfield 210, 3) := by decide +kernel
theorem dX8_ifRun_123 : decode cX8_ifRun 123 = .ok (.aload_n 0, 1) := by decide +kernel
theorem dX8_ifRun_124 : decode cX8_ifRun 124 = .ok (.getfield 10, 3) := by decide +kernel
theorem dX8_ifRun_127 : decode cX8_ifRun 127 = .ok (.getfield 47, 3) := by decide +kernel
theorem dX8_ifRun_130 : decode cX8_ifRun 130 = .ok (.getfield 210, 3) := by decide +kernel
theorem dX8_ifRun_133 : decode cX8_ifRun 133 = .ok (.invokevirtual 213, 3) := by decide +kernel
theorem dX8_ifRun_136 : decode cX8_ifRun 136 = .ok (.ireturn, 1) := by decide +kernel
theorem dX8_backIn_0 : decode cX8_backIn 0 = .ok (.aload_n 0, 1) := by decide +kernel
theorem dX8_backIn_1 : decode cX8_backIn 1 = .ok (.getfield 10, 3) := by decide +kernel
theorem dX8_backIn_4 : decode cX8_backIn 4 = .ok (.getfield 179, 3) := by decide +kernel
theorem dX8_backIn_7 : decode cX8_backIn 7 = .ok (.getfield 194, 3) := by decide +kernel
theorem dX8_backIn_10 : decode cX8_backIn 10 = .ok (.istore_n 1, 1) := by decide +kernel
theorem dX8_backIn_11 : decode cX8_backIn 11 = .ok (.iload_n 1, 1) := by decide +kernel
theorem dX8_backIn_12 : decode cX8_backIn 12 = .ok (.ifCond .ne 6, 3) := by decide +kernel
theorem dX8_backIn_15 : decode cX8_backIn 15 = .ok (.bipush (-5), 2) := by decide +kernel
theorem dX8_backIn_17 : decode cX8_backIn 17 = .ok (.ireturn, 1) := by decide +kernel
theorem dX8_backIn_18 : decode cX8_backIn 18 = .ok (.aload_n 0, 1) := by decide +kernel
theorem dX8_backIn_19 : decode cX8_backIn 19 = .ok (.getfield 16, 3) := by decide +kernel
theorem dX8_backIn_22 : decode cX8_backIn 22 = .ok (.aload_n 0, 1) := by decide +kernel
theorem dX8_backIn_23 : decode cX8_backIn 23 = .ok (.getfield 10, 3) := by decide +kernel
theorem dX8_backIn_26 : decode cX8_backIn 26 = .ok (.invokevirtual 158, 3) := by decide +kernel
theorem dX8_backIn_29 : decode cX8_backIn 29 = .ok (.iconst 1, 1) := by decide +kernel
theorem dX8_backIn_30 : decode cX8_backIn 30 = .ok (.istore_n 2, 1) := by decide +kernel
theorem dX8_backIn_31 : decode cX8_backIn 31 = .ok (.iload_n 2, 1) := by decide +kernel
theorem dX8_backIn_32 : decode cX8_backIn 32 = .ok (.sipush 500, 3) := by decide +kernel
theorem dX8_backIn_35 : decode cX8_backIn 35 = .ok (.if_icmp .gt 42, 3) := by decide +kernel
theorem dX8_backIn_38 : decode cX8_backIn 38 = .ok (.aload_n 0, 1) := by decide +kernel
theorem dX8_backIn_39 : decode cX8_backIn 39 = .ok (.getfield 16, 3) := by decide +kernel
theorem dX8_backIn_42 : decode cX8_backIn 42 = .ok (.getfield 110, 3) := by decide +kernel
theorem dX8_backIn_45 : decode cX8_backIn 45 = .ok (.ifCond .ne 32, 3) := by decide +kernel
theorem dX8_backIn_48 : decode cX8_backIn 48 = .ok (.aload_n 0, 1) := by decide +kernel
theorem dX8_backIn_49 : decode cX8_backIn 49 = .ok (.getfield 16, 3) := by decide +kernel
theorem dX8_backIn_52 : decode cX8_backIn 52 = .ok (.invokevirtual 204, 3) := by decide +kernel
theorem dX8_backIn_55 : decode cX8_backIn 55 = .ok (.aload_n 0, 1) := by decide +kernel
theorem dX8_backIn_56 : decode cX8_backIn 56 = .ok (.getfield 16, 3) := by decide +kernel
theorem dX8_backIn_59 : decode cX8_backIn 59 = .ok (.getfield 179, 3) := by decide +kernel
theorem dX8_backIn_62 : decode cX8_backIn 62 = .ok (.getfield 194, 3) := by decide +kernel
theorem dX8_backIn_65 : decode cX8_backIn 65 = .ok (.iload_n 1, 1) := by decide +kernel
theorem dX8_backIn_66 : decode cX8_backIn 66 = .ok (.if_icmp .ge 5, 3) := by decide +kernel
theorem dX8_backIn_69 : decode cX8_backIn 69 = .ok (.iload_n 2, 1) := by decide +kernel
theorem dX8_backIn_70 : decode cX8_backIn 70 = .ok (.ireturn, 1) := by decide +kernel
end
section
theorem dX8_backIn_71 : decode cX8_backIn 71 = .ok (.iinc 2 1, 3) := by decide +kernel
theorem dX8_backIn_74 : decode cX8_backIn 74 = .ok (.goto (-43), 3) := by decide +kernel
theorem dX8_backIn_77 : decode cX8_backIn 77 = .ok (.bipush (-5), 2) := by decide +kernel
theorem dX8_backIn_79 : decode cX8_backIn 79 = .ok (.ireturn, 1) := by decide +kernel
theorem dX8_count_0 : decode cX8_count 0 = .ok (.iload_n 1, 1) := by decide +kernel
theorem dX8_count_1 : decode cX8_count 1 = .ok (.tableswitch 183 0 11 #[63, 71, 79, 90, 98, 109, 117, 131, 145, 159, 167, 175], 63) := by decide +kernel
theorem dX8_count_64 : decode cX8_count 64 = .ok (.aload_n 0, 1) := by decide +kernel
theorem dX8_count_65 : decode cX8_count 65 = .ok (.getfield 10, 3) := by decide +kernel
theorem dX8_count_68 : decode cX8_count 68 = .ok (.getfield 207, 3) := by decide +kernel
theorem dX8_count_71 : decode cX8_count 71 = .ok (.ireturn, 1) := by decide +kernel
theorem dX8_count_72 : decode cX8_count 72 = .ok (.aload_n 0, 1) := by decide +kernel
theorem dX8_count_73 : decode cX8_count 73 = .ok (.getfield 10, 3) := by decide +kernel
theorem dX8_count_76 : decode cX8_count 76 = .ok (.getfield 100, 3) := by decide +kernel
theorem dX8_count_79 : decode cX8_count 79 = .ok (.ireturn, 1) := by decide +kernel
theorem dX8_count_80 : decode cX8_count 80 = .ok (.aload_n 0, 1) := by decide +kernel
theorem dX8_count_81 : decode cX8_count 81 = .ok (.getfield 10, 3) := by decide +kernel
theorem dX8_count_84 : decode cX8_count 84 = .ok (.getfield 179, 3) := by decide +kernel
theorem dX8_count_87 : decode cX8_count 87 = .ok (.getfield 194, 3) := by decide +kernel
theorem dX8_count_90 : decode cX8_count 90 = .ok (.ireturn, 1) := by decide +kernel
theorem dX8_count_91 : decode cX8_count 91 = .ok (.aload_n 0, 1) := by decide +kernel
theorem dX8_count_92 : decode cX8_count 92 = .ok (.getfield 10, 3) := by decide +kernel
theorem dX8_count_95 : decode cX8_count 95 = .ok (.getfield 110, 3) := by decide +kernel
theorem dX8_count_98 : decode cX8_count 98 = .ok (.ireturn, 1) := by decide +kernel
theorem dX8_count_99 : decode cX8_count 99 = .ok (.aload_n 0, 1) := by decide +kernel
theorem dX8_count_100 : decode cX8_count 100 = .ok (.getfield 10, 3) := by decide +kernel
theorem dX8_count_103 : decode cX8_count 103 = .ok (.getfield 113, 3) := by decide +kernel
theorem dX8_count_106 : decode cX8_count 106 = .ok (.getfield 117, 3) := by decide +kernel
theorem dX8_count_109 : decode cX8_count 109 = .ok (.ireturn, 1) := by decide +kernel
theorem dX8_count_110 : decode cX8_count 110 = .ok (.aload_n 0, 1) := by decide +kernel
theorem dX8_count_111 : decode cX8_count 111 = .ok (.getfield 10, 3) := by decide +kernel
theorem dX8_count_114 : decode cX8_count 114 = .ok (.getfield 217, 3) := by decide +kernel
theorem dX8_count_117 : decode cX8_count 117 = .ok (.ireturn, 1) := by decide +kernel
theorem dX8_count_118 : decode cX8_count 118 = .ok (.aload_n 0, 1) := by decide +kernel
theorem dX8_count_119 : decode cX8_count 119 = .ok (.getfield 10, 3) := by decide +kernel
theorem dX8_count_122 : decode cX8_count 122 = .ok (.getfield 47, 3) := by decide +kernel
theorem dX8_count_125 : decode cX8_count 125 = .ok (.getfield 188, 3) := by decide +kernel
theorem dX8_count_128 : decode cX8_count 128 = .ok (.invokevirtual 79, 3) := by decide +kernel
theorem dX8_count_131 : decode cX8_count 131 = .ok (.ireturn, 1) := by decide +kernel
theorem dX8_count_132 : decode cX8_count 132 = .ok (.aload_n 0, 1) := by decide +kernel
theorem dX8_count_133 : decode cX8_count 133 = .ok (.getfield 10, 3) := by decide +kernel
theorem dX8_count_136 : decode cX8_count 136 = .ok (.getfield 47, 3) := by decide +kernel
theorem dX8_count_139 : decode cX8_count 139 = .ok (.getfield 191, 3) := by decide +kernel
theorem dX8_count_142 : decode cX8_count 142 = .ok (.invokevirtual 79, 3) := by decide +kernel
theorem dX8_count_145 : decode cX8_count 145 = .ok (.ireturn, 1) := by decide +kernel
theorem dX8_count_146 : decode cX8_count 146 = .ok (.aload_n 0, 1) := by decide +kernel
theorem dX8_count_147 : decode cX8_count 147 = .ok (.getfield 10, 3) := by decide +kernel
theorem dX8_count_150 : decode cX8_count 150 = .ok (.getfield 47, 3) := by decide +kernel
theorem dX8_count_153 : decode cX8_count 153 = .ok (.getfield 69, 3) := by decide +kernel
theorem dX8_count_156 : decode cX8_count 156 = .ok (.invokevirtual 79, 3) := by decide +kernel
theorem dX8_count_159 : decode cX8_count 159 = .ok (.ireturn, 1) := by decide +kernel
theorem dX8_count_160 : decode cX8_count 160 = .ok (.aload_n 0, 1) := by decide +kernel
theorem dX8_count_161 : decode cX8_count 161 = .ok (.getfield 10, 3) := by decide +kernel
theorem dX8_count_164 : decode cX8_count 164 = .ok (.getfield 96, 3) := by decide +kernel
theorem dX8_count_167 : decode cX8_count 167 = .ok (.ireturn, 1) := by decide +kernel
theorem dX8_count_168 : decode cX8_count 168 = .ok (.aload_n 0, 1) := by decide +kernel
theorem dX8_count_169 : decode cX8_count 169 = .ok (.getfield 25, 3) := by decide +kernel
theorem dX8_count_172 : decode cX8_count 172 = .ok (.getfield 154, 3) := by decide +kernel
theorem dX8_count_175 : decode cX8_count 175 = .ok (.ireturn, 1) := by decide +kernel
theorem dX8_count_176 : decode cX8_count 176 = .ok (.aload_n 0, 1) := by decide +kernel
theorem dX8_count_177 : decode cX8_count 177 = .ok (.getfield 32, 3) := by decide +kernel
theorem dX8_count_180 : decode cX8_count 180 = .ok (.getfield 134, 3) := by decide +kernel
theorem dX8_count_183 : decode cX8_count 183 = .ok (.ireturn, 1) := by decide +kernel
theorem dX8_count_184 : decode cX8_count 184 = .ok (.bipush (-2), 2) := by decide +kernel
theorem dX8_count_186 : decode cX8_count 186 = .ok (.ireturn, 1) := by decide +kernel
theorem dX8_isBelow_0 : decode cX8_isBelow 0 = .ok (.iload_n 0, 1) := by decide +kernel
theorem dX8_isBelow_1 : decode cX8_isBelow 1 = .ok (.ifCond .lt 12, 3) := by decide +kernel
theorem dX8_isBelow_4 : decode cX8_isBelow 4 = .ok (.iload_n 0, 1) := by decide +kernel
theorem dX8_isBelow_5 : decode cX8_isBelow 5 = .ok (.iload_n 1, 1) := by decide +kernel
theorem dX8_isBelow_6 : decode cX8_isBelow 6 = .ok (.if_icmp .ge 7, 3) := by decide +kernel
theorem dX8_isBelow_9 : decode cX8_isBelow 9 = .ok (.iconst 1, 1) := by decide +kernel
theorem dX8_isBelow_10 : decode cX8_isBelow 10 = .ok (.goto 4, 3) := by decide +kernel
theorem dX8_isBelow_13 : decode cX8_isBelow 13 = .ok (.iconst 0, 1) := by decide +kernel
theorem dX8_isBelow_14 : decode cX8_isBelow 14 = .ok (.ireturn, 1) := by decide +kernel
theorem dX8_isStepsOfRun_0 : decode cX8_isStepsOfRun 0 = .ok (.iload_n 0, 1) := by decide +kernel
theorem dX8_isStepsOfRun_1 : decode cX8_isStepsOfRun 1 = .ok (.iconst 1, 1) := by decide +kernel
theorem dX8_isStepsOfRun_2 : decode cX8_isStepsOfRun 2 = .ok (.if_icmp .lt 14, 3) := by decide +kernel
theorem dX8_isStepsOfRun_5 : decode cX8_isStepsOfRun 5 = .ok (.iload_n 0, 1) := by decide +kernel
theorem dX8_isStepsOfRun_6 : decode cX8_isStepsOfRun 6 = .ok (.sipush 999, 3) := by decide +kernel
theorem dX8_isStepsOfRun_9 : decode cX8_isStepsOfRun 9 = .ok (.if_icmp .gt 7, 3) := by decide +kernel
theorem dX8_isStepsOfRun_12 : decode cX8_isStepsOfRun 12 = .ok (.iconst 1, 1) := by decide +kernel
theorem dX8_isStepsOfRun_13 : decode cX8_isStepsOfRun 13 = .ok (.goto 4, 3) := by decide +kernel
theorem dX8_isStepsOfRun_16 : decode cX8_isStepsOfRun 16 = .ok (.iconst 0, 1) := by decide +kernel
theorem dX8_isStepsOfRun_17 : decode cX8_isStepsOfRun 17 = .ok (.ireturn, 1) := by decide +kernel
theorem dL_cell1_0 : decode cL_cell1 0 = .ok (.iload_n 1, 1) := by decide +kernel
theorem dL_cell1_1 : decode cL_cell1 1 = .ok (.aload_n 0, 1) := by decide +kernel
theorem dL_cell1_2 : decode cL_cell1 2 = .ok (.arraylength, 1) := by decide +kernel
theorem dL_cell1_3 : decode cL_cell1 3 = .ok (.if_icmp .ge 9, 3) := by decide +kernel
theorem dL_cell1_6 : decode cL_cell1 6 = .ok (.aload_n 0, 1) := by decide +kernel
theorem dL_cell1_7 : decode cL_cell1 7 = .ok (.iload_n 1, 1) := by decide +kernel
theorem dL_cell1_8 : decode cL_cell1 8 = .ok (.iaload, 1) := by decide +kernel
theorem dL_cell1_9 : decode cL_cell1 9 = .ok (.goto 9, 3) := by decide +kernel
theorem dL_cell1_12 : decode cL_cell1 12 = .ok (.ldc 7, 2) := by decide +kernel
theorem dL_cell1_14 : decode cL_cell1 14 = .ok (.iload_n 1, 1) := by decide +kernel
theorem dL_cell1_15 : decode cL_cell1 15 = .ok (.iconst 1, 1) := by decide +kernel
theorem dL_cell1_16 : decode cL_cell1 16 = .ok (.iadd, 1) := by decide +kernel
theorem dL_cell1_17 : decode cL_cell1 17 = .ok (.imul, 1) := by decide +kernel
theorem dL_cell1_18 : decode cL_cell1 18 = .ok (.ireturn, 1) := by decide +kernel
theorem dL_low_0 : decode cL_low 0 = .ok (.iload_n 0, 1) := by decide +kernel
theorem dL_low_1 : decode cL_low 1 = .ok (.ldc 8, 2) := by decide +kernel
theorem dL_low_3 : decode cL_low 3 = .ok (.iand, 1) := by decide +kernel
theorem dL_low_4 : decode cL_low 4 = .ok (.iload_n 1, 1) := by decide +kernel
theorem dL_low_5 : decode cL_low 5 = .ok (.irem, 1) := by decide +kernel
theorem dL_low_6 : decode cL_low 6 = .ok (.ireturn, 1) := by decide +kernel
theorem dL_cell_0 : decode cL_cell 0 = .ok (.iload_n 3, 1) := by decide +kernel
theorem dL_cell_1 : decode cL_cell 1 = .ok (.bipush 11, 2) := by decide +kernel
theorem dL_cell_3 : decode cL_cell 3 = .ok (.if_icmp .le 15, 3) := by decide +kernel
theorem dL_cell_6 : decode cL_cell 6 = .ok (.aload_n 0, 1) := by decide +kernel
theorem dL_cell_7 : decode cL_cell 7 = .ok (.bipush 48, 2) := by decide +kernel
theorem dL_cell_9 : decode cL_cell 9 = .ok (.iload_n 3, 1) := by decide +kernel
theorem dL_cell_10 : decode cL_cell 10 = .ok (.iadd, 1) := by decide +kernel
theorem dL_cell_11 : decode cL_cell 11 = .ok (.bipush 12, 2) := by decide +kernel
theorem dL_cell_13 : decode cL_cell 13 = .ok (.isub, 1) := by decide +kernel
theorem dL_cell_14 : decode cL_cell 14 = .ok (.iaload, 1) := by decide +kernel
theorem dL_cell_15 : decode cL_cell 15 = .ok (.goto 30, 3) := by decide +kernel
theorem dL_cell_18 : decode cL_cell 18 = .ok (.iload_n 2, 1) := by decide +kernel
theorem dL_cell_19 : decode cL_cell 19 = .ok (.iconst 4, 1) := by decide +kernel
theorem dL_cell_20 : decode cL_cell 20 = .ok (.if_icmp .ge 14, 3) := by decide +kernel
theorem dL_cell_23 : decode cL_cell 23 = .ok (.aload_n 0, 1) := by decide +kernel
theorem dL_cell_24 : decode cL_cell 24 = .ok (.bipush 12, 2) := by decide +kernel
theorem dL_cell_26 : decode cL_cell 26 = .ok (.iload_n 2, 1) := by decide +kernel
theorem dL_cell_27 : decode cL_cell 27 = .ok (.imul, 1) := by decide +kernel
theorem dL_cell_28 : decode cL_cell 28 = .ok (.iload_n 3, 1) := by decide +kernel
theorem dL_cell_29 : decode cL_cell 29 = .ok (.iadd, 1) := by decide +kernel
theorem dL_cell_30 : decode cL_cell 30 = .ok (.iaload, 1) := by decide +kernel
theorem dL_cell_31 : decode cL_cell 31 = .ok (.goto 14, 3) := by decide +kernel
theorem dL_cell_34 : decode cL_cell 34 = .ok (.aload_n 1, 1) := by decide +kernel
theorem dL_cell_35 : decode cL_cell 35 = .ok (.bipush 12, 2) := by decide +kernel
theorem dL_cell_37 : decode cL_cell 37 = .ok (.iload_n 2, 1) := by decide +kernel
theorem dL_cell_38 : decode cL_cell 38 = .ok (.imul, 1) := by decide +kernel
theorem dL_cell_39 : decode cL_cell 39 = .ok (.bipush 48, 2) := by decide +kernel
theorem dL_cell_41 : decode cL_cell 41 = .ok (.isub, 1) := by decide +kernel
theorem dL_cell_42 : decode cL_cell 42 = .ok (.iload_n 3, 1) := by decide +kernel
theorem dL_cell_43 : decode cL_cell 43 = .ok (.iadd, 1) := by decide +kernel
theorem dL_cell_44 : decode cL_cell 44 = .ok (.iaload, 1) := by decide +kernel
theorem dL_cell_45 : decode cL_cell 45 = .ok (.ireturn, 1) := by decide +kernel
theorem dL_put_0 : decode cL_put 0 = .ok (.iload_n 3, 1) := by decide +kernel
theorem dL_put_1 : decode cL_put 1 = .ok (.bipush 11, 2) := by decide +kernel
theorem dL_put_3 : decode cL_put 3 = .ok (.if_icmp .le 11, 3) := by decide +kernel
theorem dL_put_6 : decode cL_put 6 = .ok (.aload_n 0, 1) := by decide +kernel
theorem dL_put_7 : decode cL_put 7 = .ok (.bipush 36, 2) := by decide +kernel
theorem dL_put_9 : decode cL_put 9 = .ok (.iload_n 3, 1) := by decide +kernel
theorem dL_put_10 : decode cL_put 10 = .ok (.iadd, 1) := by decide +kernel
theorem dL_put_11 : decode cL_put 11 = .ok (.iload 4, 2) := by decide +kernel
theorem dL_put_13 : decode cL_put 13 = .ok (.iastore, 1) := by decide +kernel
theorem dL_put_14 : decode cL_put 14 = .ok (.iload_n 3, 1) := by decide +kernel
theorem dL_put_15 : decode cL_put 15 = .ok (.bipush 12, 2) := by decide +kernel
theorem dL_put_17 : decode cL_put 17 = .ok (.if_icmp .ge 18, 3) := by decide +kernel
theorem dL_put_20 : decode cL_put 20 = .ok (.iload_n 2, 1) := by decide +kernel
theorem dL_put_21 : decode cL_put 21 = .ok (.iconst 4, 1) := by decide +kernel
theorem dL_put_22 : decode cL_put 22 = .ok (.if_icmp .ge 13, 3) := by decide +kernel
theorem dL_put_25 : decode cL_put 25 = .ok (.aload_n 0, 1) := by decide +kernel
theorem dL_put_26 : decode cL_put 26 = .ok (.bipush 12, 2) := by decide +kernel
theorem dL_put_28 : decode cL_put 28 = .ok (.iload_n 2, 1) := by decide +kernel
theorem dL_put_29 : decode cL_put 29 = .ok (.imul, 1) := by decide +kernel
theorem dL_put_30 : decode cL_put 30 = .ok (.iload_n 3, 1) := by decide +kernel
theorem dL_put_31 : decode cL_put 31 = .ok (.iadd, 1) := by decide +kernel
theorem dL_put_32 : decode cL_put 32 = .ok (.iload 4, 2) := by decide +kernel
theorem dL_put_34 : decode cL_put 34 = .ok (.iastore, 1) := by decide +kernel
theorem dL_put_35 : decode cL_put 35 = .ok (.iload_n 3, 1) := by decide +kernel
theorem dL_put_36 : decode cL_put 36 = .ok (.bipush 12, 2) := by decide +kernel
theorem dL_put_38 : decode cL_put 38 = .ok (.if_icmp .ge 21, 3) := by decide +kernel
theorem dL_put_41 : decode cL_put 41 = .ok (.iload_n 2, 1) := by decide +kernel
theorem dL_put_42 : decode cL_put 42 = .ok (.iconst 3, 1) := by decide +kernel
theorem dL_put_43 : decode cL_put 43 = .ok (.if_icmp .le 16, 3) := by decide +kernel
theorem dL_put_46 : decode cL_put 46 = .ok (.aload_n 1, 1) := by decide +kernel
theorem dL_put_47 : decode cL_put 47 = .ok (.bipush 12, 2) := by decide +kernel
theorem dL_put_49 : decode cL_put 49 = .ok (.iload_n 2, 1) := by decide +kernel
theorem dL_put_50 : decode cL_put 50 = .ok (.imul, 1) := by decide +kernel
theorem dL_put_51 : decode cL_put 51 = .ok (.bipush 48, 2) := by decide +kernel
theorem dL_put_53 : decode cL_put 53 = .ok (.isub, 1) := by decide +kernel
theorem dL_put_54 : decode cL_put 54 = .ok (.iload_n 3, 1) := by decide +kernel
theorem dL_put_55 : decode cL_put 55 = .ok (.iadd, 1) := by decide +kernel
theorem dL_put_56 : decode cL_put 56 = .ok (.iload 4, 2) := by decide +kernel
theorem dL_put_58 : decode cL_put 58 = .ok (.iastore, 1) := by decide +kernel
theorem dL_put_59 : decode cL_put 59 = .ok (.return_, 1) := by decide +kernel
theorem dL_at_0 : decode cL_at 0 = .ok (.aload_n 1, 1) := by decide +kernel
theorem dL_at_1 : decode cL_at 1 = .ok (.aload_n 2, 1) := by decide +kernel
theorem dL_at_2 : decode cL_at 2 = .ok (.aload_n 0, 1) := by decide +kernel
theorem dL_at_3 : decode cL_at 3 = .ok (.iload_n 3, 1) := by decide +kernel
theorem dL_at_4 : decode cL_at 4 = .ok (.bipush 16, 2) := by decide +kernel
theorem dL_at_6 : decode cL_at 6 = .ok (.idiv, 1) := by decide +kernel
theorem dL_at_7 : decode cL_at 7 = .ok (.iaload, 1) := by decide +kernel
theorem dL_at_8 : decode cL_at 8 = .ok (.iload_n 3, 1) := by decide +kernel
theorem dL_at_9 : decode cL_at 9 = .ok (.bipush 16, 2) := by decide +kernel
theorem dL_at_11 : decode cL_at 11 = .ok (.irem, 1) := by decide +kernel
theorem dL_at_12 : decode cL_at 12 = .ok (.invokestatic 9, 3) := by decide +kernel
theorem dL_at_15 : decode cL_at 15 = .ok (.ireturn, 1) := by decide +kernel
theorem dL_step_0 : decode cL_step 0 = .ok (.aload_n 0, 1) := by decide +kernel
theorem dL_step_1 : decode cL_step 1 = .ok (.bipush 14, 2) := by decide +kernel
theorem dL_step_3 : decode cL_step 3 = .ok (.iaload, 1) := by decide +kernel
theorem dL_step_4 : decode cL_step 4 = .ok (.bipush 16, 2) := by decide +kernel
theorem dL_step_6 : decode cL_step 6 = .ok (.idiv, 1) := by decide +kernel
theorem dL_step_7 : decode cL_step 7 = .ok (.istore 4, 2) := by decide +kernel
theorem dL_step_9 : decode cL_step 9 = .ok (.aload_n 0, 1) := by decide +kernel
theorem dL_step_10 : decode cL_step 10 = .ok (.aload_n 1, 1) := by decide +kernel
theorem dL_step_11 : decode cL_step 11 = .ok (.aload_n 2, 1) := by decide +kernel
theorem dL_step_12 : decode cL_step 12 = .ok (.aload_n 0, 1) := by decide +kernel
theorem dL_step_13 : decode cL_step 13 = .ok (.bipush 14, 2) := by decide +kernel
theorem dL_step_15 : decode cL_step 15 = .ok (.iaload, 1) := by decide +kernel
theorem dL_step_16 : decode cL_step 16 = .ok (.invokestatic 15, 3) := by decide +kernel
theorem dL_step_19 : decode cL_step 19 = .ok (.istore 5, 2) := by decide +kernel
theorem dL_step_21 : decode cL_step 21 = .ok (.iload 5, 2) := by decide +kernel
theorem dL_step_23 : decode cL_step 23 = .ok (.bipush 100, 2) := by decide +kernel
theorem dL_step_25 : decode cL_step 25 = .ok (.idiv, 1) := by decide +kernel
theorem dL_step_26 : decode cL_step 26 = .ok (.istore 6, 2) := by decide +kernel
theorem dL_step_28 : decode cL_step 28 = .ok (.iload 5, 2) := by decide +kernel
theorem dL_step_30 : decode cL_step 30 = .ok (.bipush 100, 2) := by decide +kernel
theorem dL_step_32 : decode cL_step 32 = .ok (.irem, 1) := by decide +kernel
theorem dL_step_33 : decode cL_step 33 = .ok (.istore 7, 2) := by decide +kernel
theorem dL_step_35 : decode cL_step 35 = .ok (.aload_n 0, 1) := by decide +kernel
theorem dL_step_36 : decode cL_step 36 = .ok (.bipush 14, 2) := by decide +kernel
theorem dL_step_38 : decode cL_step 38 = .ok (.dup2, 1) := by decide +kernel
theorem dL_step_39 : decode cL_step 39 = .ok (.iaload, 1) := by decide +kernel
theorem dL_step_40 : decode cL_step 40 = .ok (.iconst 1, 1) := by decide +kernel
theorem dL_step_41 : decode cL_step 41 = .ok (.iadd, 1) := by decide +kernel
theorem dL_step_42 : decode cL_step 42 = .ok (.iastore, 1) := by decide +kernel
theorem dL_step_43 : decode cL_step 43 = .ok (.aload_n 0, 1) := by decide +kernel
theorem dL_step_44 : decode cL_step 44 = .ok (.bipush 16, 2) := by decide +kernel
theorem dL_step_46 : decode cL_step 46 = .ok (.dup2, 1) := by decide +kernel
theorem dL_step_47 : decode cL_step 47 = .ok (.iaload, 1) := by decide +kernel
theorem dL_step_48 : decode cL_step 48 = .ok (.iconst 1, 1) := by decide +kernel
theorem dL_step_49 : decode cL_step 49 = .ok (.iadd, 1) := by decide +kernel
theorem dL_step_50 : decode cL_step 50 = .ok (.iastore, 1) := by decide +kernel
theorem dL_step_51 : decode cL_step 51 = .ok (.iload 6, 2) := by decide +kernel
theorem dL_step_53 : decode cL_step 53 = .ok (.ifCond .ne 8, 3) := by decide +kernel
theorem dL_step_56 : decode cL_step 56 = .ok (.aload_n 0, 1) := by decide +kernel
theorem dL_step_57 : decode cL_step 57 = .ok (.bipush 15, 2) := by decide +kernel
theorem dL_step_59 : decode cL_step 59 = .ok (.iconst 1, 1) := by decide +kernel
theorem dL_step_60 : decode cL_step 60 = .ok (.iastore, 1) := by decide +kernel
theorem dL_step_61 : decode cL_step 61 = .ok (.iload 6, 2) := by decide +kernel
theorem dL_step_63 : decode cL_step 63 = .ok (.iconst 1, 1) := by decide +kernel
theorem dL_step_64 : decode cL_step 64 = .ok (.if_icmp .le 17, 3) := by decide +kernel
theorem dL_step_67 : decode cL_step 67 = .ok (.iload 6, 2) := by decide +kernel
theorem dL_step_69 : decode cL_step 69 = .ok (.bipush 6, 2) := by decide +kernel
theorem dL_step_71 : decode cL_step 71 = .ok (.if_icmp .ge 10, 3) := by decide +kernel
theorem dL_step_74 : decode cL_step 74 = .ok (.iload 7, 2) := by decide +kernel
theorem dL_step_76 : decode cL_step 76 = .ok (.bipush 63, 2) := by decide +kernel
theorem dL_step_78 : decode cL_step 78 = .ok (.if_icmp .gt 41, 3) := by decide +kernel
theorem dL_step_81 : decode cL_step 81 = .ok (.iload 6, 2) := by decide +kernel
theorem dL_step_83 : decode cL_step 83 = .ok (.bipush 6, 2) := by decide +kernel
theorem dL_step_85 : decode cL_step 85 = .ok (.if_icmp .ne 20, 3) := by decide +kernel
theorem dL_step_88 : decode cL_step 88 = .ok (.iload 7, 2) := by decide +kernel
theorem dL_step_90 : decode cL_step 90 = .ok (.bipush 39, 2) := by decide +kernel
theorem dL_step_92 : decode cL_step 92 = .ok (.if_icmp .gt 27, 3) := by decide +kernel
theorem dL_step_95 : decode cL_step 95 = .ok (.iload 7, 2) := by decide +kernel
theorem dL_step_97 : decode cL_step 97 = .ok (.bipush 10, 2) := by decide +kernel
theorem dL_step_99 : decode cL_step 99 = .ok (.irem, 1) := by decide +kernel
theorem dL_step_100 : decode cL_step 100 = .ok (.bipush 7, 2) := by decide +kernel
theorem dL_step_102 : decode cL_step 102 = .ok (.if_icmp .gt 17, 3) := by decide +kernel
theorem dL_step_105 : decode cL_step 105 = .ok (.iload 6, 2) := by decide +kernel
theorem dL_step_107 : decode cL_step 107 = .ok (.bipush 7, 2) := by decide +kernel
theorem dL_step_109 : decode cL_step 109 = .ok (.if_icmp .ne 18, 3) := by decide +kernel
theorem dL_step_112 : decode cL_step 112 = .ok (.iload 7, 2) := by decide +kernel
theorem dL_step_114 : decode cL_step 114 = .ok (.bipush 79, 2) := by decide +kernel
theorem dL_step_116 : decode cL_step 116 = .ok (.if_icmp .le 11, 3) := by decide +kernel
theorem dL_step_119 : decode cL_step 119 = .ok (.aload_n 0, 1) := by decide +kernel
theorem dL_step_120 : decode cL_step 120 = .ok (.bipush 15, 2) := by decide +kernel
theorem dL_step_122 : decode cL_step 122 = .ok (.iconst 3, 1) := by decide +kernel
theorem dL_step_123 : decode cL_step 123 = .ok (.iastore, 1) := by decide +kernel
theorem dL_step_124 : decode cL_step 124 = .ok (.goto 44, 3) := by decide +kernel
theorem dL_step_127 : decode cL_step 127 = .ok (.iload 6, 2) := by decide +kernel
theorem dL_step_129 : decode cL_step 129 = .ok (.bipush 7, 2) := by decide +kernel
theorem dL_step_131 : decode cL_step 131 = .ok (.if_icmp .ne 19, 3) := by decide +kernel
theorem dL_step_134 : decode cL_step 134 = .ok (.aload_n 3, 1) := by decide +kernel
theorem dL_step_135 : decode cL_step 135 = .ok (.iconst 0, 1) := by decide +kernel
theorem dL_step_136 : decode cL_step 136 = .ok (.iaload, 1) := by decide +kernel
theorem dL_step_137 : decode cL_step 137 = .ok (.bipush 8, 2) := by decide +kernel
theorem dL_step_139 : decode cL_step 139 = .ok (.if_icmp .ne 11, 3) := by decide +kernel
theorem dL_step_142 : decode cL_step 142 = .ok (.aload_n 0, 1) := by decide +kernel
theorem dL_step_143 : decode cL_step 143 = .ok (.bipush 15, 2) := by decide +kernel
theorem dL_step_145 : decode cL_step 145 = .ok (.iconst 4, 1) := by decide +kernel
theorem dL_step_146 : decode cL_step 146 = .ok (.iastore, 1) := by decide +kernel
theorem dL_step_147 : decode cL_step 147 = .ok (.goto 21, 3) := by decide +kernel
theorem dL_step_150 : decode cL_step 150 = .ok (.iload 6, 2) := by decide +kernel
theorem dL_step_152 : decode cL_step 152 = .ok (.bipush 8, 2) := by decide +kernel
theorem dL_step_154 : decode cL_step 154 = .ok (.if_icmp .ne 14, 3) := by decide +kernel
theorem dL_step_157 : decode cL_step 157 = .ok (.aload_n 3, 1) := by decide +kernel
theorem dL_step_158 : decode cL_step 158 = .ok (.iconst 0, 1) := by decide +kernel
theorem dL_step_159 : decode cL_step 159 = .ok (.iaload, 1) := by decide +kernel
theorem dL_step_160 : decode cL_step 160 = .ok (.ifCond .ne 8, 3) := by decide +kernel
theorem dL_step_163 : decode cL_step 163 = .ok (.aload_n 0, 1) := by decide +kernel
theorem dL_step_164 : decode cL_step 164 = .ok (.bipush 15, 2) := by decide +kernel
theorem dL_step_166 : decode cL_step 166 = .ok (.iconst 5, 1) := by decide +kernel
theorem dL_step_167 : decode cL_step 167 = .ok (.iastore, 1) := by decide +kernel
theorem dL_step_168 : decode cL_step 168 = .ok (.aload_n 0, 1) := by decide +kernel
theorem dL_step_169 : decode cL_step 169 = .ok (.bipush 15, 2) := by decide +kernel
theorem dL_step_171 : decode cL_step 171 = .ok (.iaload, 1) := by decide +kernel
theorem dL_step_172 : decode cL_step 172 = .ok (.ifCond .le 4, 3) := by decide +kernel
theorem dL_step_175 : decode cL_step 175 = .ok (.return_, 1) := by decide +kernel
theorem dL_step_176 : decode cL_step 176 = .ok (.iload 6, 2) := by decide +kernel
theorem dL_step_178 : decode cL_step 178 = .ok (.iconst 1, 1) := by decide +kernel
theorem dL_step_179 : decode cL_step 179 = .ok (.if_icmp .ne 9, 3) := by decide +kernel
theorem dL_step_182 : decode cL_step 182 = .ok (.aload_n 0, 1) := by decide +kernel
theorem dL_step_183 : decode cL_step 183 = .ok (.bipush 13, 2) := by decide +kernel
theorem dL_step_185 : decode cL_step 185 = .ok (.iload 7, 2) := by decide +kernel
theorem dL_step_187 : decode cL_step 187 = .ok (.iastore, 1) := by decide +kernel
theorem dL_step_188 : decode cL_step 188 = .ok (.iload 6, 2) := by decide +kernel
theorem dL_step_190 : decode cL_step 190 = .ok (.iconst 2, 1) := by decide +kernel
theorem dL_step_191 : decode cL_step 191 = .ok (.if_icmp .ne 24, 3) := by decide +kernel
theorem dL_step_194 : decode cL_step 194 = .ok (.aload_n 0, 1) := by decide +kernel
theorem dL_step_195 : decode cL_step 195 = .ok (.bipush 13, 2) := by decide +kernel
theorem dL_step_197 : decode cL_step 197 = .ok (.aload_n 0, 1) := by decide +kernel
theorem dL_step_198 : decode cL_step 198 = .ok (.bipush 13, 2) := by decide +kernel
theorem dL_step_200 : decode cL_step 200 = .ok (.iaload, 1) := by decide +kernel
theorem dL_step_201 : decode cL_step 201 = .ok (.aload_n 0, 1) := by decide +kernel
theorem dL_step_202 : decode cL_step 202 = .ok (.aload_n 1, 1) := by decide +kernel
theorem dL_step_203 : decode cL_step 203 = .ok (.aload_n 2, 1) := by decide +kernel
theorem dL_step_204 : decode cL_step 204 = .ok (.iload 7, 2) := by decide +kernel
theorem dL_step_206 : decode cL_step 206 = .ok (.invokestatic 15, 3) := by decide +kernel
theorem dL_step_209 : decode cL_step 209 = .ok (.iadd, 1) := by decide +kernel
theorem dL_step_210 : decode cL_step 210 = .ok (.sipush 1000, 3) := by decide +kernel
theorem dL_step_213 : decode cL_step 213 = .ok (.irem, 1) := by decide +kernel
theorem dL_step_214 : decode cL_step 214 = .ok (.iastore, 1) := by decide +kernel
theorem dL_step_215 : decode cL_step 215 = .ok (.iload 6, 2) := by decide +kernel
theorem dL_step_217 : decode cL_step 217 = .ok (.iconst 3, 1) := by decide +kernel
theorem dL_step_218 : decode cL_step 218 = .ok (.if_icmp .ne 109, 3) := by decide +kernel
theorem dL_step_221 : decode cL_step 221 = .ok (.aload_n 0, 1) := by decide +kernel
theorem dL_step_222 : decode cL_step 222 = .ok (.iload 7, 2) := by decide +kernel
theorem dL_step_224 : decode cL_step 224 = .ok (.bipush 16, 2) := by decide +kernel
theorem dL_step_226 : decode cL_step 226 = .ok (.idiv, 1) := by decide +kernel
theorem dL_step_227 : decode cL_step 227 = .ok (.iaload, 1) := by decide +kernel
theorem dL_step_228 : decode cL_step 228 = .ok (.istore 8, 2) := by decide +kernel
theorem dL_step_230 : decode cL_step 230 = .ok (.aload_n 0, 1) := by decide +kernel
theorem dL_step_231 : decode cL_step 231 = .ok (.iconst 4, 1) := by decide +kernel
theorem dL_step_232 : decode cL_step 232 = .ok (.iload 8, 2) := by decide +kernel
theorem dL_step_234 : decode cL_step 234 = .ok (.iadd, 1) := by decide +kernel
theorem dL_step_235 : decode cL_step 235 = .ok (.iaload, 1) := by decide +kernel
theorem dL_step_236 : decode cL_step 236 = .ok (.ifCond .ne 7, 3) := by decide +kernel
theorem dL_step_239 : decode cL_step 239 = .ok (.iconst 1, 1) := by decide +kernel
theorem dL_step_240 : decode cL_step 240 = .ok (.goto 4, 3) := by decide +kernel
theorem dL_step_243 : decode cL_step 243 = .ok (.iconst 0, 1) := by decide +kernel
theorem dL_step_244 : decode cL_step 244 = .ok (.istore 9, 2) := by decide +kernel
theorem dL_step_246 : decode cL_step 246 = .ok (.iload 9, 2) := by decide +kernel
theorem dL_step_248 : decode cL_step 248 = .ok (.ifCond .eq 19, 3) := by decide +kernel
theorem dL_step_251 : decode cL_step 251 = .ok (.aload_n 1, 1) := by decide +kernel
theorem dL_step_252 : decode cL_step 252 = .ok (.aload_n 2, 1) := by decide +kernel
theorem dL_step_253 : decode cL_step 253 = .ok (.iload 8, 2) := by decide +kernel
theorem dL_step_255 : decode cL_step 255 = .ok (.iload 7, 2) := by decide +kernel
theorem dL_step_257 : decode cL_step 257 = .ok (.bipush 16, 2) := by decide +kernel
theorem dL_step_259 : decode cL_step 259 = .ok (.irem, 1) := by decide +kernel
theorem dL_step_260 : decode cL_step 260 = .ok (.aload_n 0, 1) := by decide +kernel
theorem dL_step_261 : decode cL_step 261 = .ok (.bipush 13, 2) := by decide +kernel
theorem dL_step_263 : decode cL_step 263 = .ok (.iaload, 1) := by decide +kernel
theorem dL_step_264 : decode cL_step 264 = .ok (.invokestatic 19, 3) := by decide +kernel
theorem dL_step_267 : decode cL_step 267 = .ok (.aload_n 0, 1) := by decide +kernel
theorem dL_step_268 : decode cL_step 268 = .ok (.iload 9, 2) := by decide +kernel
theorem dL_step_270 : decode cL_step 270 = .ok (.ifCond .eq 8, 3) := by decide +kernel
theorem dL_step_273 : decode cL_step 273 = .ok (.bipush 18, 2) := by decide +kernel
theorem dL_step_275 : decode cL_step 275 = .ok (.goto 5, 3) := by decide +kernel
theorem dL_step_278 : decode cL_step 278 = .ok (.bipush 19, 2) := by decide +kernel
theorem dL_step_280 : decode cL_step 280 = .ok (.dup2, 1) := by decide +kernel
theorem dL_step_281 : decode cL_step 281 = .ok (.iaload, 1) := by decide +kernel
theorem dL_step_282 : decode cL_step 282 = .ok (.iconst 1, 1) := by decide +kernel
theorem dL_step_283 : decode cL_step 283 = .ok (.iadd, 1) := by decide +kernel
theorem dL_step_284 : decode cL_step 284 = .ok (.iastore, 1) := by decide +kernel
theorem dL_step_285 : decode cL_step 285 = .ok (.aload_n 0, 1) := by decide +kernel
theorem dL_step_286 : decode cL_step 286 = .ok (.iload 9, 2) := by decide +kernel
theorem dL_step_288 : decode cL_step 288 = .ok (.ifCond .eq 8, 3) := by decide +kernel
theorem dL_step_291 : decode cL_step 291 = .ok (.bipush 20, 2) := by decide +kernel
theorem dL_step_293 : decode cL_step 293 = .ok (.goto 5, 3) := by decide +kernel
theorem dL_step_296 : decode cL_step 296 = .ok (.bipush 28, 2) := by decide +kernel
theorem dL_step_298 : decode cL_step 298 = .ok (.iload 8, 2) := by decide +kernel
theorem dL_step_300 : decode cL_step 300 = .ok (.iadd, 1) := by decide +kernel
theorem dL_step_301 : decode cL_step 301 = .ok (.dup2, 1) := by decide +kernel
theorem dL_step_302 : decode cL_step 302 = .ok (.iaload, 1) := by decide +kernel
theorem dL_step_303 : decode cL_step 303 = .ok (.iconst 1, 1) := by decide +kernel
theorem dL_step_304 : decode cL_step 304 = .ok (.iadd, 1) := by decide +kernel
theorem dL_step_305 : decode cL_step 305 = .ok (.iastore, 1) := by decide +kernel
theorem dL_step_306 : decode cL_step 306 = .ok (.aload_n 0, 1) := by decide +kernel
theorem dL_step_307 : decode cL_step 307 = .ok (.bipush 15, 2) := by decide +kernel
theorem dL_step_309 : decode cL_step 309 = .ok (.iload 9, 2) := by decide +kernel
theorem dL_step_311 : decode cL_step 311 = .ok (.ifCond .ne 10, 3) := by decide +kernel
theorem dL_step_314 : decode cL_step 314 = .ok (.aload_n 0, 1) := by decide +kernel
theorem dL_step_315 : decode cL_step 315 = .ok (.bipush 12, 2) := by decide +kernel
theorem dL_step_317 : decode cL_step 317 = .ok (.iaload, 1) := by decide +kernel
theorem dL_step_318 : decode cL_step 318 = .ok (.ifCond .ne 7, 3) := by decide +kernel
theorem dL_step_321 : decode cL_step 321 = .ok (.iconst 0, 1) := by decide +kernel
theorem dL_step_322 : decode cL_step 322 = .ok (.goto 4, 3) := by decide +kernel
theorem dL_step_325 : decode cL_step 325 = .ok (.iconst 2, 1) := by decide +kernel
theorem dL_step_326 : decode cL_step 326 = .ok (.iastore, 1) := by decide +kernel
theorem dL_step_327 : decode cL_step 327 = .ok (.iload 6, 2) := by decide +kernel
theorem dL_step_329 : decode cL_step 329 = .ok (.iconst 4, 1) := by decide +kernel
theorem dL_step_330 : decode cL_step 330 = .ok (.if_icmp .eq 16, 3) := by decide +kernel
theorem dL_step_333 : decode cL_step 333 = .ok (.iload 6, 2) := by decide +kernel
theorem dL_step_335 : decode cL_step 335 = .ok (.iconst 5, 1) := by decide +kernel
theorem dL_step_336 : decode cL_step 336 = .ok (.if_icmp .ne 16, 3) := by decide +kernel
theorem dL_step_339 : decode cL_step 339 = .ok (.aload_n 0, 1) := by decide +kernel
theorem dL_step_340 : decode cL_step 340 = .ok (.bipush 13, 2) := by decide +kernel
theorem dL_step_342 : decode cL_step 342 = .ok (.iaload, 1) := by decide +kernel
theorem dL_step_343 : decode cL_step 343 = .ok (.ifCond .ne 9, 3) := by decide +kernel
theorem dL_step_346 : decode cL_step 346 = .ok (.aload_n 0, 1) := by decide +kernel
theorem dL_step_347 : decode cL_step 347 = .ok (.bipush 14, 2) := by decide +kernel
theorem dL_step_349 : decode cL_step 349 = .ok (.iload 7, 2) := by decide +kernel
theorem dL_step_351 : decode cL_step 351 = .ok (.iastore, 1) := by decide +kernel
theorem dL_step_352 : decode cL_step 352 = .ok (.iload 6, 2) := by decide +kernel
theorem dL_step_354 : decode cL_step 354 = .ok (.bipush 6, 2) := by decide +kernel
theorem dL_step_356 : decode cL_step 356 = .ok (.if_icmp .ne 15, 3) := by decide +kernel
theorem dL_step_359 : decode cL_step 359 = .ok (.aload_n 0, 1) := by decide +kernel
theorem dL_step_360 : decode cL_step 360 = .ok (.iload 7, 2) := by decide +kernel
theorem dL_step_362 : decode cL_step 362 = .ok (.bipush 10, 2) := by decide +kernel
theorem dL_step_364 : decode cL_step 364 = .ok (.idiv, 1) := by decide +kernel
theorem dL_step_365 : decode cL_step 365 = .ok (.iload 7, 2) := by decide +kernel
theorem dL_step_367 : decode cL_step 367 = .ok (.bipush 10, 2) := by decide +kernel
theorem dL_step_369 : decode cL_step 369 = .ok (.irem, 1) := by decide +kernel
theorem dL_step_370 : decode cL_step 370 = .ok (.iastore, 1) := by decide +kernel
theorem dL_step_371 : decode cL_step 371 = .ok (.iload 6, 2) := by decide +kernel
theorem dL_step_373 : decode cL_step 373 = .ok (.bipush 7, 2) := by decide +kernel
theorem dL_step_375 : decode cL_step 375 = .ok (.if_icmp .ne 79, 3) := by decide +kernel
theorem dL_step_378 : decode cL_step 378 = .ok (.aload_n 3, 1) := by decide +kernel
theorem dL_step_379 : decode cL_step 379 = .ok (.iconst 1, 1) := by decide +kernel
theorem dL_step_380 : decode cL_step 380 = .ok (.iconst 3, 1) := by decide +kernel
theorem dL_step_381 : decode cL_step 381 = .ok (.aload_n 3, 1) := by decide +kernel
theorem dL_step_382 : decode cL_step 382 = .ok (.iconst 0, 1) := by decide +kernel
theorem dL_step_383 : decode cL_step 383 = .ok (.iaload, 1) := by decide +kernel
theorem dL_step_384 : decode cL_step 384 = .ok (.imul, 1) := by decide +kernel
theorem dL_step_385 : decode cL_step 385 = .ok (.iadd, 1) := by decide +kernel
theorem dL_step_386 : decode cL_step 386 = .ok (.iload 4, 2) := by decide +kernel
theorem dL_step_388 : decode cL_step 388 = .ok (.iastore, 1) := by decide +kernel
theorem dL_step_389 : decode cL_step 389 = .ok (.aload_n 3, 1) := by decide +kernel
theorem dL_step_390 : decode cL_step 390 = .ok (.iconst 2, 1) := by decide +kernel
theorem dL_step_391 : decode cL_step 391 = .ok (.iconst 3, 1) := by decide +kernel
theorem dL_step_392 : decode cL_step 392 = .ok (.aload_n 3, 1) := by decide +kernel
theorem dL_step_393 : decode cL_step 393 = .ok (.iconst 0, 1) := by decide +kernel
theorem dL_step_394 : decode cL_step 394 = .ok (.iaload, 1) := by decide +kernel
theorem dL_step_395 : decode cL_step 395 = .ok (.imul, 1) := by decide +kernel
theorem dL_step_396 : decode cL_step 396 = .ok (.iadd, 1) := by decide +kernel
theorem dL_step_397 : decode cL_step 397 = .ok (.aload_n 0, 1) := by decide +kernel
theorem dL_step_398 : decode cL_step 398 = .ok (.iload 4, 2) := by decide +kernel
theorem dL_step_400 : decode cL_step 400 = .ok (.iaload, 1) := by decide +kernel
theorem dL_step_401 : decode cL_step 401 = .ok (.iastore, 1) := by decide +kernel
theorem dL_step_402 : decode cL_step 402 = .ok (.aload_n 3, 1) := by decide +kernel
theorem dL_step_403 : decode cL_step 403 = .ok (.iconst 3, 1) := by decide +kernel
theorem dL_step_404 : decode cL_step 404 = .ok (.iconst 3, 1) := by decide +kernel
theorem dL_step_405 : decode cL_step 405 = .ok (.aload_n 3, 1) := by decide +kernel
theorem dL_step_406 : decode cL_step 406 = .ok (.iconst 0, 1) := by decide +kernel
theorem dL_step_407 : decode cL_step 407 = .ok (.iaload, 1) := by decide +kernel
theorem dL_step_408 : decode cL_step 408 = .ok (.imul, 1) := by decide +kernel
theorem dL_step_409 : decode cL_step 409 = .ok (.iadd, 1) := by decide +kernel
theorem dL_step_410 : decode cL_step 410 = .ok (.aload_n 0, 1) := by decide +kernel
theorem dL_step_411 : decode cL_step 411 = .ok (.bipush 14, 2) := by decide +kernel
theorem dL_step_413 : decode cL_step 413 = .ok (.iaload, 1) := by decide +kernel
theorem dL_step_414 : decode cL_step 414 = .ok (.iastore, 1) := by decide +kernel
theorem dL_step_415 : decode cL_step 415 = .ok (.aload_n 3, 1) := by decide +kernel
theorem dL_step_416 : decode cL_step 416 = .ok (.iconst 0, 1) := by decide +kernel
theorem dL_step_417 : decode cL_step 417 = .ok (.dup2, 1) := by decide +kernel
theorem dL_step_418 : decode cL_step 418 = .ok (.iaload, 1) := by decide +kernel
theorem dL_step_419 : decode cL_step 419 = .ok (.iconst 1, 1) := by decide +kernel
theorem dL_step_420 : decode cL_step 420 = .ok (.iadd, 1) := by decide +kernel
theorem dL_step_421 : decode cL_step 421 = .ok (.iastore, 1) := by decide +kernel
theorem dL_step_422 : decode cL_step 422 = .ok (.aload_n 0, 1) := by decide +kernel
theorem dL_step_423 : decode cL_step 423 = .ok (.bipush 17, 2) := by decide +kernel
theorem dL_step_425 : decode cL_step 425 = .ok (.dup2, 1) := by decide +kernel
theorem dL_step_426 : decode cL_step 426 = .ok (.iaload, 1) := by decide +kernel
theorem dL_step_427 : decode cL_step 427 = .ok (.iconst 1, 1) := by decide +kernel
theorem dL_step_428 : decode cL_step 428 = .ok (.iadd, 1) := by decide +kernel
theorem dL_step_429 : decode cL_step 429 = .ok (.iastore, 1) := by decide +kernel
theorem dL_step_430 : decode cL_step 430 = .ok (.aload_n 0, 1) := by decide +kernel
theorem dL_step_431 : decode cL_step 431 = .ok (.iload 4, 2) := by decide +kernel
theorem dL_step_433 : decode cL_step 433 = .ok (.iload 7, 2) := by decide +kernel
theorem dL_step_435 : decode cL_step 435 = .ok (.bipush 10, 2) := by decide +kernel
theorem dL_step_437 : decode cL_step 437 = .ok (.idiv, 1) := by decide +kernel
theorem dL_step_438 : decode cL_step 438 = .ok (.iastore, 1) := by decide +kernel
theorem dL_step_439 : decode cL_step 439 = .ok (.aload_n 0, 1) := by decide +kernel
theorem dL_step_440 : decode cL_step 440 = .ok (.bipush 14, 2) := by decide +kernel
theorem dL_step_442 : decode cL_step 442 = .ok (.bipush 16, 2) := by decide +kernel
theorem dL_step_444 : decode cL_step 444 = .ok (.iload 4, 2) := by decide +kernel
theorem dL_step_446 : decode cL_step 446 = .ok (.imul, 1) := by decide +kernel
theorem dL_step_447 : decode cL_step 447 = .ok (.iload 7, 2) := by decide +kernel
theorem dL_step_449 : decode cL_step 449 = .ok (.bipush 10, 2) := by decide +kernel
theorem dL_step_451 : decode cL_step 451 = .ok (.irem, 1) := by decide +kernel
theorem dL_step_452 : decode cL_step 452 = .ok (.iadd, 1) := by decide +kernel
theorem dL_step_453 : decode cL_step 453 = .ok (.iastore, 1) := by decide +kernel
theorem dL_step_454 : decode cL_step 454 = .ok (.iload 6, 2) := by decide +kernel
theorem dL_step_456 : decode cL_step 456 = .ok (.bipush 8, 2) := by decide +kernel
theorem dL_step_458 : decode cL_step 458 = .ok (.if_icmp .ne 43, 3) := by decide +kernel
theorem dL_step_461 : decode cL_step 461 = .ok (.aload_n 3, 1) := by decide +kernel
theorem dL_step_462 : decode cL_step 462 = .ok (.iconst 0, 1) := by decide +kernel
theorem dL_step_463 : decode cL_step 463 = .ok (.dup2, 1) := by decide +kernel
theorem dL_step_464 : decode cL_step 464 = .ok (.iaload, 1) := by decide +kernel
theorem dL_step_465 : decode cL_step 465 = .ok (.iconst 1, 1) := by decide +kernel
theorem dL_step_466 : decode cL_step 466 = .ok (.isub, 1) := by decide +kernel
theorem dL_step_467 : decode cL_step 467 = .ok (.iastore, 1) := by decide +kernel
theorem dL_step_468 : decode cL_step 468 = .ok (.aload_n 0, 1) := by decide +kernel
theorem dL_step_469 : decode cL_step 469 = .ok (.aload_n 3, 1) := by decide +kernel
theorem dL_step_470 : decode cL_step 470 = .ok (.iconst 1, 1) := by decide +kernel
theorem dL_step_471 : decode cL_step 471 = .ok (.iconst 3, 1) := by decide +kernel
theorem dL_step_472 : decode cL_step 472 = .ok (.aload_n 3, 1) := by decide +kernel
theorem dL_step_473 : decode cL_step 473 = .ok (.iconst 0, 1) := by decide +kernel
theorem dL_step_474 : decode cL_step 474 = .ok (.iaload, 1) := by decide +kernel
theorem dL_step_475 : decode cL_step 475 = .ok (.imul, 1) := by decide +kernel
theorem dL_step_476 : decode cL_step 476 = .ok (.iadd, 1) := by decide +kernel
theorem dL_step_477 : decode cL_step 477 = .ok (.iaload, 1) := by decide +kernel
theorem dL_step_478 : decode cL_step 478 = .ok (.aload_n 3, 1) := by decide +kernel
theorem dL_step_479 : decode cL_step 479 = .ok (.iconst 2, 1) := by decide +kernel
theorem dL_step_480 : decode cL_step 480 = .ok (.iconst 3, 1) := by decide +kernel
theorem dL_step_481 : decode cL_step 481 = .ok (.aload_n 3, 1) := by decide +kernel
theorem dL_step_482 : decode cL_step 482 = .ok (.iconst 0, 1) := by decide +kernel
theorem dL_step_483 : decode cL_step 483 = .ok (.iaload, 1) := by decide +kernel
theorem dL_step_484 : decode cL_step 484 = .ok (.imul, 1) := by decide +kernel
theorem dL_step_485 : decode cL_step 485 = .ok (.iadd, 1) := by decide +kernel
theorem dL_step_486 : decode cL_step 486 = .ok (.iaload, 1) := by decide +kernel
theorem dL_step_487 : decode cL_step 487 = .ok (.iastore, 1) := by decide +kernel
theorem dL_step_488 : decode cL_step 488 = .ok (.aload_n 0, 1) := by decide +kernel
theorem dL_step_489 : decode cL_step 489 = .ok (.bipush 14, 2) := by decide +kernel
theorem dL_step_491 : decode cL_step 491 = .ok (.aload_n 3, 1) := by decide +kernel
theorem dL_step_492 : decode cL_step 492 = .ok (.iconst 3, 1) := by decide +kernel
theorem dL_step_493 : decode cL_step 493 = .ok (.iconst 3, 1) := by decide +kernel
theorem dL_step_494 : decode cL_step 494 = .ok (.aload_n 3, 1) := by decide +kernel
theorem dL_step_495 : decode cL_step 495 = .ok (.iconst 0, 1) := by decide +kernel
theorem dL_step_496 : decode cL_step 496 = .ok (.iaload, 1) := by decide +kernel
theorem dL_step_497 : decode cL_step 497 = .ok (.imul, 1) := by decide +kernel
theorem dL_step_498 : decode cL_step 498 = .ok (.iadd, 1) := by decide +kernel
theorem dL_step_499 : decode cL_step 499 = .ok (.iaload, 1) := by decide +kernel
theorem dL_step_500 : decode cL_step 500 = .ok (.iastore, 1) := by decide +kernel
theorem dL_step_501 : decode cL_step 501 = .ok (.iload 6, 2) := by decide +kernel
theorem dL_step_503 : decode cL_step 503 = .ok (.bipush 9, 2) := by decide +kernel
theorem dL_step_505 : decode cL_step 505 = .ok (.if_icmp .ne 18, 3) := by decide +kernel
theorem dL_step_508 : decode cL_step 508 = .ok (.aload_n 0, 1) := by decide +kernel
theorem dL_step_509 : decode cL_step 509 = .ok (.bipush 13, 2) := by decide +kernel
theorem dL_step_511 : decode cL_step 511 = .ok (.aload_n 0, 1) := by decide +kernel
theorem dL_step_512 : decode cL_step 512 = .ok (.bipush 13, 2) := by decide +kernel
theorem dL_step_514 : decode cL_step 514 = .ok (.iaload, 1) := by decide +kernel
theorem dL_step_515 : decode cL_step 515 = .ok (.iload 7, 2) := by decide +kernel
theorem dL_step_517 : decode cL_step 517 = .ok (.iadd, 1) := by decide +kernel
theorem dL_step_518 : decode cL_step 518 = .ok (.sipush 1000, 3) := by decide +kernel
theorem dL_step_521 : decode cL_step 521 = .ok (.irem, 1) := by decide +kernel
theorem dL_step_522 : decode cL_step 522 = .ok (.iastore, 1) := by decide +kernel
theorem dL_step_523 : decode cL_step 523 = .ok (.aload_n 0, 1) := by decide +kernel
theorem dL_step_524 : decode cL_step 524 = .ok (.bipush 15, 2) := by decide +kernel
theorem dL_step_526 : decode cL_step 526 = .ok (.iaload, 1) := by decide +kernel
theorem dL_step_527 : decode cL_step 527 = .ok (.ifCond .ne 18, 3) := by decide +kernel
theorem dL_step_530 : decode cL_step 530 = .ok (.aload_n 0, 1) := by decide +kernel
theorem dL_step_531 : decode cL_step 531 = .ok (.bipush 14, 2) := by decide +kernel
theorem dL_step_533 : decode cL_step 533 = .ok (.iaload, 1) := by decide +kernel
theorem dL_step_534 : decode cL_step 534 = .ok (.bipush 64, 2) := by decide +kernel
theorem dL_step_536 : decode cL_step 536 = .ok (.if_icmp .ne 9, 3) := by decide +kernel
theorem dL_step_539 : decode cL_step 539 = .ok (.aload_n 0, 1) := by decide +kernel
theorem dL_step_540 : decode cL_step 540 = .ok (.bipush 15, 2) := by decide +kernel
theorem dL_step_542 : decode cL_step 542 = .ok (.bipush 6, 2) := by decide +kernel
theorem dL_step_544 : decode cL_step 544 = .ok (.iastore, 1) := by decide +kernel
theorem dL_step_545 : decode cL_step 545 = .ok (.return_, 1) := by decide +kernel
theorem dL_copy_0 : decode cL_copy 0 = .ok (.iconst 0, 1) := by decide +kernel
theorem dL_copy_1 : decode cL_copy 1 = .ok (.istore_n 2, 1) := by decide +kernel
theorem dL_copy_2 : decode cL_copy 2 = .ok (.iload_n 2, 1) := by decide +kernel
theorem dL_copy_3 : decode cL_copy 3 = .ok (.aload_n 0, 1) := by decide +kernel
theorem dL_copy_4 : decode cL_copy 4 = .ok (.arraylength, 1) := by decide +kernel
theorem dL_copy_5 : decode cL_copy 5 = .ok (.if_icmp .ge 15, 3) := by decide +kernel
theorem dL_copy_8 : decode cL_copy 8 = .ok (.aload_n 1, 1) := by decide +kernel
theorem dL_copy_9 : decode cL_copy 9 = .ok (.iload_n 2, 1) := by decide +kernel
theorem dL_copy_10 : decode cL_copy 10 = .ok (.aload_n 0, 1) := by decide +kernel
theorem dL_copy_11 : decode cL_copy 11 = .ok (.iload_n 2, 1) := by decide +kernel
theorem dL_copy_12 : decode cL_copy 12 = .ok (.iaload, 1) := by decide +kernel
theorem dL_copy_13 : decode cL_copy 13 = .ok (.iastore, 1) := by decide +kernel
theorem dL_copy_14 : decode cL_copy 14 = .ok (.iinc 2 1, 3) := by decide +kernel
theorem dL_copy_17 : decode cL_copy 17 = .ok (.goto (-15), 3) := by decide +kernel
theorem dL_copy_20 : decode cL_copy 20 = .ok (.return_, 1) := by decide +kernel
theorem dL_run_0 : decode cL_run 0 = .ok (.iconst 0, 1) := by decide +kernel
theorem dL_run_1 : decode cL_run 1 = .ok (.istore 5, 2) := by decide +kernel
theorem dL_run_3 : decode cL_run 3 = .ok (.iload 5, 2) := by decide +kernel
theorem dL_run_5 : decode cL_run 5 = .ok (.iload_n 0, 1) := by decide +kernel
theorem dL_run_6 : decode cL_run 6 = .ok (.if_icmp .ge 24, 3) := by decide +kernel
theorem dL_run_9 : decode cL_run 9 = .ok (.aload_n 1, 1) := by decide +kernel
theorem dL_run_10 : decode cL_run 10 = .ok (.bipush 15, 2) := by decide +kernel
theorem dL_run_12 : decode cL_run 12 = .ok (.iaload, 1) := by decide +kernel
theorem dL_run_13 : decode cL_run 13 = .ok (.ifCond .ne 17, 3) := by decide +kernel
theorem dL_run_16 : decode cL_run 16 = .ok (.aload_n 1, 1) := by decide +kernel
theorem dL_run_17 : decode cL_run 17 = .ok (.aload_n 2, 1) := by decide +kernel
theorem dL_run_18 : decode cL_run 18 = .ok (.aload_n 3, 1) := by decide +kernel
theorem dL_run_19 : decode cL_run 19 = .ok (.aload 4, 2) := by decide +kernel
theorem dL_run_21 : decode cL_run 21 = .ok (.invokestatic 23, 3) := by decide +kernel
theorem dL_run_24 : decode cL_run 24 = .ok (.iinc 5 1, 3) := by decide +kernel
theorem dL_run_27 : decode cL_run 27 = .ok (.goto (-24), 3) := by decide +kernel
theorem dL_run_30 : decode cL_run 30 = .ok (.iload 5, 2) := by decide +kernel
theorem dL_run_32 : decode cL_run 32 = .ok (.ireturn, 1) := by decide +kernel
theorem dL_isAhead_0 : decode cL_isAhead 0 = .ok (.bipush 36, 2) := by decide +kernel
theorem dL_isAhead_2 : decode cL_isAhead 2 = .ok (.newarray .int, 2) := by decide +kernel
theorem dL_isAhead_4 : decode cL_isAhead 4 = .ok (.astore 6, 2) := by decide +kernel
theorem dL_isAhead_6 : decode cL_isAhead 6 = .ok (.bipush 52, 2) := by decide +kernel
theorem dL_isAhead_8 : decode cL_isAhead 8 = .ok (.newarray .int, 2) := by decide +kernel
theorem dL_isAhead_10 : decode cL_isAhead 10 = .ok (.astore 7, 2) := by decide +kernel
theorem dL_isAhead_12 : decode cL_isAhead 12 = .ok (.bipush 48, 2) := by decide +kernel
theorem dL_isAhead_14 : decode cL_isAhead 14 = .ok (.newarray .int, 2) := by decide +kernel
theorem dL_isAhead_16 : decode cL_isAhead 16 = .ok (.astore 8, 2) := by decide +kernel
theorem dL_isAhead_18 : decode cL_isAhead 18 = .ok (.bipush 28, 2) := by decide +kernel
theorem dL_isAhead_20 : decode cL_isAhead 20 = .ok (.newarray .int, 2) := by decide +kernel
theorem dL_isAhead_22 : decode cL_isAhead 22 = .ok (.astore 9, 2) := by decide +kernel
theorem dL_isAhead_24 : decode cL_isAhead 24 = .ok (.aload_n 2, 1) := by decide +kernel
theorem dL_isAhead_25 : decode cL_isAhead 25 = .ok (.aload 6, 2) := by decide +kernel
theorem dL_isAhead_27 : decode cL_isAhead 27 = .ok (.invokestatic 27, 3) := by decide +kernel
theorem dL_isAhead_30 : decode cL_isAhead 30 = .ok (.aload_n 3, 1) := by decide +kernel
theorem dL_isAhead_31 : decode cL_isAhead 31 = .ok (.aload 7, 2) := by decide +kernel
theorem dL_isAhead_33 : decode cL_isAhead 33 = .ok (.invokestatic 27, 3) := by decide +kernel
theorem dL_isAhead_36 : decode cL_isAhead 36 = .ok (.aload 4, 2) := by decide +kernel
theorem dL_isAhead_38 : decode cL_isAhead 38 = .ok (.aload 8, 2) := by decide +kernel
theorem dL_isAhead_40 : decode cL_isAhead 40 = .ok (.invokestatic 27, 3) := by decide +kernel
theorem dL_isAhead_43 : decode cL_isAhead 43 = .ok (.aload 5, 2) := by decide +kernel
theorem dL_isAhead_45 : decode cL_isAhead 45 = .ok (.aload 9, 2) := by decide +kernel
theorem dL_isAhead_47 : decode cL_isAhead 47 = .ok (.invokestatic 27, 3) := by decide +kernel
theorem dL_isAhead_50 : decode cL_isAhead 50 = .ok (.aload_n 2, 1) := by decide +kernel
theorem dL_isAhead_51 : decode cL_isAhead 51 = .ok (.bipush 15, 2) := by decide +kernel
theorem dL_isAhead_53 : decode cL_isAhead 53 = .ok (.iaload, 1) := by decide +kernel
theorem dL_isAhead_54 : decode cL_isAhead 54 = .ok (.ifCond .le 49, 3) := by decide +kernel
theorem dL_isAhead_57 : decode cL_isAhead 57 = .ok (.aload_n 0, 1) := by decide +kernel
theorem dL_isAhead_58 : decode cL_isAhead 58 = .ok (.iconst 0, 1) := by decide +kernel
theorem dL_isAhead_59 : decode cL_isAhead 59 = .ok (.invokevirtual 31, 3) := by decide +kernel
theorem dL_isAhead_62 : decode cL_isAhead 62 = .ok (.bipush (-5), 2) := by decide +kernel
theorem dL_isAhead_64 : decode cL_isAhead 64 = .ok (.if_icmp .ne 37, 3) := by decide +kernel
theorem dL_isAhead_67 : decode cL_isAhead 67 = .ok (.aload_n 0, 1) := by decide +kernel
theorem dL_isAhead_68 : decode cL_isAhead 68 = .ok (.iconst 3, 1) := by decide +kernel
theorem dL_isAhead_69 : decode cL_isAhead 69 = .ok (.invokevirtual 31, 3) := by decide +kernel
theorem dL_isAhead_72 : decode cL_isAhead 72 = .ok (.bipush (-2), 2) := by decide +kernel
theorem dL_isAhead_74 : decode cL_isAhead 74 = .ok (.if_icmp .ne 27, 3) := by decide +kernel
theorem dL_isAhead_77 : decode cL_isAhead 77 = .ok (.aload_n 0, 1) := by decide +kernel
theorem dL_isAhead_78 : decode cL_isAhead 78 = .ok (.iload_n 1, 1) := by decide +kernel
theorem dL_isAhead_79 : decode cL_isAhead 79 = .ok (.iconst 0, 1) := by decide +kernel
theorem dL_isAhead_80 : decode cL_isAhead 80 = .ok (.invokevirtual 37, 3) := by decide +kernel
theorem dL_isAhead_83 : decode cL_isAhead 83 = .ok (.bipush (-4), 2) := by decide +kernel
theorem dL_isAhead_85 : decode cL_isAhead 85 = .ok (.if_icmp .ne 16, 3) := by decide +kernel
theorem dL_isAhead_88 : decode cL_isAhead 88 = .ok (.aload_n 0, 1) := by decide +kernel
theorem dL_isAhead_89 : decode cL_isAhead 89 = .ok (.invokevirtual 41, 3) := by decide +kernel
theorem dL_isAhead_92 : decode cL_isAhead 92 = .ok (.bipush (-5), 2) := by decide +kernel
theorem dL_isAhead_94 : decode cL_isAhead 94 = .ok (.if_icmp .ne 7, 3) := by decide +kernel
theorem dL_isAhead_97 : decode cL_isAhead 97 = .ok (.iconst 1, 1) := by decide +kernel
theorem dL_isAhead_98 : decode cL_isAhead 98 = .ok (.goto 4, 3) := by decide +kernel
theorem dL_isAhead_101 : decode cL_isAhead 101 = .ok (.iconst 0, 1) := by decide +kernel
theorem dL_isAhead_102 : decode cL_isAhead 102 = .ok (.ireturn, 1) := by decide +kernel
theorem dL_isAhead_103 : decode cL_isAhead 103 = .ok (.aload 6, 2) := by decide +kernel
theorem dL_isAhead_105 : decode cL_isAhead 105 = .ok (.aload 7, 2) := by decide +kernel
theorem dL_isAhead_107 : decode cL_isAhead 107 = .ok (.aload 8, 2) := by decide +kernel
theorem dL_isAhead_109 : decode cL_isAhead 109 = .ok (.aload 9, 2) := by decide +kernel
theorem dL_isAhead_111 : decode cL_isAhead 111 = .ok (.invokestatic 23, 3) := by decide +kernel
theorem dL_isAhead_114 : decode cL_isAhead 114 = .ok (.aload_n 0, 1) := by decide +kernel
theorem dL_isAhead_115 : decode cL_isAhead 115 = .ok (.iconst 0, 1) := by decide +kernel
theorem dL_isAhead_116 : decode cL_isAhead 116 = .ok (.invokevirtual 31, 3) := by decide +kernel
theorem dL_isAhead_119 : decode cL_isAhead 119 = .ok (.aload_n 2, 1) := by decide +kernel
theorem dL_isAhead_120 : decode cL_isAhead 120 = .ok (.aload_n 3, 1) := by decide +kernel
theorem dL_isAhead_121 : decode cL_isAhead 121 = .ok (.aload 4, 2) := by decide +kernel
theorem dL_isAhead_123 : decode cL_isAhead 123 = .ok (.aload_n 2, 1) := by decide +kernel
theorem dL_isAhead_124 : decode cL_isAhead 124 = .ok (.bipush 14, 2) := by decide +kernel
theorem dL_isAhead_126 : decode cL_isAhead 126 = .ok (.iaload, 1) := by decide +kernel
theorem dL_isAhead_127 : decode cL_isAhead 127 = .ok (.invokestatic 15, 3) := by decide +kernel
theorem dL_isAhead_130 : decode cL_isAhead 130 = .ok (.if_icmp .ne 29, 3) := by decide +kernel
theorem dL_isAhead_133 : decode cL_isAhead 133 = .ok (.aload_n 0, 1) := by decide +kernel
theorem dL_isAhead_134 : decode cL_isAhead 134 = .ok (.iconst 1, 1) := by decide +kernel
theorem dL_isAhead_135 : decode cL_isAhead 135 = .ok (.invokevirtual 31, 3) := by decide +kernel
theorem dL_isAhead_138 : decode cL_isAhead 138 = .ok (.aload 6, 2) := by decide +kernel
theorem dL_isAhead_140 : decode cL_isAhead 140 = .ok (.bipush 15, 2) := by decide +kernel
theorem dL_isAhead_142 : decode cL_isAhead 142 = .ok (.iaload, 1) := by decide +kernel
theorem dL_isAhead_143 : decode cL_isAhead 143 = .ok (.if_icmp .ne 16, 3) := by decide +kernel
theorem dL_isAhead_146 : decode cL_isAhead 146 = .ok (.aload_n 0, 1) := by decide +kernel
theorem dL_isAhead_147 : decode cL_isAhead 147 = .ok (.iconst 2, 1) := by decide +kernel
theorem dL_isAhead_148 : decode cL_isAhead 148 = .ok (.invokevirtual 31, 3) := by decide +kernel
theorem dL_isAhead_151 : decode cL_isAhead 151 = .ok (.aload 6, 2) := by decide +kernel
theorem dL_isAhead_153 : decode cL_isAhead 153 = .ok (.bipush 14, 2) := by decide +kernel
theorem dL_isAhead_155 : decode cL_isAhead 155 = .ok (.iaload, 1) := by decide +kernel
theorem dL_isAhead_156 : decode cL_isAhead 156 = .ok (.if_icmp .eq 5, 3) := by decide +kernel
theorem dL_isAhead_159 : decode cL_isAhead 159 = .ok (.iconst 0, 1) := by decide +kernel
theorem dL_isAhead_160 : decode cL_isAhead 160 = .ok (.ireturn, 1) := by decide +kernel
theorem dL_isAhead_161 : decode cL_isAhead 161 = .ok (.iconst 1, 1) := by decide +kernel
theorem dL_isAhead_162 : decode cL_isAhead 162 = .ok (.iload_n 1, 1) := by decide +kernel
theorem dL_isAhead_163 : decode cL_isAhead 163 = .ok (.iconst 1, 1) := by decide +kernel
theorem dL_isAhead_164 : decode cL_isAhead 164 = .ok (.isub, 1) := by decide +kernel
theorem dL_isAhead_165 : decode cL_isAhead 165 = .ok (.aload 6, 2) := by decide +kernel
theorem dL_isAhead_167 : decode cL_isAhead 167 = .ok (.aload 7, 2) := by decide +kernel
theorem dL_isAhead_169 : decode cL_isAhead 169 = .ok (.aload 8, 2) := by decide +kernel
theorem dL_isAhead_171 : decode cL_isAhead 171 = .ok (.aload 9, 2) := by decide +kernel
theorem dL_isAhead_173 : decode cL_isAhead 173 = .ok (.invokestatic 45, 3) := by decide +kernel
theorem dL_isAhead_176 : decode cL_isAhead 176 = .ok (.iadd, 1) := by decide +kernel
theorem dL_isAhead_177 : decode cL_isAhead 177 = .ok (.istore 10, 2) := by decide +kernel
theorem dL_isAhead_179 : decode cL_isAhead 179 = .ok (.iconst 0, 1) := by decide +kernel
theorem dL_isAhead_180 : decode cL_isAhead 180 = .ok (.istore 11, 2) := by decide +kernel
theorem dL_isAhead_182 : decode cL_isAhead 182 = .ok (.iconst 0, 1) := by decide +kernel
theorem dL_isAhead_183 : decode cL_isAhead 183 = .ok (.istore 12, 2) := by decide +kernel
theorem dL_isAhead_185 : decode cL_isAhead 185 = .ok (.iload 12, 2) := by decide +kernel
theorem dL_isAhead_187 : decode cL_isAhead 187 = .ok (.bipush 52, 2) := by decide +kernel
theorem dL_isAhead_189 : decode cL_isAhead 189 = .ok (.if_icmp .ge 31, 3) := by decide +kernel
theorem dL_isAhead_192 : decode cL_isAhead 192 = .ok (.iload 11, 2) := by decide +kernel
theorem dL_isAhead_194 : decode cL_isAhead 194 = .ok (.aload_n 3, 1) := by decide +kernel
theorem dL_isAhead_195 : decode cL_isAhead 195 = .ok (.iload 12, 2) := by decide +kernel
theorem dL_isAhead_197 : decode cL_isAhead 197 = .ok (.iaload, 1) := by decide +kernel
theorem dL_isAhead_198 : decode cL_isAhead 198 = .ok (.aload 7, 2) := by decide +kernel
theorem dL_isAhead_200 : decode cL_isAhead 200 = .ok (.iload 12, 2) := by decide +kernel
theorem dL_isAhead_202 : decode cL_isAhead 202 = .ok (.iaload, 1) := by decide +kernel
theorem dL_isAhead_203 : decode cL_isAhead 203 = .ok (.if_icmp .eq 7, 3) := by decide +kernel
theorem dL_isAhead_206 : decode cL_isAhead 206 = .ok (.iconst 1, 1) := by decide +kernel
theorem dL_isAhead_207 : decode cL_isAhead 207 = .ok (.goto 4, 3) := by decide +kernel
theorem dL_isAhead_210 : decode cL_isAhead 210 = .ok (.iconst 0, 1) := by decide +kernel
theorem dL_isAhead_211 : decode cL_isAhead 211 = .ok (.iadd, 1) := by decide +kernel
theorem dL_isAhead_212 : decode cL_isAhead 212 = .ok (.istore 11, 2) := by decide +kernel
theorem dL_isAhead_214 : decode cL_isAhead 214 = .ok (.iinc 12 1, 3) := by decide +kernel
theorem dL_isAhead_217 : decode cL_isAhead 217 = .ok (.goto (-32), 3) := by decide +kernel
theorem dL_isAhead_220 : decode cL_isAhead 220 = .ok (.iconst 0, 1) := by decide +kernel
theorem dL_isAhead_221 : decode cL_isAhead 221 = .ok (.istore 12, 2) := by decide +kernel
theorem dL_isAhead_223 : decode cL_isAhead 223 = .ok (.iload 12, 2) := by decide +kernel
theorem dL_isAhead_225 : decode cL_isAhead 225 = .ok (.bipush 48, 2) := by decide +kernel
theorem dL_isAhead_227 : decode cL_isAhead 227 = .ok (.if_icmp .ge 32, 3) := by decide +kernel
theorem dL_isAhead_230 : decode cL_isAhead 230 = .ok (.iload 11, 2) := by decide +kernel
theorem dL_isAhead_232 : decode cL_isAhead 232 = .ok (.aload 4, 2) := by decide +kernel
theorem dL_isAhead_234 : decode cL_isAhead 234 = .ok (.iload 12, 2) := by decide +kernel
theorem dL_isAhead_236 : decode cL_isAhead 236 = .ok (.iaload, 1) := by decide +kernel
theorem dL_isAhead_237 : decode cL_isAhead 237 = .ok (.aload 8, 2) := by decide +kernel
theorem dL_isAhead_239 : decode cL_isAhead 239 = .ok (.iload 12, 2) := by decide +kernel
theorem dL_isAhead_241 : decode cL_isAhead 241 = .ok (.iaload, 1) := by decide +kernel
theorem dL_isAhead_242 : decode cL_isAhead 242 = .ok (.if_icmp .eq 7, 3) := by decide +kernel
theorem dL_isAhead_245 : decode cL_isAhead 245 = .ok (.iconst 1, 1) := by decide +kernel
theorem dL_isAhead_246 : decode cL_isAhead 246 = .ok (.goto 4, 3) := by decide +kernel
theorem dL_isAhead_249 : decode cL_isAhead 249 = .ok (.iconst 0, 1) := by decide +kernel
theorem dL_isAhead_250 : decode cL_isAhead 250 = .ok (.iadd, 1) := by decide +kernel
theorem dL_isAhead_251 : decode cL_isAhead 251 = .ok (.istore 11, 2) := by decide +kernel
theorem dL_isAhead_253 : decode cL_isAhead 253 = .ok (.iinc 12 1, 3) := by decide +kernel
theorem dL_isAhead_256 : decode cL_isAhead 256 = .ok (.goto (-33), 3) := by decide +kernel
theorem dL_isAhead_259 : decode cL_isAhead 259 = .ok (.aload_n 0, 1) := by decide +kernel
theorem dL_isAhead_260 : decode cL_isAhead 260 = .ok (.iload_n 1, 1) := by decide +kernel
theorem dL_isAhead_261 : decode cL_isAhead 261 = .ok (.iconst 0, 1) := by decide +kernel
theorem dL_isAhead_262 : decode cL_isAhead 262 = .ok (.invokevirtual 37, 3) := by decide +kernel
theorem dL_isAhead_265 : decode cL_isAhead 265 = .ok (.iload 10, 2) := by decide +kernel
theorem dL_isAhead_267 : decode cL_isAhead 267 = .ok (.if_icmp .ne 77, 3) := by decide +kernel
theorem dL_isAhead_270 : decode cL_isAhead 270 = .ok (.aload_n 0, 1) := by decide +kernel
theorem dL_isAhead_271 : decode cL_isAhead 271 = .ok (.iload_n 1, 1) := by decide +kernel
theorem dL_isAhead_272 : decode cL_isAhead 272 = .ok (.iconst 1, 1) := by decide +kernel
theorem dL_isAhead_273 : decode cL_isAhead 273 = .ok (.invokevirtual 37, 3) := by decide +kernel
theorem dL_isAhead_276 : decode cL_isAhead 276 = .ok (.aload 6, 2) := by decide +kernel
theorem dL_isAhead_278 : decode cL_isAhead 278 = .ok (.bipush 15, 2) := by decide +kernel
theorem dL_isAhead_280 : decode cL_isAhead 280 = .ok (.iaload, 1) := by decide +kernel
theorem dL_isAhead_281 : decode cL_isAhead 281 = .ok (.if_icmp .ne 63, 3) := by decide +kernel
theorem dL_isAhead_284 : decode cL_isAhead 284 = .ok (.aload_n 0, 1) := by decide +kernel
theorem dL_isAhead_285 : decode cL_isAhead 285 = .ok (.iload_n 1, 1) := by decide +kernel
theorem dL_isAhead_286 : decode cL_isAhead 286 = .ok (.iconst 2, 1) := by decide +kernel
theorem dL_isAhead_287 : decode cL_isAhead 287 = .ok (.invokevirtual 37, 3) := by decide +kernel
theorem dL_isAhead_290 : decode cL_isAhead 290 = .ok (.aload 6, 2) := by decide +kernel
theorem dL_isAhead_292 : decode cL_isAhead 292 = .ok (.bipush 13, 2) := by decide +kernel
theorem dL_isAhead_294 : decode cL_isAhead 294 = .ok (.iaload, 1) := by decide +kernel
theorem dL_isAhead_295 : decode cL_isAhead 295 = .ok (.if_icmp .ne 49, 3) := by decide +kernel
theorem dL_isAhead_298 : decode cL_isAhead 298 = .ok (.aload_n 0, 1) := by decide +kernel
theorem dL_isAhead_299 : decode cL_isAhead 299 = .ok (.iload_n 1, 1) := by decide +kernel
theorem dL_isAhead_300 : decode cL_isAhead 300 = .ok (.iconst 3, 1) := by decide +kernel
theorem dL_isAhead_301 : decode cL_isAhead 301 = .ok (.invokevirtual 37, 3) := by decide +kernel
theorem dL_isAhead_304 : decode cL_isAhead 304 = .ok (.aload 9, 2) := by decide +kernel
theorem dL_isAhead_306 : decode cL_isAhead 306 = .ok (.iconst 0, 1) := by decide +kernel
theorem dL_isAhead_307 : decode cL_isAhead 307 = .ok (.iaload, 1) := by decide +kernel
theorem dL_isAhead_308 : decode cL_isAhead 308 = .ok (.if_icmp .ne 36, 3) := by decide +kernel
theorem dL_isAhead_311 : decode cL_isAhead 311 = .ok (.aload_n 0, 1) := by decide +kernel
theorem dL_isAhead_312 : decode cL_isAhead 312 = .ok (.iload_n 1, 1) := by decide +kernel
theorem dL_isAhead_313 : decode cL_isAhead 313 = .ok (.iconst 4, 1) := by decide +kernel
theorem dL_isAhead_314 : decode cL_isAhead 314 = .ok (.invokevirtual 37, 3) := by decide +kernel
theorem dL_isAhead_317 : decode cL_isAhead 317 = .ok (.iload 11, 2) := by decide +kernel
theorem dL_isAhead_319 : decode cL_isAhead 319 = .ok (.if_icmp .ne 25, 3) := by decide +kernel
theorem dL_isAhead_322 : decode cL_isAhead 322 = .ok (.aload_n 0, 1) := by decide +kernel
theorem dL_isAhead_323 : decode cL_isAhead 323 = .ok (.iconst 0, 1) := by decide +kernel
theorem dL_isAhead_324 : decode cL_isAhead 324 = .ok (.iconst 0, 1) := by decide +kernel
theorem dL_isAhead_325 : decode cL_isAhead 325 = .ok (.invokevirtual 37, 3) := by decide +kernel
theorem dL_isAhead_328 : decode cL_isAhead 328 = .ok (.bipush (-2), 2) := by decide +kernel
theorem dL_isAhead_330 : decode cL_isAhead 330 = .ok (.if_icmp .ne 14, 3) := by decide +kernel
theorem dL_isAhead_333 : decode cL_isAhead 333 = .ok (.aload_n 0, 1) := by decide +kernel
theorem dL_isAhead_334 : decode cL_isAhead 334 = .ok (.iconst 1, 1) := by decide +kernel
theorem dL_isAhead_335 : decode cL_isAhead 335 = .ok (.iconst 5, 1) := by decide +kernel
theorem dL_isAhead_336 : decode cL_isAhead 336 = .ok (.invokevirtual 37, 3) := by decide +kernel
theorem dL_isAhead_339 : decode cL_isAhead 339 = .ok (.bipush (-2), 2) := by decide +kernel
theorem dL_isAhead_341 : decode cL_isAhead 341 = .ok (.if_icmp .eq 5, 3) := by decide +kernel
theorem dL_isAhead_344 : decode cL_isAhead 344 = .ok (.iconst 0, 1) := by decide +kernel
theorem dL_isAhead_345 : decode cL_isAhead 345 = .ok (.ireturn, 1) := by decide +kernel
theorem dL_isAhead_346 : decode cL_isAhead 346 = .ok (.aload_n 2, 1) := by decide +kernel
theorem dL_isAhead_347 : decode cL_isAhead 347 = .ok (.aload 6, 2) := by decide +kernel
theorem dL_isAhead_349 : decode cL_isAhead 349 = .ok (.invokestatic 27, 3) := by decide +kernel
theorem dL_isAhead_352 : decode cL_isAhead 352 = .ok (.aload_n 3, 1) := by decide +kernel
theorem dL_isAhead_353 : decode cL_isAhead 353 = .ok (.aload 7, 2) := by decide +kernel
theorem dL_isAhead_355 : decode cL_isAhead 355 = .ok (.invokestatic 27, 3) := by decide +kernel
theorem dL_isAhead_358 : decode cL_isAhead 358 = .ok (.aload 4, 2) := by decide +kernel
theorem dL_isAhead_360 : decode cL_isAhead 360 = .ok (.aload 8, 2) := by decide +kernel
theorem dL_isAhead_362 : decode cL_isAhead 362 = .ok (.invokestatic 27, 3) := by decide +kernel
theorem dL_isAhead_365 : decode cL_isAhead 365 = .ok (.aload 5, 2) := by decide +kernel
theorem dL_isAhead_367 : decode cL_isAhead 367 = .ok (.aload 9, 2) := by decide +kernel
theorem dL_isAhead_369 : decode cL_isAhead 369 = .ok (.invokestatic 27, 3) := by decide +kernel
theorem dL_isAhead_372 : decode cL_isAhead 372 = .ok (.iconst 0, 1) := by decide +kernel
theorem dL_isAhead_373 : decode cL_isAhead 373 = .ok (.istore 12, 2) := by decide +kernel
theorem dL_isAhead_375 : decode cL_isAhead 375 = .ok (.aload 5, 2) := by decide +kernel
theorem dL_isAhead_377 : decode cL_isAhead 377 = .ok (.iconst 0, 1) := by decide +kernel
theorem dL_isAhead_378 : decode cL_isAhead 378 = .ok (.iaload, 1) := by decide +kernel
theorem dL_isAhead_379 : decode cL_isAhead 379 = .ok (.ifCond .le 47, 3) := by decide +kernel
theorem dL_isAhead_382 : decode cL_isAhead 382 = .ok (.aload 9, 2) := by decide +kernel
theorem dL_isAhead_384 : decode cL_isAhead 384 = .ok (.iconst 0, 1) := by decide +kernel
theorem dL_isAhead_385 : decode cL_isAhead 385 = .ok (.iaload, 1) := by decide +kernel
theorem dL_isAhead_386 : decode cL_isAhead 386 = .ok (.aload 5, 2) := by decide +kernel
theorem dL_isAhead_388 : decode cL_isAhead 388 = .ok (.iconst 0, 1) := by decide +kernel
theorem dL_isAhead_389 : decode cL_isAhead 389 = .ok (.iaload, 1) := by decide +kernel
theorem dL_isAhead_390 : decode cL_isAhead 390 = .ok (.if_icmp .lt 36, 3) := by decide +kernel
theorem dL_isAhead_393 : decode cL_isAhead 393 = .ok (.aload 6, 2) := by decide +kernel
theorem dL_isAhead_395 : decode cL_isAhead 395 = .ok (.bipush 15, 2) := by decide +kernel
theorem dL_isAhead_397 : decode cL_isAhead 397 = .ok (.iaload, 1) := by decide +kernel
theorem dL_isAhead_398 : decode cL_isAhead 398 = .ok (.ifCond .ne 28, 3) := by decide +kernel
theorem dL_isAhead_401 : decode cL_isAhead 401 = .ok (.iload 12, 2) := by decide +kernel
theorem dL_isAhead_403 : decode cL_isAhead 403 = .ok (.sipush 500, 3) := by decide +kernel
theorem dL_isAhead_406 : decode cL_isAhead 406 = .ok (.if_icmp .ge 20, 3) := by decide +kernel
theorem dL_isAhead_409 : decode cL_isAhead 409 = .ok (.aload 6, 2) := by decide +kernel
theorem dL_isAhead_411 : decode cL_isAhead 411 = .ok (.aload 7, 2) := by decide +kernel
theorem dL_isAhead_413 : decode cL_isAhead 413 = .ok (.aload 8, 2) := by decide +kernel
theorem dL_isAhead_415 : decode cL_isAhead 415 = .ok (.aload 9, 2) := by decide +kernel
theorem dL_isAhead_417 : decode cL_isAhead 417 = .ok (.invokestatic 23, 3) := by decide +kernel
theorem dL_isAhead_420 : decode cL_isAhead 420 = .ok (.iinc 12 1, 3) := by decide +kernel
theorem dL_isAhead_423 : decode cL_isAhead 423 = .ok (.goto (-48), 3) := by decide +kernel
end
section
theorem dL_isAhead_426 : decode cL_isAhead 426 = .ok (.aload_n 0, 1) := by decide +kernel
theorem dL_isAhead_427 : decode cL_isAhead 427 = .ok (.invokevirtual 41, 3) := by decide +kernel
theorem dL_isAhead_430 : decode cL_isAhead 430 = .ok (.aload 9, 2) := by decide +kernel
theorem dL_isAhead_432 : decode cL_isAhead 432 = .ok (.iconst 0, 1) := by decide +kernel
theorem dL_isAhead_433 : decode cL_isAhead 433 = .ok (.iaload, 1) := by decide +kernel
theorem dL_isAhead_434 : decode cL_isAhead 434 = .ok (.aload 5, 2) := by decide +kernel
theorem dL_isAhead_436 : decode cL_isAhead 436 = .ok (.iconst 0, 1) := by decide +kernel
theorem dL_isAhead_437 : decode cL_isAhead 437 = .ok (.iaload, 1) := by decide +kernel
theorem dL_isAhead_438 : decode cL_isAhead 438 = .ok (.if_icmp .ge 8, 3) := by decide +kernel
theorem dL_isAhead_441 : decode cL_isAhead 441 = .ok (.iload 12, 2) := by decide +kernel
theorem dL_isAhead_443 : decode cL_isAhead 443 = .ok (.goto 5, 3) := by decide +kernel
theorem dL_isAhead_446 : decode cL_isAhead 446 = .ok (.bipush (-5), 2) := by decide +kernel
theorem dL_isAhead_448 : decode cL_isAhead 448 = .ok (.if_icmp .ne 7, 3) := by decide +kernel
theorem dL_isAhead_451 : decode cL_isAhead 451 = .ok (.iconst 1, 1) := by decide +kernel
theorem dL_isAhead_452 : decode cL_isAhead 452 = .ok (.goto 4, 3) := by decide +kernel
theorem dL_isAhead_455 : decode cL_isAhead 455 = .ok (.iconst 0, 1) := by decide +kernel
theorem dL_isAhead_456 : decode cL_isAhead 456 = .ok (.ireturn, 1) := by decide +kernel
theorem dL_isSo_0 : decode cL_isSo 0 = .ok (.iconst 0, 1) := by decide +kernel
theorem dL_isSo_1 : decode cL_isSo 1 = .ok (.istore 5, 2) := by decide +kernel
theorem dL_isSo_3 : decode cL_isSo 3 = .ok (.iconst 0, 1) := by decide +kernel
theorem dL_isSo_4 : decode cL_isSo 4 = .ok (.istore 6, 2) := by decide +kernel
theorem dL_isSo_6 : decode cL_isSo 6 = .ok (.iload 6, 2) := by decide +kernel
theorem dL_isSo_8 : decode cL_isSo 8 = .ok (.bipush 8, 2) := by decide +kernel
theorem dL_isSo_10 : decode cL_isSo 10 = .ok (.if_icmp .ge 263, 3) := by decide +kernel
theorem dL_isSo_13 : decode cL_isSo 13 = .ok (.iconst 0, 1) := by decide +kernel
theorem dL_isSo_14 : decode cL_isSo 14 = .ok (.istore 7, 2) := by decide +kernel
theorem dL_isSo_16 : decode cL_isSo 16 = .ok (.iconst 0, 1) := by decide +kernel
theorem dL_isSo_17 : decode cL_isSo 17 = .ok (.istore 8, 2) := by decide +kernel
theorem dL_isSo_19 : decode cL_isSo 19 = .ok (.iconst 0, 1) := by decide +kernel
theorem dL_isSo_20 : decode cL_isSo 20 = .ok (.istore 9, 2) := by decide +kernel
theorem dL_isSo_22 : decode cL_isSo 22 = .ok (.iconst 0, 1) := by decide +kernel
theorem dL_isSo_23 : decode cL_isSo 23 = .ok (.istore 10, 2) := by decide +kernel
theorem dL_isSo_25 : decode cL_isSo 25 = .ok (.iload 10, 2) := by decide +kernel
theorem dL_isSo_27 : decode cL_isSo 27 = .ok (.bipush 16, 2) := by decide +kernel
theorem dL_isSo_29 : decode cL_isSo 29 = .ok (.if_icmp .ge 60, 3) := by decide +kernel
theorem dL_isSo_32 : decode cL_isSo 32 = .ok (.aload_n 0, 1) := by decide +kernel
theorem dL_isSo_33 : decode cL_isSo 33 = .ok (.iload 6, 2) := by decide +kernel
theorem dL_isSo_35 : decode cL_isSo 35 = .ok (.iload 10, 2) := by decide +kernel
theorem dL_isSo_37 : decode cL_isSo 37 = .ok (.invokevirtual 49, 3) := by decide +kernel
theorem dL_isSo_40 : decode cL_isSo 40 = .ok (.aload_n 2, 1) := by decide +kernel
theorem dL_isSo_41 : decode cL_isSo 41 = .ok (.aload_n 3, 1) := by decide +kernel
theorem dL_isSo_42 : decode cL_isSo 42 = .ok (.iload 6, 2) := by decide +kernel
theorem dL_isSo_44 : decode cL_isSo 44 = .ok (.iload 10, 2) := by decide +kernel
theorem dL_isSo_46 : decode cL_isSo 46 = .ok (.invokestatic 9, 3) := by decide +kernel
theorem dL_isSo_49 : decode cL_isSo 49 = .ok (.if_icmp .eq 5, 3) := by decide +kernel
theorem dL_isSo_52 : decode cL_isSo 52 = .ok (.iconst 0, 1) := by decide +kernel
theorem dL_isSo_53 : decode cL_isSo 53 = .ok (.ireturn, 1) := by decide +kernel
theorem dL_isSo_54 : decode cL_isSo 54 = .ok (.iload 7, 2) := by decide +kernel
theorem dL_isSo_56 : decode cL_isSo 56 = .ok (.iload 10, 2) := by decide +kernel
theorem dL_isSo_58 : decode cL_isSo 58 = .ok (.bipush 12, 2) := by decide +kernel
theorem dL_isSo_60 : decode cL_isSo 60 = .ok (.if_icmp .ge 19, 3) := by decide +kernel
theorem dL_isSo_63 : decode cL_isSo 63 = .ok (.aload_n 2, 1) := by decide +kernel
theorem dL_isSo_64 : decode cL_isSo 64 = .ok (.aload_n 3, 1) := by decide +kernel
theorem dL_isSo_65 : decode cL_isSo 65 = .ok (.iload 6, 2) := by decide +kernel
theorem dL_isSo_67 : decode cL_isSo 67 = .ok (.iload 10, 2) := by decide +kernel
theorem dL_isSo_69 : decode cL_isSo 69 = .ok (.invokestatic 9, 3) := by decide +kernel
theorem dL_isSo_72 : decode cL_isSo 72 = .ok (.ifCond .eq 7, 3) := by decide +kernel
theorem dL_isSo_75 : decode cL_isSo 75 = .ok (.iconst 1, 1) := by decide +kernel
theorem dL_isSo_76 : decode cL_isSo 76 = .ok (.goto 4, 3) := by decide +kernel
theorem dL_isSo_79 : decode cL_isSo 79 = .ok (.iconst 0, 1) := by decide +kernel
theorem dL_isSo_80 : decode cL_isSo 80 = .ok (.iadd, 1) := by decide +kernel
theorem dL_isSo_81 : decode cL_isSo 81 = .ok (.istore 7, 2) := by decide +kernel
theorem dL_isSo_83 : decode cL_isSo 83 = .ok (.iinc 10 1, 3) := by decide +kernel
theorem dL_isSo_86 : decode cL_isSo 86 = .ok (.goto (-61), 3) := by decide +kernel
theorem dL_isSo_89 : decode cL_isSo 89 = .ok (.iconst 0, 1) := by decide +kernel
theorem dL_isSo_90 : decode cL_isSo 90 = .ok (.istore 10, 2) := by decide +kernel
theorem dL_isSo_92 : decode cL_isSo 92 = .ok (.iload 10, 2) := by decide +kernel
theorem dL_isSo_94 : decode cL_isSo 94 = .ok (.iconst 4, 1) := by decide +kernel
theorem dL_isSo_95 : decode cL_isSo 95 = .ok (.if_icmp .ge 31, 3) := by decide +kernel
theorem dL_isSo_98 : decode cL_isSo 98 = .ok (.iload 8, 2) := by decide +kernel
theorem dL_isSo_100 : decode cL_isSo 100 = .ok (.aload_n 1, 1) := by decide +kernel
theorem dL_isSo_101 : decode cL_isSo 101 = .ok (.iload 10, 2) := by decide +kernel
theorem dL_isSo_103 : decode cL_isSo 103 = .ok (.iaload, 1) := by decide +kernel
theorem dL_isSo_104 : decode cL_isSo 104 = .ok (.iload 6, 2) := by decide +kernel
theorem dL_isSo_106 : decode cL_isSo 106 = .ok (.if_icmp .ne 10, 3) := by decide +kernel
theorem dL_isSo_109 : decode cL_isSo 109 = .ok (.iconst 1, 1) := by decide +kernel
theorem dL_isSo_110 : decode cL_isSo 110 = .ok (.iload 10, 2) := by decide +kernel
theorem dL_isSo_112 : decode cL_isSo 112 = .ok (.ishl, 1) := by decide +kernel
theorem dL_isSo_113 : decode cL_isSo 113 = .ok (.goto 4, 3) := by decide +kernel
theorem dL_isSo_116 : decode cL_isSo 116 = .ok (.iconst 0, 1) := by decide +kernel
theorem dL_isSo_117 : decode cL_isSo 117 = .ok (.ior, 1) := by decide +kernel
theorem dL_isSo_118 : decode cL_isSo 118 = .ok (.istore 8, 2) := by decide +kernel
theorem dL_isSo_120 : decode cL_isSo 120 = .ok (.iinc 10 1, 3) := by decide +kernel
theorem dL_isSo_123 : decode cL_isSo 123 = .ok (.goto (-31), 3) := by decide +kernel
theorem dL_isSo_126 : decode cL_isSo 126 = .ok (.iconst 0, 1) := by decide +kernel
theorem dL_isSo_127 : decode cL_isSo 127 = .ok (.istore 10, 2) := by decide +kernel
theorem dL_isSo_129 : decode cL_isSo 129 = .ok (.iload 10, 2) := by decide +kernel
theorem dL_isSo_131 : decode cL_isSo 131 = .ok (.aload 4, 2) := by decide +kernel
theorem dL_isSo_133 : decode cL_isSo 133 = .ok (.iconst 0, 1) := by decide +kernel
theorem dL_isSo_134 : decode cL_isSo 134 = .ok (.iaload, 1) := by decide +kernel
theorem dL_isSo_135 : decode cL_isSo 135 = .ok (.if_icmp .ge 33, 3) := by decide +kernel
theorem dL_isSo_138 : decode cL_isSo 138 = .ok (.iload 9, 2) := by decide +kernel
theorem dL_isSo_140 : decode cL_isSo 140 = .ok (.aload 4, 2) := by decide +kernel
theorem dL_isSo_142 : decode cL_isSo 142 = .ok (.iconst 2, 1) := by decide +kernel
theorem dL_isSo_143 : decode cL_isSo 143 = .ok (.iconst 3, 1) := by decide +kernel
theorem dL_isSo_144 : decode cL_isSo 144 = .ok (.iload 10, 2) := by decide +kernel
theorem dL_isSo_146 : decode cL_isSo 146 = .ok (.imul, 1) := by decide +kernel
theorem dL_isSo_147 : decode cL_isSo 147 = .ok (.iadd, 1) := by decide +kernel
theorem dL_isSo_148 : decode cL_isSo 148 = .ok (.iaload, 1) := by decide +kernel
theorem dL_isSo_149 : decode cL_isSo 149 = .ok (.iload 6, 2) := by decide +kernel
theorem dL_isSo_151 : decode cL_isSo 151 = .ok (.if_icmp .ne 7, 3) := by decide +kernel
theorem dL_isSo_154 : decode cL_isSo 154 = .ok (.iconst 1, 1) := by decide +kernel
theorem dL_isSo_155 : decode cL_isSo 155 = .ok (.goto 4, 3) := by decide +kernel
theorem dL_isSo_158 : decode cL_isSo 158 = .ok (.iconst 0, 1) := by decide +kernel
theorem dL_isSo_159 : decode cL_isSo 159 = .ok (.iadd, 1) := by decide +kernel
theorem dL_isSo_160 : decode cL_isSo 160 = .ok (.istore 9, 2) := by decide +kernel
theorem dL_isSo_162 : decode cL_isSo 162 = .ok (.iinc 10 1, 3) := by decide +kernel
theorem dL_isSo_165 : decode cL_isSo 165 = .ok (.goto (-36), 3) := by decide +kernel
theorem dL_isSo_168 : decode cL_isSo 168 = .ok (.iload 5, 2) := by decide +kernel
theorem dL_isSo_170 : decode cL_isSo 170 = .ok (.aload_n 1, 1) := by decide +kernel
theorem dL_isSo_171 : decode cL_isSo 171 = .ok (.iconst 4, 1) := by decide +kernel
theorem dL_isSo_172 : decode cL_isSo 172 = .ok (.iload 6, 2) := by decide +kernel
theorem dL_isSo_174 : decode cL_isSo 174 = .ok (.iadd, 1) := by decide +kernel
theorem dL_isSo_175 : decode cL_isSo 175 = .ok (.iaload, 1) := by decide +kernel
theorem dL_isSo_176 : decode cL_isSo 176 = .ok (.iadd, 1) := by decide +kernel
theorem dL_isSo_177 : decode cL_isSo 177 = .ok (.istore 5, 2) := by decide +kernel
theorem dL_isSo_179 : decode cL_isSo 179 = .ok (.aload_n 0, 1) := by decide +kernel
theorem dL_isSo_180 : decode cL_isSo 180 = .ok (.iload 6, 2) := by decide +kernel
theorem dL_isSo_182 : decode cL_isSo 182 = .ok (.iconst 0, 1) := by decide +kernel
theorem dL_isSo_183 : decode cL_isSo 183 = .ok (.invokevirtual 51, 3) := by decide +kernel
theorem dL_isSo_186 : decode cL_isSo 186 = .ok (.aload_n 1, 1) := by decide +kernel
theorem dL_isSo_187 : decode cL_isSo 187 = .ok (.iconst 4, 1) := by decide +kernel
theorem dL_isSo_188 : decode cL_isSo 188 = .ok (.iload 6, 2) := by decide +kernel
theorem dL_isSo_190 : decode cL_isSo 190 = .ok (.iadd, 1) := by decide +kernel
theorem dL_isSo_191 : decode cL_isSo 191 = .ok (.iaload, 1) := by decide +kernel
theorem dL_isSo_192 : decode cL_isSo 192 = .ok (.if_icmp .ne 73, 3) := by decide +kernel
theorem dL_isSo_195 : decode cL_isSo 195 = .ok (.aload_n 0, 1) := by decide +kernel
theorem dL_isSo_196 : decode cL_isSo 196 = .ok (.iload 6, 2) := by decide +kernel
theorem dL_isSo_198 : decode cL_isSo 198 = .ok (.iconst 1, 1) := by decide +kernel
theorem dL_isSo_199 : decode cL_isSo 199 = .ok (.invokevirtual 51, 3) := by decide +kernel
theorem dL_isSo_202 : decode cL_isSo 202 = .ok (.iload 8, 2) := by decide +kernel
theorem dL_isSo_204 : decode cL_isSo 204 = .ok (.if_icmp .ne 61, 3) := by decide +kernel
theorem dL_isSo_207 : decode cL_isSo 207 = .ok (.aload_n 0, 1) := by decide +kernel
theorem dL_isSo_208 : decode cL_isSo 208 = .ok (.iload 6, 2) := by decide +kernel
theorem dL_isSo_210 : decode cL_isSo 210 = .ok (.iconst 2, 1) := by decide +kernel
theorem dL_isSo_211 : decode cL_isSo 211 = .ok (.invokevirtual 51, 3) := by decide +kernel
theorem dL_isSo_214 : decode cL_isSo 214 = .ok (.iload 7, 2) := by decide +kernel
theorem dL_isSo_216 : decode cL_isSo 216 = .ok (.if_icmp .ne 49, 3) := by decide +kernel
theorem dL_isSo_219 : decode cL_isSo 219 = .ok (.aload_n 0, 1) := by decide +kernel
theorem dL_isSo_220 : decode cL_isSo 220 = .ok (.iload 6, 2) := by decide +kernel
theorem dL_isSo_222 : decode cL_isSo 222 = .ok (.iconst 3, 1) := by decide +kernel
theorem dL_isSo_223 : decode cL_isSo 223 = .ok (.invokevirtual 51, 3) := by decide +kernel
theorem dL_isSo_226 : decode cL_isSo 226 = .ok (.iload 9, 2) := by decide +kernel
theorem dL_isSo_228 : decode cL_isSo 228 = .ok (.if_icmp .ne 37, 3) := by decide +kernel
theorem dL_isSo_231 : decode cL_isSo 231 = .ok (.aload_n 0, 1) := by decide +kernel
theorem dL_isSo_232 : decode cL_isSo 232 = .ok (.iload 6, 2) := by decide +kernel
theorem dL_isSo_234 : decode cL_isSo 234 = .ok (.iconst 4, 1) := by decide +kernel
theorem dL_isSo_235 : decode cL_isSo 235 = .ok (.invokevirtual 51, 3) := by decide +kernel
theorem dL_isSo_238 : decode cL_isSo 238 = .ok (.aload_n 1, 1) := by decide +kernel
theorem dL_isSo_239 : decode cL_isSo 239 = .ok (.bipush 20, 2) := by decide +kernel
theorem dL_isSo_241 : decode cL_isSo 241 = .ok (.iload 6, 2) := by decide +kernel
theorem dL_isSo_243 : decode cL_isSo 243 = .ok (.iadd, 1) := by decide +kernel
theorem dL_isSo_244 : decode cL_isSo 244 = .ok (.iaload, 1) := by decide +kernel
theorem dL_isSo_245 : decode cL_isSo 245 = .ok (.if_icmp .ne 20, 3) := by decide +kernel
theorem dL_isSo_248 : decode cL_isSo 248 = .ok (.aload_n 0, 1) := by decide +kernel
theorem dL_isSo_249 : decode cL_isSo 249 = .ok (.iload 6, 2) := by decide +kernel
theorem dL_isSo_251 : decode cL_isSo 251 = .ok (.iconst 5, 1) := by decide +kernel
theorem dL_isSo_252 : decode cL_isSo 252 = .ok (.invokevirtual 51, 3) := by decide +kernel
theorem dL_isSo_255 : decode cL_isSo 255 = .ok (.aload_n 1, 1) := by decide +kernel
theorem dL_isSo_256 : decode cL_isSo 256 = .ok (.bipush 28, 2) := by decide +kernel
theorem dL_isSo_258 : decode cL_isSo 258 = .ok (.iload 6, 2) := by decide +kernel
theorem dL_isSo_260 : decode cL_isSo 260 = .ok (.iadd, 1) := by decide +kernel
theorem dL_isSo_261 : decode cL_isSo 261 = .ok (.iaload, 1) := by decide +kernel
theorem dL_isSo_262 : decode cL_isSo 262 = .ok (.if_icmp .eq 5, 3) := by decide +kernel
theorem dL_isSo_265 : decode cL_isSo 265 = .ok (.iconst 0, 1) := by decide +kernel
theorem dL_isSo_266 : decode cL_isSo 266 = .ok (.ireturn, 1) := by decide +kernel
theorem dL_isSo_267 : decode cL_isSo 267 = .ok (.iinc 6 1, 3) := by decide +kernel
theorem dL_isSo_270 : decode cL_isSo 270 = .ok (.goto (-264), 3) := by decide +kernel
theorem dL_isSo_273 : decode cL_isSo 273 = .ok (.iconst 0, 1) := by decide +kernel
theorem dL_isSo_274 : decode cL_isSo 274 = .ok (.istore 6, 2) := by decide +kernel
theorem dL_isSo_276 : decode cL_isSo 276 = .ok (.iload 6, 2) := by decide +kernel
theorem dL_isSo_278 : decode cL_isSo 278 = .ok (.iconst 4, 1) := by decide +kernel
theorem dL_isSo_279 : decode cL_isSo 279 = .ok (.if_icmp .ge 24, 3) := by decide +kernel
theorem dL_isSo_282 : decode cL_isSo 282 = .ok (.aload_n 0, 1) := by decide +kernel
theorem dL_isSo_283 : decode cL_isSo 283 = .ok (.iload 6, 2) := by decide +kernel
theorem dL_isSo_285 : decode cL_isSo 285 = .ok (.invokevirtual 54, 3) := by decide +kernel
theorem dL_isSo_288 : decode cL_isSo 288 = .ok (.aload_n 1, 1) := by decide +kernel
theorem dL_isSo_289 : decode cL_isSo 289 = .ok (.iload 6, 2) := by decide +kernel
theorem dL_isSo_291 : decode cL_isSo 291 = .ok (.iaload, 1) := by decide +kernel
theorem dL_isSo_292 : decode cL_isSo 292 = .ok (.if_icmp .eq 5, 3) := by decide +kernel
theorem dL_isSo_295 : decode cL_isSo 295 = .ok (.iconst 0, 1) := by decide +kernel
theorem dL_isSo_296 : decode cL_isSo 296 = .ok (.ireturn, 1) := by decide +kernel
theorem dL_isSo_297 : decode cL_isSo 297 = .ok (.iinc 6 1, 3) := by decide +kernel
theorem dL_isSo_300 : decode cL_isSo 300 = .ok (.goto (-24), 3) := by decide +kernel
theorem dL_isSo_303 : decode cL_isSo 303 = .ok (.iconst 0, 1) := by decide +kernel
theorem dL_isSo_304 : decode cL_isSo 304 = .ok (.istore 6, 2) := by decide +kernel
theorem dL_isSo_306 : decode cL_isSo 306 = .ok (.iload 6, 2) := by decide +kernel
theorem dL_isSo_308 : decode cL_isSo 308 = .ok (.iconst 3, 1) := by decide +kernel
theorem dL_isSo_309 : decode cL_isSo 309 = .ok (.aload 4, 2) := by decide +kernel
theorem dL_isSo_311 : decode cL_isSo 311 = .ok (.iconst 0, 1) := by decide +kernel
theorem dL_isSo_312 : decode cL_isSo 312 = .ok (.iaload, 1) := by decide +kernel
theorem dL_isSo_313 : decode cL_isSo 313 = .ok (.imul, 1) := by decide +kernel
theorem dL_isSo_314 : decode cL_isSo 314 = .ok (.if_icmp .ge 40, 3) := by decide +kernel
theorem dL_isSo_317 : decode cL_isSo 317 = .ok (.aload_n 0, 1) := by decide +kernel
theorem dL_isSo_318 : decode cL_isSo 318 = .ok (.aload 4, 2) := by decide +kernel
theorem dL_isSo_320 : decode cL_isSo 320 = .ok (.iconst 0, 1) := by decide +kernel
theorem dL_isSo_321 : decode cL_isSo 321 = .ok (.iaload, 1) := by decide +kernel
theorem dL_isSo_322 : decode cL_isSo 322 = .ok (.iconst 1, 1) := by decide +kernel
theorem dL_isSo_323 : decode cL_isSo 323 = .ok (.isub, 1) := by decide +kernel
theorem dL_isSo_324 : decode cL_isSo 324 = .ok (.iload 6, 2) := by decide +kernel
theorem dL_isSo_326 : decode cL_isSo 326 = .ok (.iconst 3, 1) := by decide +kernel
theorem dL_isSo_327 : decode cL_isSo 327 = .ok (.idiv, 1) := by decide +kernel
theorem dL_isSo_328 : decode cL_isSo 328 = .ok (.isub, 1) := by decide +kernel
theorem dL_isSo_329 : decode cL_isSo 329 = .ok (.iload 6, 2) := by decide +kernel
theorem dL_isSo_331 : decode cL_isSo 331 = .ok (.iconst 3, 1) := by decide +kernel
theorem dL_isSo_332 : decode cL_isSo 332 = .ok (.irem, 1) := by decide +kernel
theorem dL_isSo_333 : decode cL_isSo 333 = .ok (.invokevirtual 57, 3) := by decide +kernel
theorem dL_isSo_336 : decode cL_isSo 336 = .ok (.aload 4, 2) := by decide +kernel
theorem dL_isSo_338 : decode cL_isSo 338 = .ok (.iconst 1, 1) := by decide +kernel
theorem dL_isSo_339 : decode cL_isSo 339 = .ok (.iload 6, 2) := by decide +kernel
theorem dL_isSo_341 : decode cL_isSo 341 = .ok (.iadd, 1) := by decide +kernel
theorem dL_isSo_342 : decode cL_isSo 342 = .ok (.iaload, 1) := by decide +kernel
theorem dL_isSo_343 : decode cL_isSo 343 = .ok (.if_icmp .eq 5, 3) := by decide +kernel
theorem dL_isSo_346 : decode cL_isSo 346 = .ok (.iconst 0, 1) := by decide +kernel
theorem dL_isSo_347 : decode cL_isSo 347 = .ok (.ireturn, 1) := by decide +kernel
theorem dL_isSo_348 : decode cL_isSo 348 = .ok (.iinc 6 1, 3) := by decide +kernel
theorem dL_isSo_351 : decode cL_isSo 351 = .ok (.goto (-45), 3) := by decide +kernel
theorem dL_isSo_354 : decode cL_isSo 354 = .ok (.iconst 0, 1) := by decide +kernel
theorem dL_isSo_355 : decode cL_isSo 355 = .ok (.istore 6, 2) := by decide +kernel
theorem dL_isSo_357 : decode cL_isSo 357 = .ok (.iload 6, 2) := by decide +kernel
theorem dL_isSo_359 : decode cL_isSo 359 = .ok (.bipush 64, 2) := by decide +kernel
theorem dL_isSo_361 : decode cL_isSo 361 = .ok (.if_icmp .ge 143, 3) := by decide +kernel
theorem dL_isSo_364 : decode cL_isSo 364 = .ok (.bipush (-5), 2) := by decide +kernel
theorem dL_isSo_366 : decode cL_isSo 366 = .ok (.istore 7, 2) := by decide +kernel
theorem dL_isSo_368 : decode cL_isSo 368 = .ok (.iconst 3, 1) := by decide +kernel
theorem dL_isSo_369 : decode cL_isSo 369 = .ok (.istore 8, 2) := by decide +kernel
theorem dL_isSo_371 : decode cL_isSo 371 = .ok (.iload 8, 2) := by decide +kernel
theorem dL_isSo_373 : decode cL_isSo 373 = .ok (.ifCond .lt 61, 3) := by decide +kernel
theorem dL_isSo_376 : decode cL_isSo 376 = .ok (.iload 8, 2) := by decide +kernel
theorem dL_isSo_378 : decode cL_isSo 378 = .ok (.iload 6, 2) := by decide +kernel
theorem dL_isSo_380 : decode cL_isSo 380 = .ok (.bipush 16, 2) := by decide +kernel
theorem dL_isSo_382 : decode cL_isSo 382 = .ok (.idiv, 1) := by decide +kernel
theorem dL_isSo_383 : decode cL_isSo 383 = .ok (.if_icmp .eq 41, 3) := by decide +kernel
theorem dL_isSo_386 : decode cL_isSo 386 = .ok (.aload_n 1, 1) := by decide +kernel
theorem dL_isSo_387 : decode cL_isSo 387 = .ok (.iload 8, 2) := by decide +kernel
theorem dL_isSo_389 : decode cL_isSo 389 = .ok (.iaload, 1) := by decide +kernel
theorem dL_isSo_390 : decode cL_isSo 390 = .ok (.aload_n 1, 1) := by decide +kernel
theorem dL_isSo_391 : decode cL_isSo 391 = .ok (.iload 6, 2) := by decide +kernel
theorem dL_isSo_393 : decode cL_isSo 393 = .ok (.bipush 16, 2) := by decide +kernel
theorem dL_isSo_395 : decode cL_isSo 395 = .ok (.idiv, 1) := by decide +kernel
theorem dL_isSo_396 : decode cL_isSo 396 = .ok (.iaload, 1) := by decide +kernel
theorem dL_isSo_397 : decode cL_isSo 397 = .ok (.if_icmp .eq 13, 3) := by decide +kernel
theorem dL_isSo_400 : decode cL_isSo 400 = .ok (.iload 6, 2) := by decide +kernel
theorem dL_isSo_402 : decode cL_isSo 402 = .ok (.bipush 16, 2) := by decide +kernel
theorem dL_isSo_404 : decode cL_isSo 404 = .ok (.irem, 1) := by decide +kernel
theorem dL_isSo_405 : decode cL_isSo 405 = .ok (.bipush 11, 2) := by decide +kernel
theorem dL_isSo_407 : decode cL_isSo 407 = .ok (.if_icmp .le 17, 3) := by decide +kernel
theorem dL_isSo_410 : decode cL_isSo 410 = .ok (.bipush 16, 2) := by decide +kernel
theorem dL_isSo_412 : decode cL_isSo 412 = .ok (.iload 8, 2) := by decide +kernel
theorem dL_isSo_414 : decode cL_isSo 414 = .ok (.imul, 1) := by decide +kernel
theorem dL_isSo_415 : decode cL_isSo 415 = .ok (.iload 6, 2) := by decide +kernel
theorem dL_isSo_417 : decode cL_isSo 417 = .ok (.bipush 16, 2) := by decide +kernel
theorem dL_isSo_419 : decode cL_isSo 419 = .ok (.irem, 1) := by decide +kernel
theorem dL_isSo_420 : decode cL_isSo 420 = .ok (.iadd, 1) := by decide +kernel
theorem dL_isSo_421 : decode cL_isSo 421 = .ok (.goto 5, 3) := by decide +kernel
theorem dL_isSo_424 : decode cL_isSo 424 = .ok (.iload 7, 2) := by decide +kernel
theorem dL_isSo_426 : decode cL_isSo 426 = .ok (.istore 7, 2) := by decide +kernel
theorem dL_isSo_428 : decode cL_isSo 428 = .ok (.iinc 8 (-1), 3) := by decide +kernel
theorem dL_isSo_431 : decode cL_isSo 431 = .ok (.goto (-60), 3) := by decide +kernel
theorem dL_isSo_434 : decode cL_isSo 434 = .ok (.aload_n 0, 1) := by decide +kernel
theorem dL_isSo_435 : decode cL_isSo 435 = .ok (.iload 6, 2) := by decide +kernel
theorem dL_isSo_437 : decode cL_isSo 437 = .ok (.iconst 0, 1) := by decide +kernel
theorem dL_isSo_438 : decode cL_isSo 438 = .ok (.invokevirtual 60, 3) := by decide +kernel
theorem dL_isSo_441 : decode cL_isSo 441 = .ok (.aload_n 1, 1) := by decide +kernel
theorem dL_isSo_442 : decode cL_isSo 442 = .ok (.aload_n 2, 1) := by decide +kernel
theorem dL_isSo_443 : decode cL_isSo 443 = .ok (.aload_n 3, 1) := by decide +kernel
theorem dL_isSo_444 : decode cL_isSo 444 = .ok (.iload 6, 2) := by decide +kernel
theorem dL_isSo_446 : decode cL_isSo 446 = .ok (.invokestatic 15, 3) := by decide +kernel
theorem dL_isSo_449 : decode cL_isSo 449 = .ok (.if_icmp .ne 47, 3) := by decide +kernel
theorem dL_isSo_452 : decode cL_isSo 452 = .ok (.aload_n 0, 1) := by decide +kernel
theorem dL_isSo_453 : decode cL_isSo 453 = .ok (.iload 6, 2) := by decide +kernel
theorem dL_isSo_455 : decode cL_isSo 455 = .ok (.iconst 1, 1) := by decide +kernel
theorem dL_isSo_456 : decode cL_isSo 456 = .ok (.invokevirtual 60, 3) := by decide +kernel
theorem dL_isSo_459 : decode cL_isSo 459 = .ok (.aload_n 1, 1) := by decide +kernel
theorem dL_isSo_460 : decode cL_isSo 460 = .ok (.iload 6, 2) := by decide +kernel
theorem dL_isSo_462 : decode cL_isSo 462 = .ok (.bipush 16, 2) := by decide +kernel
theorem dL_isSo_464 : decode cL_isSo 464 = .ok (.idiv, 1) := by decide +kernel
theorem dL_isSo_465 : decode cL_isSo 465 = .ok (.iaload, 1) := by decide +kernel
theorem dL_isSo_466 : decode cL_isSo 466 = .ok (.if_icmp .ne 30, 3) := by decide +kernel
theorem dL_isSo_469 : decode cL_isSo 469 = .ok (.aload_n 0, 1) := by decide +kernel
theorem dL_isSo_470 : decode cL_isSo 470 = .ok (.iload 6, 2) := by decide +kernel
theorem dL_isSo_472 : decode cL_isSo 472 = .ok (.iconst 2, 1) := by decide +kernel
theorem dL_isSo_473 : decode cL_isSo 473 = .ok (.invokevirtual 60, 3) := by decide +kernel
theorem dL_isSo_476 : decode cL_isSo 476 = .ok (.iload 6, 2) := by decide +kernel
theorem dL_isSo_478 : decode cL_isSo 478 = .ok (.bipush 16, 2) := by decide +kernel
theorem dL_isSo_480 : decode cL_isSo 480 = .ok (.irem, 1) := by decide +kernel
theorem dL_isSo_481 : decode cL_isSo 481 = .ok (.if_icmp .ne 15, 3) := by decide +kernel
theorem dL_isSo_484 : decode cL_isSo 484 = .ok (.aload_n 0, 1) := by decide +kernel
theorem dL_isSo_485 : decode cL_isSo 485 = .ok (.iload 6, 2) := by decide +kernel
theorem dL_isSo_487 : decode cL_isSo 487 = .ok (.iconst 3, 1) := by decide +kernel
theorem dL_isSo_488 : decode cL_isSo 488 = .ok (.invokevirtual 60, 3) := by decide +kernel
theorem dL_isSo_491 : decode cL_isSo 491 = .ok (.iload 7, 2) := by decide +kernel
theorem dL_isSo_493 : decode cL_isSo 493 = .ok (.if_icmp .eq 5, 3) := by decide +kernel
theorem dL_isSo_496 : decode cL_isSo 496 = .ok (.iconst 0, 1) := by decide +kernel
theorem dL_isSo_497 : decode cL_isSo 497 = .ok (.ireturn, 1) := by decide +kernel
theorem dL_isSo_498 : decode cL_isSo 498 = .ok (.iinc 6 1, 3) := by decide +kernel
theorem dL_isSo_501 : decode cL_isSo 501 = .ok (.goto (-144), 3) := by decide +kernel
theorem dL_isSo_504 : decode cL_isSo 504 = .ok (.aload_n 0, 1) := by decide +kernel
theorem dL_isSo_505 : decode cL_isSo 505 = .ok (.aload 4, 2) := by decide +kernel
theorem dL_isSo_507 : decode cL_isSo 507 = .ok (.iconst 0, 1) := by decide +kernel
theorem dL_isSo_508 : decode cL_isSo 508 = .ok (.iaload, 1) := by decide +kernel
theorem dL_isSo_509 : decode cL_isSo 509 = .ok (.iconst 0, 1) := by decide +kernel
theorem dL_isSo_510 : decode cL_isSo 510 = .ok (.invokevirtual 57, 3) := by decide +kernel
theorem dL_isSo_513 : decode cL_isSo 513 = .ok (.bipush (-5), 2) := by decide +kernel
theorem dL_isSo_515 : decode cL_isSo 515 = .ok (.if_icmp .ne 129, 3) := by decide +kernel
theorem dL_isSo_518 : decode cL_isSo 518 = .ok (.aload_n 0, 1) := by decide +kernel
theorem dL_isSo_519 : decode cL_isSo 519 = .ok (.iconst 0, 1) := by decide +kernel
theorem dL_isSo_520 : decode cL_isSo 520 = .ok (.invokevirtual 63, 3) := by decide +kernel
theorem dL_isSo_523 : decode cL_isSo 523 = .ok (.aload_n 1, 1) := by decide +kernel
theorem dL_isSo_524 : decode cL_isSo 524 = .ok (.bipush 13, 2) := by decide +kernel
theorem dL_isSo_526 : decode cL_isSo 526 = .ok (.iaload, 1) := by decide +kernel
theorem dL_isSo_527 : decode cL_isSo 527 = .ok (.if_icmp .ne 117, 3) := by decide +kernel
theorem dL_isSo_530 : decode cL_isSo 530 = .ok (.aload_n 0, 1) := by decide +kernel
theorem dL_isSo_531 : decode cL_isSo 531 = .ok (.iconst 1, 1) := by decide +kernel
theorem dL_isSo_532 : decode cL_isSo 532 = .ok (.invokevirtual 63, 3) := by decide +kernel
theorem dL_isSo_535 : decode cL_isSo 535 = .ok (.aload_n 1, 1) := by decide +kernel
theorem dL_isSo_536 : decode cL_isSo 536 = .ok (.bipush 14, 2) := by decide +kernel
theorem dL_isSo_538 : decode cL_isSo 538 = .ok (.iaload, 1) := by decide +kernel
theorem dL_isSo_539 : decode cL_isSo 539 = .ok (.if_icmp .ne 105, 3) := by decide +kernel
theorem dL_isSo_542 : decode cL_isSo 542 = .ok (.aload_n 0, 1) := by decide +kernel
theorem dL_isSo_543 : decode cL_isSo 543 = .ok (.iconst 2, 1) := by decide +kernel
theorem dL_isSo_544 : decode cL_isSo 544 = .ok (.invokevirtual 63, 3) := by decide +kernel
theorem dL_isSo_547 : decode cL_isSo 547 = .ok (.aload 4, 2) := by decide +kernel
theorem dL_isSo_549 : decode cL_isSo 549 = .ok (.iconst 0, 1) := by decide +kernel
theorem dL_isSo_550 : decode cL_isSo 550 = .ok (.iaload, 1) := by decide +kernel
theorem dL_isSo_551 : decode cL_isSo 551 = .ok (.if_icmp .ne 93, 3) := by decide +kernel
theorem dL_isSo_554 : decode cL_isSo 554 = .ok (.aload_n 0, 1) := by decide +kernel
theorem dL_isSo_555 : decode cL_isSo 555 = .ok (.iconst 3, 1) := by decide +kernel
theorem dL_isSo_556 : decode cL_isSo 556 = .ok (.invokevirtual 63, 3) := by decide +kernel
theorem dL_isSo_559 : decode cL_isSo 559 = .ok (.aload_n 1, 1) := by decide +kernel
theorem dL_isSo_560 : decode cL_isSo 560 = .ok (.bipush 15, 2) := by decide +kernel
theorem dL_isSo_562 : decode cL_isSo 562 = .ok (.iaload, 1) := by decide +kernel
theorem dL_isSo_563 : decode cL_isSo 563 = .ok (.if_icmp .ne 81, 3) := by decide +kernel
theorem dL_isSo_566 : decode cL_isSo 566 = .ok (.aload_n 0, 1) := by decide +kernel
theorem dL_isSo_567 : decode cL_isSo 567 = .ok (.iconst 4, 1) := by decide +kernel
theorem dL_isSo_568 : decode cL_isSo 568 = .ok (.invokevirtual 63, 3) := by decide +kernel
theorem dL_isSo_571 : decode cL_isSo 571 = .ok (.aload_n 1, 1) := by decide +kernel
theorem dL_isSo_572 : decode cL_isSo 572 = .ok (.bipush 16, 2) := by decide +kernel
theorem dL_isSo_574 : decode cL_isSo 574 = .ok (.iaload, 1) := by decide +kernel
theorem dL_isSo_575 : decode cL_isSo 575 = .ok (.if_icmp .ne 69, 3) := by decide +kernel
theorem dL_isSo_578 : decode cL_isSo 578 = .ok (.aload_n 0, 1) := by decide +kernel
theorem dL_isSo_579 : decode cL_isSo 579 = .ok (.iconst 5, 1) := by decide +kernel
theorem dL_isSo_580 : decode cL_isSo 580 = .ok (.invokevirtual 63, 3) := by decide +kernel
theorem dL_isSo_583 : decode cL_isSo 583 = .ok (.aload_n 1, 1) := by decide +kernel
theorem dL_isSo_584 : decode cL_isSo 584 = .ok (.bipush 17, 2) := by decide +kernel
theorem dL_isSo_586 : decode cL_isSo 586 = .ok (.iaload, 1) := by decide +kernel
theorem dL_isSo_587 : decode cL_isSo 587 = .ok (.if_icmp .ne 57, 3) := by decide +kernel
theorem dL_isSo_590 : decode cL_isSo 590 = .ok (.aload_n 0, 1) := by decide +kernel
theorem dL_isSo_591 : decode cL_isSo 591 = .ok (.bipush 6, 2) := by decide +kernel
theorem dL_isSo_593 : decode cL_isSo 593 = .ok (.invokevirtual 63, 3) := by decide +kernel
theorem dL_isSo_596 : decode cL_isSo 596 = .ok (.aload_n 1, 1) := by decide +kernel
theorem dL_isSo_597 : decode cL_isSo 597 = .ok (.bipush 18, 2) := by decide +kernel
theorem dL_isSo_599 : decode cL_isSo 599 = .ok (.iaload, 1) := by decide +kernel
theorem dL_isSo_600 : decode cL_isSo 600 = .ok (.if_icmp .ne 44, 3) := by decide +kernel
theorem dL_isSo_603 : decode cL_isSo 603 = .ok (.aload_n 0, 1) := by decide +kernel
theorem dL_isSo_604 : decode cL_isSo 604 = .ok (.bipush 7, 2) := by decide +kernel
theorem dL_isSo_606 : decode cL_isSo 606 = .ok (.invokevirtual 63, 3) := by decide +kernel
theorem dL_isSo_609 : decode cL_isSo 609 = .ok (.aload_n 1, 1) := by decide +kernel
theorem dL_isSo_610 : decode cL_isSo 610 = .ok (.bipush 19, 2) := by decide +kernel
theorem dL_isSo_612 : decode cL_isSo 612 = .ok (.iaload, 1) := by decide +kernel
theorem dL_isSo_613 : decode cL_isSo 613 = .ok (.if_icmp .ne 31, 3) := by decide +kernel
theorem dL_isSo_616 : decode cL_isSo 616 = .ok (.aload_n 0, 1) := by decide +kernel
theorem dL_isSo_617 : decode cL_isSo 617 = .ok (.bipush 8, 2) := by decide +kernel
theorem dL_isSo_619 : decode cL_isSo 619 = .ok (.invokevirtual 63, 3) := by decide +kernel
theorem dL_isSo_622 : decode cL_isSo 622 = .ok (.iload 5, 2) := by decide +kernel
theorem dL_isSo_624 : decode cL_isSo 624 = .ok (.if_icmp .ne 20, 3) := by decide +kernel
theorem dL_isSo_627 : decode cL_isSo 627 = .ok (.aload_n 0, 1) := by decide +kernel
theorem dL_isSo_628 : decode cL_isSo 628 = .ok (.bipush 9, 2) := by decide +kernel
theorem dL_isSo_630 : decode cL_isSo 630 = .ok (.invokevirtual 63, 3) := by decide +kernel
theorem dL_isSo_633 : decode cL_isSo 633 = .ok (.aload_n 1, 1) := by decide +kernel
theorem dL_isSo_634 : decode cL_isSo 634 = .ok (.bipush 12, 2) := by decide +kernel
theorem dL_isSo_636 : decode cL_isSo 636 = .ok (.iaload, 1) := by decide +kernel
theorem dL_isSo_637 : decode cL_isSo 637 = .ok (.if_icmp .ne 7, 3) := by decide +kernel
theorem dL_isSo_640 : decode cL_isSo 640 = .ok (.iconst 1, 1) := by decide +kernel
theorem dL_isSo_641 : decode cL_isSo 641 = .ok (.goto 4, 3) := by decide +kernel
theorem dL_isSo_644 : decode cL_isSo 644 = .ok (.iconst 0, 1) := by decide +kernel
theorem dL_isSo_645 : decode cL_isSo 645 = .ok (.ireturn, 1) := by decide +kernel
theorem dL_puts_0 : decode cL_puts 0 = .ok (.iload_n 2, 1) := by decide +kernel
theorem dL_puts_1 : decode cL_puts 1 = .ok (.iload_n 2, 1) := by decide +kernel
theorem dL_puts_2 : decode cL_puts 2 = .ok (.bipush 14, 2) := by decide +kernel
theorem dL_puts_4 : decode cL_puts 4 = .ok (.ishr, 1) := by decide +kernel
theorem dL_puts_5 : decode cL_puts 5 = .ok (.iconst 3, 1) := by decide +kernel
theorem dL_puts_6 : decode cL_puts 6 = .ok (.iand, 1) := by decide +kernel
theorem dL_puts_7 : decode cL_puts 7 = .ok (.ifCond .ne 8, 3) := by decide +kernel
theorem dL_puts_10 : decode cL_puts 10 = .ok (.bipush 8, 2) := by decide +kernel
theorem dL_puts_12 : decode cL_puts 12 = .ok (.goto 4, 3) := by decide +kernel
theorem dL_puts_15 : decode cL_puts 15 = .ok (.iconst 4, 1) := by decide +kernel
theorem dL_puts_16 : decode cL_puts 16 = .ok (.invokestatic 66, 3) := by decide +kernel
theorem dL_puts_19 : decode cL_puts 19 = .ok (.istore 6, 2) := by decide +kernel
theorem dL_puts_21 : decode cL_puts 21 = .ok (.iload_n 2, 1) := by decide +kernel
theorem dL_puts_22 : decode cL_puts 22 = .ok (.iconst 3, 1) := by decide +kernel
theorem dL_puts_23 : decode cL_puts 23 = .ok (.ishr, 1) := by decide +kernel
theorem dL_puts_24 : decode cL_puts 24 = .ok (.bipush 16, 2) := by decide +kernel
theorem dL_puts_26 : decode cL_puts 26 = .ok (.invokestatic 66, 3) := by decide +kernel
theorem dL_puts_29 : decode cL_puts 29 = .ok (.istore 7, 2) := by decide +kernel
theorem dL_puts_31 : decode cL_puts 31 = .ok (.iload_n 1, 1) := by decide +kernel
theorem dL_puts_32 : decode cL_puts 32 = .ok (.iconst 3, 1) := by decide +kernel
theorem dL_puts_33 : decode cL_puts 33 = .ok (.ishr, 1) := by decide +kernel
theorem dL_puts_34 : decode cL_puts 34 = .ok (.bipush 10, 2) := by decide +kernel
theorem dL_puts_36 : decode cL_puts 36 = .ok (.invokestatic 66, 3) := by decide +kernel
theorem dL_puts_39 : decode cL_puts 39 = .ok (.istore 8, 2) := by decide +kernel
theorem dL_puts_41 : decode cL_puts 41 = .ok (.iload 8, 2) := by decide +kernel
theorem dL_puts_43 : decode cL_puts 43 = .ok (.iconst 1, 1) := by decide +kernel
theorem dL_puts_44 : decode cL_puts 44 = .ok (.if_icmp .le 37, 3) := by decide +kernel
theorem dL_puts_47 : decode cL_puts 47 = .ok (.iload 8, 2) := by decide +kernel
theorem dL_puts_49 : decode cL_puts 49 = .ok (.bipush 6, 2) := by decide +kernel
theorem dL_puts_51 : decode cL_puts 51 = .ok (.if_icmp .ge 30, 3) := by decide +kernel
theorem dL_puts_54 : decode cL_puts 54 = .ok (.iload_n 1, 1) := by decide +kernel
theorem dL_puts_55 : decode cL_puts 55 = .ok (.bipush 7, 2) := by decide +kernel
theorem dL_puts_57 : decode cL_puts 57 = .ok (.ishr, 1) := by decide +kernel
theorem dL_puts_58 : decode cL_puts 58 = .ok (.iload_n 1, 1) := by decide +kernel
theorem dL_puts_59 : decode cL_puts 59 = .ok (.bipush 6, 2) := by decide +kernel
theorem dL_puts_61 : decode cL_puts 61 = .ok (.ishr, 1) := by decide +kernel
theorem dL_puts_62 : decode cL_puts 62 = .ok (.bipush 7, 2) := by decide +kernel
theorem dL_puts_64 : decode cL_puts 64 = .ok (.iand, 1) := by decide +kernel
theorem dL_puts_65 : decode cL_puts 65 = .ok (.ifCond .ne 8, 3) := by decide +kernel
theorem dL_puts_68 : decode cL_puts 68 = .ok (.bipush 100, 2) := by decide +kernel
theorem dL_puts_70 : decode cL_puts 70 = .ok (.goto 5, 3) := by decide +kernel
theorem dL_puts_73 : decode cL_puts 73 = .ok (.bipush 64, 2) := by decide +kernel
theorem dL_puts_75 : decode cL_puts 75 = .ok (.invokestatic 66, 3) := by decide +kernel
theorem dL_puts_78 : decode cL_puts 78 = .ok (.goto 88, 3) := by decide +kernel
theorem dL_puts_81 : decode cL_puts 81 = .ok (.iload 8, 2) := by decide +kernel
theorem dL_puts_83 : decode cL_puts 83 = .ok (.bipush 6, 2) := by decide +kernel
theorem dL_puts_85 : decode cL_puts 85 = .ok (.if_icmp .ne 27, 3) := by decide +kernel
theorem dL_puts_88 : decode cL_puts 88 = .ok (.bipush 10, 2) := by decide +kernel
theorem dL_puts_90 : decode cL_puts 90 = .ok (.iload_n 1, 1) := by decide +kernel
theorem dL_puts_91 : decode cL_puts 91 = .ok (.bipush 7, 2) := by decide +kernel
theorem dL_puts_93 : decode cL_puts 93 = .ok (.ishr, 1) := by decide +kernel
theorem dL_puts_94 : decode cL_puts 94 = .ok (.iconst 4, 1) := by decide +kernel
theorem dL_puts_95 : decode cL_puts 95 = .ok (.invokestatic 66, 3) := by decide +kernel
theorem dL_puts_98 : decode cL_puts 98 = .ok (.imul, 1) := by decide +kernel
theorem dL_puts_99 : decode cL_puts 99 = .ok (.iload_n 1, 1) := by decide +kernel
theorem dL_puts_100 : decode cL_puts 100 = .ok (.bipush 10, 2) := by decide +kernel
theorem dL_puts_102 : decode cL_puts 102 = .ok (.ishr, 1) := by decide +kernel
theorem dL_puts_103 : decode cL_puts 103 = .ok (.bipush 8, 2) := by decide +kernel
theorem dL_puts_105 : decode cL_puts 105 = .ok (.invokestatic 66, 3) := by decide +kernel
theorem dL_puts_108 : decode cL_puts 108 = .ok (.iadd, 1) := by decide +kernel
theorem dL_puts_109 : decode cL_puts 109 = .ok (.goto 57, 3) := by decide +kernel
theorem dL_puts_112 : decode cL_puts 112 = .ok (.iload 8, 2) := by decide +kernel
theorem dL_puts_114 : decode cL_puts 114 = .ok (.bipush 7, 2) := by decide +kernel
theorem dL_puts_116 : decode cL_puts 116 = .ok (.if_icmp .ne 41, 3) := by decide +kernel
theorem dL_puts_119 : decode cL_puts 119 = .ok (.bipush 10, 2) := by decide +kernel
theorem dL_puts_121 : decode cL_puts 121 = .ok (.iload_n 1, 1) := by decide +kernel
theorem dL_puts_122 : decode cL_puts 122 = .ok (.bipush 7, 2) := by decide +kernel
theorem dL_puts_124 : decode cL_puts 124 = .ok (.ishr, 1) := by decide +kernel
theorem dL_puts_125 : decode cL_puts 125 = .ok (.iload_n 1, 1) := by decide +kernel
theorem dL_puts_126 : decode cL_puts 126 = .ok (.bipush 6, 2) := by decide +kernel
theorem dL_puts_128 : decode cL_puts 128 = .ok (.ishr, 1) := by decide +kernel
theorem dL_puts_129 : decode cL_puts 129 = .ok (.bipush 7, 2) := by decide +kernel
theorem dL_puts_131 : decode cL_puts 131 = .ok (.iand, 1) := by decide +kernel
theorem dL_puts_132 : decode cL_puts 132 = .ok (.ifCond .ne 8, 3) := by decide +kernel
theorem dL_puts_135 : decode cL_puts 135 = .ok (.bipush 10, 2) := by decide +kernel
theorem dL_puts_137 : decode cL_puts 137 = .ok (.goto 4, 3) := by decide +kernel
theorem dL_puts_140 : decode cL_puts 140 = .ok (.iconst 4, 1) := by decide +kernel
theorem dL_puts_141 : decode cL_puts 141 = .ok (.invokestatic 66, 3) := by decide +kernel
theorem dL_puts_144 : decode cL_puts 144 = .ok (.imul, 1) := by decide +kernel
theorem dL_puts_145 : decode cL_puts 145 = .ok (.iload_n 1, 1) := by decide +kernel
theorem dL_puts_146 : decode cL_puts 146 = .ok (.bipush 11, 2) := by decide +kernel
theorem dL_puts_148 : decode cL_puts 148 = .ok (.ishr, 1) := by decide +kernel
theorem dL_puts_149 : decode cL_puts 149 = .ok (.iconst 3, 1) := by decide +kernel
theorem dL_puts_150 : decode cL_puts 150 = .ok (.invokestatic 66, 3) := by decide +kernel
theorem dL_puts_153 : decode cL_puts 153 = .ok (.iadd, 1) := by decide +kernel
theorem dL_puts_154 : decode cL_puts 154 = .ok (.goto 12, 3) := by decide +kernel
theorem dL_puts_157 : decode cL_puts 157 = .ok (.iload_n 1, 1) := by decide +kernel
theorem dL_puts_158 : decode cL_puts 158 = .ok (.bipush 7, 2) := by decide +kernel
theorem dL_puts_160 : decode cL_puts 160 = .ok (.ishr, 1) := by decide +kernel
theorem dL_puts_161 : decode cL_puts 161 = .ok (.bipush 100, 2) := by decide +kernel
theorem dL_puts_163 : decode cL_puts 163 = .ok (.invokestatic 66, 3) := by decide +kernel
theorem dL_puts_166 : decode cL_puts 166 = .ok (.istore 9, 2) := by decide +kernel
theorem dL_puts_168 : decode cL_puts 168 = .ok (.iload_n 1, 1) := by decide +kernel
theorem dL_puts_169 : decode cL_puts 169 = .ok (.bipush 7, 2) := by decide +kernel
theorem dL_puts_171 : decode cL_puts 171 = .ok (.iand, 1) := by decide +kernel
theorem dL_puts_172 : decode cL_puts 172 = .ok (.ifCond .ne 15, 3) := by decide +kernel
theorem dL_puts_175 : decode cL_puts 175 = .ok (.iload_n 1, 1) := by decide +kernel
theorem dL_puts_176 : decode cL_puts 176 = .ok (.iconst 4, 1) := by decide +kernel
theorem dL_puts_177 : decode cL_puts 177 = .ok (.ishr, 1) := by decide +kernel
theorem dL_puts_178 : decode cL_puts 178 = .ok (.sipush 1000, 3) := by decide +kernel
theorem dL_puts_181 : decode cL_puts 181 = .ok (.invokestatic 66, 3) := by decide +kernel
theorem dL_puts_184 : decode cL_puts 184 = .ok (.goto 11, 3) := by decide +kernel
theorem dL_puts_187 : decode cL_puts 187 = .ok (.bipush 100, 2) := by decide +kernel
theorem dL_puts_189 : decode cL_puts 189 = .ok (.iload 8, 2) := by decide +kernel
theorem dL_puts_191 : decode cL_puts 191 = .ok (.imul, 1) := by decide +kernel
theorem dL_puts_192 : decode cL_puts 192 = .ok (.iload 9, 2) := by decide +kernel
theorem dL_puts_194 : decode cL_puts 194 = .ok (.iadd, 1) := by decide +kernel
theorem dL_puts_195 : decode cL_puts 195 = .ok (.istore 10, 2) := by decide +kernel
theorem dL_puts_197 : decode cL_puts 197 = .ok (.aload 4, 2) := by decide +kernel
theorem dL_puts_199 : decode cL_puts 199 = .ok (.aload 5, 2) := by decide +kernel
theorem dL_puts_201 : decode cL_puts 201 = .ok (.iload 6, 2) := by decide +kernel
theorem dL_puts_203 : decode cL_puts 203 = .ok (.iload 7, 2) := by decide +kernel
theorem dL_puts_205 : decode cL_puts 205 = .ok (.invokestatic 9, 3) := by decide +kernel
theorem dL_puts_208 : decode cL_puts 208 = .ok (.istore 11, 2) := by decide +kernel
theorem dL_puts_210 : decode cL_puts 210 = .ok (.aload 4, 2) := by decide +kernel
theorem dL_puts_212 : decode cL_puts 212 = .ok (.aload 5, 2) := by decide +kernel
theorem dL_puts_214 : decode cL_puts 214 = .ok (.iload 6, 2) := by decide +kernel
theorem dL_puts_216 : decode cL_puts 216 = .ok (.iload 7, 2) := by decide +kernel
theorem dL_puts_218 : decode cL_puts 218 = .ok (.iload 10, 2) := by decide +kernel
theorem dL_puts_220 : decode cL_puts 220 = .ok (.invokestatic 19, 3) := by decide +kernel
theorem dL_puts_223 : decode cL_puts 223 = .ok (.aload_n 0, 1) := by decide +kernel
theorem dL_puts_224 : decode cL_puts 224 = .ok (.iload 6, 2) := by decide +kernel
theorem dL_puts_226 : decode cL_puts 226 = .ok (.iload 7, 2) := by decide +kernel
theorem dL_puts_228 : decode cL_puts 228 = .ok (.iload 10, 2) := by decide +kernel
theorem dL_puts_230 : decode cL_puts 230 = .ok (.invokevirtual 69, 3) := by decide +kernel
theorem dL_puts_233 : decode cL_puts 233 = .ok (.iload 11, 2) := by decide +kernel
theorem dL_puts_235 : decode cL_puts 235 = .ok (.iload 10, 2) := by decide +kernel
theorem dL_puts_237 : decode cL_puts 237 = .ok (.if_icmp .ne 8, 3) := by decide +kernel
theorem dL_puts_240 : decode cL_puts 240 = .ok (.bipush (-5), 2) := by decide +kernel
theorem dL_puts_242 : decode cL_puts 242 = .ok (.goto 5, 3) := by decide +kernel
theorem dL_puts_245 : decode cL_puts 245 = .ok (.iload 11, 2) := by decide +kernel
theorem dL_puts_247 : decode cL_puts 247 = .ok (.if_icmp .ne 47, 3) := by decide +kernel
theorem dL_puts_250 : decode cL_puts 250 = .ok (.aload_n 0, 1) := by decide +kernel
theorem dL_puts_251 : decode cL_puts 251 = .ok (.bipush 8, 2) := by decide +kernel
theorem dL_puts_253 : decode cL_puts 253 = .ok (.iconst 0, 1) := by decide +kernel
theorem dL_puts_254 : decode cL_puts 254 = .ok (.iconst 0, 1) := by decide +kernel
theorem dL_puts_255 : decode cL_puts 255 = .ok (.invokevirtual 69, 3) := by decide +kernel
theorem dL_puts_258 : decode cL_puts 258 = .ok (.iconst (-1), 1) := by decide +kernel
theorem dL_puts_259 : decode cL_puts 259 = .ok (.if_icmp .ne 35, 3) := by decide +kernel
theorem dL_puts_262 : decode cL_puts 262 = .ok (.aload_n 0, 1) := by decide +kernel
theorem dL_puts_263 : decode cL_puts 263 = .ok (.iconst 0, 1) := by decide +kernel
theorem dL_puts_264 : decode cL_puts 264 = .ok (.bipush 16, 2) := by decide +kernel
theorem dL_puts_266 : decode cL_puts 266 = .ok (.sipush 1000, 3) := by decide +kernel
theorem dL_puts_269 : decode cL_puts 269 = .ok (.invokevirtual 69, 3) := by decide +kernel
theorem dL_puts_272 : decode cL_puts 272 = .ok (.iconst (-1), 1) := by decide +kernel
theorem dL_puts_273 : decode cL_puts 273 = .ok (.if_icmp .ne 21, 3) := by decide +kernel
theorem dL_puts_276 : decode cL_puts 276 = .ok (.aload_n 0, 1) := by decide +kernel
theorem dL_puts_277 : decode cL_puts 277 = .ok (.iconst 0, 1) := by decide +kernel
theorem dL_puts_278 : decode cL_puts 278 = .ok (.iconst 0, 1) := by decide +kernel
theorem dL_puts_279 : decode cL_puts 279 = .ok (.sipush 1000, 3) := by decide +kernel
theorem dL_puts_282 : decode cL_puts 282 = .ok (.invokevirtual 69, 3) := by decide +kernel
theorem dL_puts_285 : decode cL_puts 285 = .ok (.bipush (-2), 2) := by decide +kernel
theorem dL_puts_287 : decode cL_puts 287 = .ok (.if_icmp .ne 7, 3) := by decide +kernel
theorem dL_puts_290 : decode cL_puts 290 = .ok (.iconst 1, 1) := by decide +kernel
theorem dL_puts_291 : decode cL_puts 291 = .ok (.goto 4, 3) := by decide +kernel
theorem dL_puts_294 : decode cL_puts 294 = .ok (.iconst 0, 1) := by decide +kernel
theorem dL_puts_295 : decode cL_puts 295 = .ok (.ireturn, 1) := by decide +kernel
theorem dL_others_0 : decode cL_others 0 = .ok (.iload_n 1, 1) := by decide +kernel
theorem dL_others_1 : decode cL_others 1 = .ok (.bipush 9, 2) := by decide +kernel
theorem dL_others_3 : decode cL_others 3 = .ok (.invokestatic 66, 3) := by decide +kernel
theorem dL_others_6 : decode cL_others 6 = .ok (.istore 7, 2) := by decide +kernel
theorem dL_others_8 : decode cL_others 8 = .ok (.iload_n 2, 1) := by decide +kernel
theorem dL_others_9 : decode cL_others 9 = .ok (.bipush 8, 2) := by decide +kernel
theorem dL_others_11 : decode cL_others 11 = .ok (.invokestatic 66, 3) := by decide +kernel
theorem dL_others_14 : decode cL_others 14 = .ok (.istore 8, 2) := by decide +kernel
theorem dL_others_16 : decode cL_others 16 = .ok (.iload 7, 2) := by decide +kernel
theorem dL_others_18 : decode cL_others 18 = .ok (.ifCond .ne 120, 3) := by decide +kernel
theorem dL_others_21 : decode cL_others 21 = .ok (.iload_n 2, 1) := by decide +kernel
theorem dL_others_22 : decode cL_others 22 = .ok (.bipush 8, 2) := by decide +kernel
theorem dL_others_24 : decode cL_others 24 = .ok (.iand, 1) := by decide +kernel
theorem dL_others_25 : decode cL_others 25 = .ok (.ifCond .ne 7, 3) := by decide +kernel
theorem dL_others_28 : decode cL_others 28 = .ok (.iconst 1, 1) := by decide +kernel
theorem dL_others_29 : decode cL_others 29 = .ok (.goto 4, 3) := by decide +kernel
theorem dL_others_32 : decode cL_others 32 = .ok (.iconst 0, 1) := by decide +kernel
theorem dL_others_33 : decode cL_others 33 = .ok (.istore 9, 2) := by decide +kernel
theorem dL_others_35 : decode cL_others 35 = .ok (.aload_n 3, 1) := by decide +kernel
theorem dL_others_36 : decode cL_others 36 = .ok (.iconst 4, 1) := by decide +kernel
theorem dL_others_37 : decode cL_others 37 = .ok (.iload 8, 2) := by decide +kernel
theorem dL_others_39 : decode cL_others 39 = .ok (.iadd, 1) := by decide +kernel
theorem dL_others_40 : decode cL_others 40 = .ok (.iaload, 1) := by decide +kernel
theorem dL_others_41 : decode cL_others 41 = .ok (.iconst 1, 1) := by decide +kernel
theorem dL_others_42 : decode cL_others 42 = .ok (.if_icmp .ne 7, 3) := by decide +kernel
theorem dL_others_45 : decode cL_others 45 = .ok (.iconst 1, 1) := by decide +kernel
theorem dL_others_46 : decode cL_others 46 = .ok (.goto 4, 3) := by decide +kernel
theorem dL_others_49 : decode cL_others 49 = .ok (.iconst 0, 1) := by decide +kernel
theorem dL_others_50 : decode cL_others 50 = .ok (.istore 10, 2) := by decide +kernel
theorem dL_others_52 : decode cL_others 52 = .ok (.aload_n 3, 1) := by decide +kernel
theorem dL_others_53 : decode cL_others 53 = .ok (.iconst 4, 1) := by decide +kernel
theorem dL_others_54 : decode cL_others 54 = .ok (.iload 8, 2) := by decide +kernel
theorem dL_others_56 : decode cL_others 56 = .ok (.iadd, 1) := by decide +kernel
theorem dL_others_57 : decode cL_others 57 = .ok (.iload 9, 2) := by decide +kernel
theorem dL_others_59 : decode cL_others 59 = .ok (.ifCond .eq 7, 3) := by decide +kernel
theorem dL_others_62 : decode cL_others 62 = .ok (.iconst 1, 1) := by decide +kernel
theorem dL_others_63 : decode cL_others 63 = .ok (.goto 4, 3) := by decide +kernel
theorem dL_others_66 : decode cL_others 66 = .ok (.iconst 0, 1) := by decide +kernel
theorem dL_others_67 : decode cL_others 67 = .ok (.iastore, 1) := by decide +kernel
theorem dL_others_68 : decode cL_others 68 = .ok (.iconst 0, 1) := by decide +kernel
theorem dL_others_69 : decode cL_others 69 = .ok (.istore 11, 2) := by decide +kernel
theorem dL_others_71 : decode cL_others 71 = .ok (.iconst 4, 1) := by decide +kernel
theorem dL_others_72 : decode cL_others 72 = .ok (.istore 12, 2) := by decide +kernel
theorem dL_others_74 : decode cL_others 74 = .ok (.iload 12, 2) := by decide +kernel
theorem dL_others_76 : decode cL_others 76 = .ok (.bipush 12, 2) := by decide +kernel
theorem dL_others_78 : decode cL_others 78 = .ok (.if_icmp .ge 18, 3) := by decide +kernel
theorem dL_others_81 : decode cL_others 81 = .ok (.iload 11, 2) := by decide +kernel
theorem dL_others_83 : decode cL_others 83 = .ok (.aload_n 3, 1) := by decide +kernel
theorem dL_others_84 : decode cL_others 84 = .ok (.iload 12, 2) := by decide +kernel
theorem dL_others_86 : decode cL_others 86 = .ok (.iaload, 1) := by decide +kernel
theorem dL_others_87 : decode cL_others 87 = .ok (.iadd, 1) := by decide +kernel
theorem dL_others_88 : decode cL_others 88 = .ok (.istore 11, 2) := by decide +kernel
theorem dL_others_90 : decode cL_others 90 = .ok (.iinc 12 1, 3) := by decide +kernel
theorem dL_others_93 : decode cL_others 93 = .ok (.goto (-19), 3) := by decide +kernel
theorem dL_others_96 : decode cL_others 96 = .ok (.aload_n 0, 1) := by decide +kernel
theorem dL_others_97 : decode cL_others 97 = .ok (.iload 8, 2) := by decide +kernel
theorem dL_others_99 : decode cL_others 99 = .ok (.iload 9, 2) := by decide +kernel
theorem dL_others_101 : decode cL_others 101 = .ok (.invokevirtual 72, 3) := by decide +kernel
theorem dL_others_104 : decode cL_others 104 = .ok (.iload 10, 2) := by decide +kernel
theorem dL_others_106 : decode cL_others 106 = .ok (.iload 9, 2) := by decide +kernel
theorem dL_others_108 : decode cL_others 108 = .ok (.if_icmp .ne 8, 3) := by decide +kernel
theorem dL_others_111 : decode cL_others 111 = .ok (.bipush (-5), 2) := by decide +kernel
theorem dL_others_113 : decode cL_others 113 = .ok (.goto 5, 3) := by decide +kernel
theorem dL_others_116 : decode cL_others 116 = .ok (.iload 11, 2) := by decide +kernel
theorem dL_others_118 : decode cL_others 118 = .ok (.if_icmp .ne 18, 3) := by decide +kernel
theorem dL_others_121 : decode cL_others 121 = .ok (.aload_n 0, 1) := by decide +kernel
theorem dL_others_122 : decode cL_others 122 = .ok (.bipush 8, 2) := by decide +kernel
theorem dL_others_124 : decode cL_others 124 = .ok (.iconst 1, 1) := by decide +kernel
theorem dL_others_125 : decode cL_others 125 = .ok (.invokevirtual 72, 3) := by decide +kernel
theorem dL_others_128 : decode cL_others 128 = .ok (.iconst (-1), 1) := by decide +kernel
theorem dL_others_129 : decode cL_others 129 = .ok (.if_icmp .ne 7, 3) := by decide +kernel
theorem dL_others_132 : decode cL_others 132 = .ok (.iconst 1, 1) := by decide +kernel
theorem dL_others_133 : decode cL_others 133 = .ok (.goto 4, 3) := by decide +kernel
theorem dL_others_136 : decode cL_others 136 = .ok (.iconst 0, 1) := by decide +kernel
theorem dL_others_137 : decode cL_others 137 = .ok (.ireturn, 1) := by decide +kernel
theorem dL_others_138 : decode cL_others 138 = .ok (.iload 7, 2) := by decide +kernel
theorem dL_others_140 : decode cL_others 140 = .ok (.iconst 1, 1) := by decide +kernel
theorem dL_others_141 : decode cL_others 141 = .ok (.if_icmp .ne 76, 3) := by decide +kernel
theorem dL_others_144 : decode cL_others 144 = .ok (.iload_n 2, 1) := by decide +kernel
theorem dL_others_145 : decode cL_others 145 = .ok (.iconst 3, 1) := by decide +kernel
theorem dL_others_146 : decode cL_others 146 = .ok (.ishr, 1) := by decide +kernel
theorem dL_others_147 : decode cL_others 147 = .ok (.iconst 4, 1) := by decide +kernel
theorem dL_others_148 : decode cL_others 148 = .ok (.invokestatic 66, 3) := by decide +kernel
theorem dL_others_151 : decode cL_others 151 = .ok (.istore 9, 2) := by decide +kernel
theorem dL_others_153 : decode cL_others 153 = .ok (.aload_n 3, 1) := by decide +kernel
theorem dL_others_154 : decode cL_others 154 = .ok (.iload 9, 2) := by decide +kernel
theorem dL_others_156 : decode cL_others 156 = .ok (.iaload, 1) := by decide +kernel
theorem dL_others_157 : decode cL_others 157 = .ok (.istore 10, 2) := by decide +kernel
theorem dL_others_159 : decode cL_others 159 = .ok (.aload_n 3, 1) := by decide +kernel
theorem dL_others_160 : decode cL_others 160 = .ok (.iload 9, 2) := by decide +kernel
theorem dL_others_162 : decode cL_others 162 = .ok (.iload 8, 2) := by decide +kernel
theorem dL_others_164 : decode cL_others 164 = .ok (.iastore, 1) := by decide +kernel
theorem dL_others_165 : decode cL_others 165 = .ok (.aload_n 0, 1) := by decide +kernel
theorem dL_others_166 : decode cL_others 166 = .ok (.iload 9, 2) := by decide +kernel
theorem dL_others_168 : decode cL_others 168 = .ok (.iload 8, 2) := by decide +kernel
theorem dL_others_170 : decode cL_others 170 = .ok (.invokevirtual 76, 3) := by decide +kernel
theorem dL_others_173 : decode cL_others 173 = .ok (.iload 10, 2) := by decide +kernel
theorem dL_others_175 : decode cL_others 175 = .ok (.iload 8, 2) := by decide +kernel
theorem dL_others_177 : decode cL_others 177 = .ok (.if_icmp .ne 8, 3) := by decide +kernel
theorem dL_others_180 : decode cL_others 180 = .ok (.bipush (-5), 2) := by decide +kernel
theorem dL_others_182 : decode cL_others 182 = .ok (.goto 5, 3) := by decide +kernel
theorem dL_others_185 : decode cL_others 185 = .ok (.iload 10, 2) := by decide +kernel
theorem dL_others_187 : decode cL_others 187 = .ok (.if_icmp .ne 28, 3) := by decide +kernel
theorem dL_others_190 : decode cL_others 190 = .ok (.aload_n 0, 1) := by decide +kernel
theorem dL_others_191 : decode cL_others 191 = .ok (.iconst 4, 1) := by decide +kernel
theorem dL_others_192 : decode cL_others 192 = .ok (.iconst 0, 1) := by decide +kernel
theorem dL_others_193 : decode cL_others 193 = .ok (.invokevirtual 76, 3) := by decide +kernel
theorem dL_others_196 : decode cL_others 196 = .ok (.iconst (-1), 1) := by decide +kernel
theorem dL_others_197 : decode cL_others 197 = .ok (.if_icmp .ne 18, 3) := by decide +kernel
theorem dL_others_200 : decode cL_others 200 = .ok (.aload_n 0, 1) := by decide +kernel
theorem dL_others_201 : decode cL_others 201 = .ok (.iconst 0, 1) := by decide +kernel
theorem dL_others_202 : decode cL_others 202 = .ok (.bipush 8, 2) := by decide +kernel
theorem dL_others_204 : decode cL_others 204 = .ok (.invokevirtual 76, 3) := by decide +kernel
theorem dL_others_207 : decode cL_others 207 = .ok (.iconst (-1), 1) := by decide +kernel
theorem dL_others_208 : decode cL_others 208 = .ok (.if_icmp .ne 7, 3) := by decide +kernel
theorem dL_others_211 : decode cL_others 211 = .ok (.iconst 1, 1) := by decide +kernel
theorem dL_others_212 : decode cL_others 212 = .ok (.goto 4, 3) := by decide +kernel
theorem dL_others_215 : decode cL_others 215 = .ok (.iconst 0, 1) := by decide +kernel
theorem dL_others_216 : decode cL_others 216 = .ok (.ireturn, 1) := by decide +kernel
theorem dL_others_217 : decode cL_others 217 = .ok (.iload 7, 2) := by decide +kernel
theorem dL_others_219 : decode cL_others 219 = .ok (.iconst 2, 1) := by decide +kernel
theorem dL_others_220 : decode cL_others 220 = .ok (.if_icmp .ne 128, 3) := by decide +kernel
theorem dL_others_223 : decode cL_others 223 = .ok (.iload_n 2, 1) := by decide +kernel
theorem dL_others_224 : decode cL_others 224 = .ok (.iconst 3, 1) := by decide +kernel
theorem dL_others_225 : decode cL_others 225 = .ok (.ishr, 1) := by decide +kernel
theorem dL_others_226 : decode cL_others 226 = .ok (.bipush 8, 2) := by decide +kernel
theorem dL_others_228 : decode cL_others 228 = .ok (.invokestatic 66, 3) := by decide +kernel
theorem dL_others_231 : decode cL_others 231 = .ok (.istore 9, 2) := by decide +kernel
theorem dL_others_233 : decode cL_others 233 = .ok (.iconst 0, 1) := by decide +kernel
theorem dL_others_234 : decode cL_others 234 = .ok (.istore 10, 2) := by decide +kernel
theorem dL_others_236 : decode cL_others 236 = .ok (.iconst 0, 1) := by decide +kernel
theorem dL_others_237 : decode cL_others 237 = .ok (.istore 11, 2) := by decide +kernel
theorem dL_others_239 : decode cL_others 239 = .ok (.iload 11, 2) := by decide +kernel
theorem dL_others_241 : decode cL_others 241 = .ok (.bipush 12, 2) := by decide +kernel
theorem dL_others_243 : decode cL_others 243 = .ok (.if_icmp .ge 66, 3) := by decide +kernel
theorem dL_others_246 : decode cL_others 246 = .ok (.iload 10, 2) := by decide +kernel
theorem dL_others_248 : decode cL_others 248 = .ok (.aload 4, 2) := by decide +kernel
theorem dL_others_250 : decode cL_others 250 = .ok (.aload 5, 2) := by decide +kernel
theorem dL_others_252 : decode cL_others 252 = .ok (.iload 9, 2) := by decide +kernel
theorem dL_others_254 : decode cL_others 254 = .ok (.iload 11, 2) := by decide +kernel
theorem dL_others_256 : decode cL_others 256 = .ok (.invokestatic 9, 3) := by decide +kernel
theorem dL_others_259 : decode cL_others 259 = .ok (.aload 4, 2) := by decide +kernel
theorem dL_others_261 : decode cL_others 261 = .ok (.aload 5, 2) := by decide +kernel
theorem dL_others_263 : decode cL_others 263 = .ok (.iload 8, 2) := by decide +kernel
theorem dL_others_265 : decode cL_others 265 = .ok (.iload 11, 2) := by decide +kernel
theorem dL_others_267 : decode cL_others 267 = .ok (.invokestatic 9, 3) := by decide +kernel
theorem dL_others_270 : decode cL_others 270 = .ok (.if_icmp .eq 7, 3) := by decide +kernel
theorem dL_others_273 : decode cL_others 273 = .ok (.iconst 1, 1) := by decide +kernel
theorem dL_others_274 : decode cL_others 274 = .ok (.goto 4, 3) := by decide +kernel
theorem dL_others_277 : decode cL_others 277 = .ok (.iconst 0, 1) := by decide +kernel
theorem dL_others_278 : decode cL_others 278 = .ok (.iadd, 1) := by decide +kernel
theorem dL_others_279 : decode cL_others 279 = .ok (.istore 10, 2) := by decide +kernel
theorem dL_others_281 : decode cL_others 281 = .ok (.aload 4, 2) := by decide +kernel
theorem dL_others_283 : decode cL_others 283 = .ok (.aload 5, 2) := by decide +kernel
theorem dL_others_285 : decode cL_others 285 = .ok (.iload 8, 2) := by decide +kernel
theorem dL_others_287 : decode cL_others 287 = .ok (.iload 11, 2) := by decide +kernel
theorem dL_others_289 : decode cL_others 289 = .ok (.aload 4, 2) := by decide +kernel
theorem dL_others_291 : decode cL_others 291 = .ok (.aload 5, 2) := by decide +kernel
theorem dL_others_293 : decode cL_others 293 = .ok (.iload 9, 2) := by decide +kernel
theorem dL_others_295 : decode cL_others 295 = .ok (.iload 11, 2) := by decide +kernel
theorem dL_others_297 : decode cL_others 297 = .ok (.invokestatic 9, 3) := by decide +kernel
theorem dL_others_300 : decode cL_others 300 = .ok (.invokestatic 19, 3) := by decide +kernel
theorem dL_others_303 : decode cL_others 303 = .ok (.iinc 11 1, 3) := by decide +kernel
theorem dL_others_306 : decode cL_others 306 = .ok (.goto (-67), 3) := by decide +kernel
theorem dL_others_309 : decode cL_others 309 = .ok (.aload_n 0, 1) := by decide +kernel
theorem dL_others_310 : decode cL_others 310 = .ok (.iload 9, 2) := by decide +kernel
theorem dL_others_312 : decode cL_others 312 = .ok (.iload 8, 2) := by decide +kernel
theorem dL_others_314 : decode cL_others 314 = .ok (.invokevirtual 79, 3) := by decide +kernel
theorem dL_others_317 : decode cL_others 317 = .ok (.iload 10, 2) := by decide +kernel
theorem dL_others_319 : decode cL_others 319 = .ok (.ifCond .ne 8, 3) := by decide +kernel
theorem dL_others_322 : decode cL_others 322 = .ok (.bipush (-5), 2) := by decide +kernel
theorem dL_others_324 : decode cL_others 324 = .ok (.goto 5, 3) := by decide +kernel
theorem dL_others_327 : decode cL_others 327 = .ok (.iload 10, 2) := by decide +kernel
theorem dL_others_329 : decode cL_others 329 = .ok (.if_icmp .ne 17, 3) := by decide +kernel
theorem dL_others_332 : decode cL_others 332 = .ok (.aload_n 0, 1) := by decide +kernel
theorem dL_others_333 : decode cL_others 333 = .ok (.iconst (-1), 1) := by decide +kernel
theorem dL_others_334 : decode cL_others 334 = .ok (.iconst 0, 1) := by decide +kernel
theorem dL_others_335 : decode cL_others 335 = .ok (.invokevirtual 79, 3) := by decide +kernel
theorem dL_others_338 : decode cL_others 338 = .ok (.iconst (-1), 1) := by decide +kernel
theorem dL_others_339 : decode cL_others 339 = .ok (.if_icmp .ne 7, 3) := by decide +kernel
theorem dL_others_342 : decode cL_others 342 = .ok (.iconst 1, 1) := by decide +kernel
theorem dL_others_343 : decode cL_others 343 = .ok (.goto 4, 3) := by decide +kernel
theorem dL_others_346 : decode cL_others 346 = .ok (.iconst 0, 1) := by decide +kernel
theorem dL_others_347 : decode cL_others 347 = .ok (.ireturn, 1) := by decide +kernel
theorem dL_others_348 : decode cL_others 348 = .ok (.iload 7, 2) := by decide +kernel
theorem dL_others_350 : decode cL_others 350 = .ok (.iconst 3, 1) := by decide +kernel
theorem dL_others_351 : decode cL_others 351 = .ok (.if_icmp .ne 61, 3) := by decide +kernel
theorem dL_others_354 : decode cL_others 354 = .ok (.aload_n 3, 1) := by decide +kernel
theorem dL_others_355 : decode cL_others 355 = .ok (.bipush 12, 2) := by decide +kernel
theorem dL_others_357 : decode cL_others 357 = .ok (.iaload, 1) := by decide +kernel
theorem dL_others_358 : decode cL_others 358 = .ok (.istore 9, 2) := by decide +kernel
theorem dL_others_360 : decode cL_others 360 = .ok (.aload_n 3, 1) := by decide +kernel
theorem dL_others_361 : decode cL_others 361 = .ok (.bipush 12, 2) := by decide +kernel
theorem dL_others_363 : decode cL_others 363 = .ok (.iload_n 2, 1) := by decide +kernel
theorem dL_others_364 : decode cL_others 364 = .ok (.iconst 3, 1) := by decide +kernel
theorem dL_others_365 : decode cL_others 365 = .ok (.ishr, 1) := by decide +kernel
theorem dL_others_366 : decode cL_others 366 = .ok (.iconst 1, 1) := by decide +kernel
theorem dL_others_367 : decode cL_others 367 = .ok (.iand, 1) := by decide +kernel
theorem dL_others_368 : decode cL_others 368 = .ok (.iastore, 1) := by decide +kernel
theorem dL_others_369 : decode cL_others 369 = .ok (.aload_n 0, 1) := by decide +kernel
theorem dL_others_370 : decode cL_others 370 = .ok (.aload_n 3, 1) := by decide +kernel
theorem dL_others_371 : decode cL_others 371 = .ok (.bipush 12, 2) := by decide +kernel
theorem dL_others_373 : decode cL_others 373 = .ok (.iaload, 1) := by decide +kernel
theorem dL_others_374 : decode cL_others 374 = .ok (.invokevirtual 82, 3) := by decide +kernel
theorem dL_others_377 : decode cL_others 377 = .ok (.iload 9, 2) := by decide +kernel
theorem dL_others_379 : decode cL_others 379 = .ok (.aload_n 3, 1) := by decide +kernel
theorem dL_others_380 : decode cL_others 380 = .ok (.bipush 12, 2) := by decide +kernel
theorem dL_others_382 : decode cL_others 382 = .ok (.iaload, 1) := by decide +kernel
theorem dL_others_383 : decode cL_others 383 = .ok (.if_icmp .ne 8, 3) := by decide +kernel
theorem dL_others_386 : decode cL_others 386 = .ok (.bipush (-5), 2) := by decide +kernel
theorem dL_others_388 : decode cL_others 388 = .ok (.goto 5, 3) := by decide +kernel
theorem dL_others_391 : decode cL_others 391 = .ok (.iload 9, 2) := by decide +kernel
theorem dL_others_393 : decode cL_others 393 = .ok (.if_icmp .ne 17, 3) := by decide +kernel
theorem dL_others_396 : decode cL_others 396 = .ok (.aload_n 0, 1) := by decide +kernel
theorem dL_others_397 : decode cL_others 397 = .ok (.iconst 2, 1) := by decide +kernel
theorem dL_others_398 : decode cL_others 398 = .ok (.invokevirtual 82, 3) := by decide +kernel
theorem dL_others_401 : decode cL_others 401 = .ok (.bipush (-2), 2) := by decide +kernel
theorem dL_others_403 : decode cL_others 403 = .ok (.if_icmp .ne 7, 3) := by decide +kernel
theorem dL_others_406 : decode cL_others 406 = .ok (.iconst 1, 1) := by decide +kernel
theorem dL_others_407 : decode cL_others 407 = .ok (.goto 4, 3) := by decide +kernel
theorem dL_others_410 : decode cL_others 410 = .ok (.iconst 0, 1) := by decide +kernel
theorem dL_others_411 : decode cL_others 411 = .ok (.ireturn, 1) := by decide +kernel
theorem dL_others_412 : decode cL_others 412 = .ok (.iload 7, 2) := by decide +kernel
theorem dL_others_414 : decode cL_others 414 = .ok (.bipush 6, 2) := by decide +kernel
theorem dL_others_416 : decode cL_others 416 = .ok (.if_icmp .ge 65, 3) := by decide +kernel
theorem dL_others_419 : decode cL_others 419 = .ok (.aload_n 3, 1) := by decide +kernel
theorem dL_others_420 : decode cL_others 420 = .ok (.bipush 14, 2) := by decide +kernel
theorem dL_others_422 : decode cL_others 422 = .ok (.iaload, 1) := by decide +kernel
theorem dL_others_423 : decode cL_others 423 = .ok (.istore 9, 2) := by decide +kernel
theorem dL_others_425 : decode cL_others 425 = .ok (.aload_n 3, 1) := by decide +kernel
theorem dL_others_426 : decode cL_others 426 = .ok (.bipush 14, 2) := by decide +kernel
theorem dL_others_428 : decode cL_others 428 = .ok (.iload_n 2, 1) := by decide +kernel
theorem dL_others_429 : decode cL_others 429 = .ok (.iconst 3, 1) := by decide +kernel
theorem dL_others_430 : decode cL_others 430 = .ok (.ishr, 1) := by decide +kernel
theorem dL_others_431 : decode cL_others 431 = .ok (.bipush 64, 2) := by decide +kernel
theorem dL_others_433 : decode cL_others 433 = .ok (.invokestatic 66, 3) := by decide +kernel
theorem dL_others_436 : decode cL_others 436 = .ok (.iastore, 1) := by decide +kernel
theorem dL_others_437 : decode cL_others 437 = .ok (.aload_n 3, 1) := by decide +kernel
theorem dL_others_438 : decode cL_others 438 = .ok (.bipush 13, 2) := by decide +kernel
theorem dL_others_440 : decode cL_others 440 = .ok (.iconst 0, 1) := by decide +kernel
theorem dL_others_441 : decode cL_others 441 = .ok (.iastore, 1) := by decide +kernel
theorem dL_others_442 : decode cL_others 442 = .ok (.aload_n 3, 1) := by decide +kernel
theorem dL_others_443 : decode cL_others 443 = .ok (.bipush 15, 2) := by decide +kernel
theorem dL_others_445 : decode cL_others 445 = .ok (.iconst 0, 1) := by decide +kernel
theorem dL_others_446 : decode cL_others 446 = .ok (.iastore, 1) := by decide +kernel
theorem dL_others_447 : decode cL_others 447 = .ok (.aload 6, 2) := by decide +kernel
theorem dL_others_449 : decode cL_others 449 = .ok (.iconst 0, 1) := by decide +kernel
theorem dL_others_450 : decode cL_others 450 = .ok (.iconst 0, 1) := by decide +kernel
theorem dL_others_451 : decode cL_others 451 = .ok (.iastore, 1) := by decide +kernel
theorem dL_others_452 : decode cL_others 452 = .ok (.aload_n 0, 1) := by decide +kernel
theorem dL_others_453 : decode cL_others 453 = .ok (.aload_n 3, 1) := by decide +kernel
theorem dL_others_454 : decode cL_others 454 = .ok (.bipush 14, 2) := by decide +kernel
theorem dL_others_456 : decode cL_others 456 = .ok (.iaload, 1) := by decide +kernel
theorem dL_others_457 : decode cL_others 457 = .ok (.invokevirtual 85, 3) := by decide +kernel
theorem dL_others_460 : decode cL_others 460 = .ok (.iload 9, 2) := by decide +kernel
theorem dL_others_462 : decode cL_others 462 = .ok (.if_icmp .ne 17, 3) := by decide +kernel
theorem dL_others_465 : decode cL_others 465 = .ok (.aload_n 0, 1) := by decide +kernel
theorem dL_others_466 : decode cL_others 466 = .ok (.bipush 64, 2) := by decide +kernel
theorem dL_others_468 : decode cL_others 468 = .ok (.invokevirtual 85, 3) := by decide +kernel
theorem dL_others_471 : decode cL_others 471 = .ok (.iconst (-1), 1) := by decide +kernel
theorem dL_others_472 : decode cL_others 472 = .ok (.if_icmp .ne 7, 3) := by decide +kernel
theorem dL_others_475 : decode cL_others 475 = .ok (.iconst 1, 1) := by decide +kernel
theorem dL_others_476 : decode cL_others 476 = .ok (.goto 4, 3) := by decide +kernel
theorem dL_others_479 : decode cL_others 479 = .ok (.iconst 0, 1) := by decide +kernel
theorem dL_others_480 : decode cL_others 480 = .ok (.ireturn, 1) := by decide +kernel
theorem dL_others_481 : decode cL_others 481 = .ok (.iconst 1, 1) := by decide +kernel
end
section
theorem dL_others_482 : decode cL_others 482 = .ok (.iload_n 2, 1) := by decide +kernel
theorem dL_others_483 : decode cL_others 483 = .ok (.iload_n 2, 1) := by decide +kernel
theorem dL_others_484 : decode cL_others 484 = .ok (.bipush 9, 2) := by decide +kernel
theorem dL_others_486 : decode cL_others 486 = .ok (.ishr, 1) := by decide +kernel
theorem dL_others_487 : decode cL_others 487 = .ok (.iconst 3, 1) := by decide +kernel
theorem dL_others_488 : decode cL_others 488 = .ok (.iand, 1) := by decide +kernel
theorem dL_others_489 : decode cL_others 489 = .ok (.ifCond .ne 8, 3) := by decide +kernel
theorem dL_others_492 : decode cL_others 492 = .ok (.bipush 60, 2) := by decide +kernel
theorem dL_others_494 : decode cL_others 494 = .ok (.goto 5, 3) := by decide +kernel
theorem dL_others_497 : decode cL_others 497 = .ok (.bipush 7, 2) := by decide +kernel
theorem dL_others_499 : decode cL_others 499 = .ok (.invokestatic 66, 3) := by decide +kernel
theorem dL_others_502 : decode cL_others 502 = .ok (.iadd, 1) := by decide +kernel
theorem dL_others_503 : decode cL_others 503 = .ok (.istore 9, 2) := by decide +kernel
theorem dL_others_505 : decode cL_others 505 = .ok (.aload_n 3, 1) := by decide +kernel
theorem dL_others_506 : decode cL_others 506 = .ok (.bipush 15, 2) := by decide +kernel
theorem dL_others_508 : decode cL_others 508 = .ok (.iaload, 1) := by decide +kernel
theorem dL_others_509 : decode cL_others 509 = .ok (.ifCond .le 30, 3) := by decide +kernel
theorem dL_others_512 : decode cL_others 512 = .ok (.aload_n 0, 1) := by decide +kernel
theorem dL_others_513 : decode cL_others 513 = .ok (.iload 9, 2) := by decide +kernel
theorem dL_others_515 : decode cL_others 515 = .ok (.invokevirtual 88, 3) := by decide +kernel
theorem dL_others_518 : decode cL_others 518 = .ok (.bipush (-4), 2) := by decide +kernel
theorem dL_others_520 : decode cL_others 520 = .ok (.if_icmp .ne 17, 3) := by decide +kernel
theorem dL_others_523 : decode cL_others 523 = .ok (.aload_n 0, 1) := by decide +kernel
theorem dL_others_524 : decode cL_others 524 = .ok (.iconst 0, 1) := by decide +kernel
theorem dL_others_525 : decode cL_others 525 = .ok (.invokevirtual 88, 3) := by decide +kernel
theorem dL_others_528 : decode cL_others 528 = .ok (.bipush (-2), 2) := by decide +kernel
theorem dL_others_530 : decode cL_others 530 = .ok (.if_icmp .ne 7, 3) := by decide +kernel
theorem dL_others_533 : decode cL_others 533 = .ok (.iconst 1, 1) := by decide +kernel
theorem dL_others_534 : decode cL_others 534 = .ok (.goto 4, 3) := by decide +kernel
theorem dL_others_537 : decode cL_others 537 = .ok (.iconst 0, 1) := by decide +kernel
theorem dL_others_538 : decode cL_others 538 = .ok (.ireturn, 1) := by decide +kernel
theorem dL_others_539 : decode cL_others 539 = .ok (.iload 9, 2) := by decide +kernel
theorem dL_others_541 : decode cL_others 541 = .ok (.aload_n 3, 1) := by decide +kernel
theorem dL_others_542 : decode cL_others 542 = .ok (.aload 4, 2) := by decide +kernel
theorem dL_others_544 : decode cL_others 544 = .ok (.aload 5, 2) := by decide +kernel
theorem dL_others_546 : decode cL_others 546 = .ok (.aload 6, 2) := by decide +kernel
theorem dL_others_548 : decode cL_others 548 = .ok (.invokestatic 45, 3) := by decide +kernel
theorem dL_others_551 : decode cL_others 551 = .ok (.istore 10, 2) := by decide +kernel
theorem dL_others_553 : decode cL_others 553 = .ok (.aload_n 0, 1) := by decide +kernel
theorem dL_others_554 : decode cL_others 554 = .ok (.iload 9, 2) := by decide +kernel
theorem dL_others_556 : decode cL_others 556 = .ok (.invokevirtual 88, 3) := by decide +kernel
theorem dL_others_559 : decode cL_others 559 = .ok (.iload 10, 2) := by decide +kernel
theorem dL_others_561 : decode cL_others 561 = .ok (.if_icmp .ne 19, 3) := by decide +kernel
theorem dL_others_564 : decode cL_others 564 = .ok (.aload_n 0, 1) := by decide +kernel
theorem dL_others_565 : decode cL_others 565 = .ok (.sipush 1000, 3) := by decide +kernel
theorem dL_others_568 : decode cL_others 568 = .ok (.invokevirtual 88, 3) := by decide +kernel
theorem dL_others_571 : decode cL_others 571 = .ok (.bipush (-2), 2) := by decide +kernel
theorem dL_others_573 : decode cL_others 573 = .ok (.if_icmp .ne 7, 3) := by decide +kernel
theorem dL_others_576 : decode cL_others 576 = .ok (.iconst 1, 1) := by decide +kernel
theorem dL_others_577 : decode cL_others 577 = .ok (.goto 4, 3) := by decide +kernel
theorem dL_others_580 : decode cL_others 580 = .ok (.iconst 0, 1) := by decide +kernel
theorem dL_others_581 : decode cL_others 581 = .ok (.ireturn, 1) := by decide +kernel
theorem dL_law_0 : decode cL_law 0 = .ok (.new 32, 3) := by decide +kernel
theorem dL_law_3 : decode cL_law 3 = .ok (.dup, 1) := by decide +kernel
theorem dL_law_4 : decode cL_law 4 = .ok (.invokespecial 90, 3) := by decide +kernel
theorem dL_law_7 : decode cL_law 7 = .ok (.astore_n 1, 1) := by decide +kernel
theorem dL_law_8 : decode cL_law 8 = .ok (.bipush 36, 2) := by decide +kernel
theorem dL_law_10 : decode cL_law 10 = .ok (.newarray .int, 2) := by decide +kernel
theorem dL_law_12 : decode cL_law 12 = .ok (.astore_n 2, 1) := by decide +kernel
theorem dL_law_13 : decode cL_law 13 = .ok (.bipush 52, 2) := by decide +kernel
theorem dL_law_15 : decode cL_law 15 = .ok (.newarray .int, 2) := by decide +kernel
theorem dL_law_17 : decode cL_law 17 = .ok (.astore_n 3, 1) := by decide +kernel
theorem dL_law_18 : decode cL_law 18 = .ok (.bipush 48, 2) := by decide +kernel
theorem dL_law_20 : decode cL_law 20 = .ok (.newarray .int, 2) := by decide +kernel
theorem dL_law_22 : decode cL_law 22 = .ok (.astore 4, 2) := by decide +kernel
theorem dL_law_24 : decode cL_law 24 = .ok (.bipush 28, 2) := by decide +kernel
theorem dL_law_26 : decode cL_law 26 = .ok (.newarray .int, 2) := by decide +kernel
theorem dL_law_28 : decode cL_law 28 = .ok (.astore 5, 2) := by decide +kernel
theorem dL_law_30 : decode cL_law 30 = .ok (.iconst 0, 1) := by decide +kernel
theorem dL_law_31 : decode cL_law 31 = .ok (.istore 6, 2) := by decide +kernel
theorem dL_law_33 : decode cL_law 33 = .ok (.iload 6, 2) := by decide +kernel
theorem dL_law_35 : decode cL_law 35 = .ok (.iconst 4, 1) := by decide +kernel
theorem dL_law_36 : decode cL_law 36 = .ok (.if_icmp .ge 15, 3) := by decide +kernel
theorem dL_law_39 : decode cL_law 39 = .ok (.aload_n 2, 1) := by decide +kernel
theorem dL_law_40 : decode cL_law 40 = .ok (.iload 6, 2) := by decide +kernel
theorem dL_law_42 : decode cL_law 42 = .ok (.iload 6, 2) := by decide +kernel
theorem dL_law_44 : decode cL_law 44 = .ok (.iastore, 1) := by decide +kernel
theorem dL_law_45 : decode cL_law 45 = .ok (.iinc 6 1, 3) := by decide +kernel
theorem dL_law_48 : decode cL_law 48 = .ok (.goto (-15), 3) := by decide +kernel
theorem dL_law_51 : decode cL_law 51 = .ok (.aload_n 1, 1) := by decide +kernel
theorem dL_law_52 : decode cL_law 52 = .ok (.aload_n 2, 1) := by decide +kernel
theorem dL_law_53 : decode cL_law 53 = .ok (.aload_n 3, 1) := by decide +kernel
theorem dL_law_54 : decode cL_law 54 = .ok (.aload 4, 2) := by decide +kernel
theorem dL_law_56 : decode cL_law 56 = .ok (.aload 5, 2) := by decide +kernel
theorem dL_law_58 : decode cL_law 58 = .ok (.invokestatic 91, 3) := by decide +kernel
theorem dL_law_61 : decode cL_law 61 = .ok (.ifCond .eq 46, 3) := by decide +kernel
theorem dL_law_64 : decode cL_law 64 = .ok (.aload_n 1, 1) := by decide +kernel
theorem dL_law_65 : decode cL_law 65 = .ok (.iconst 5, 1) := by decide +kernel
theorem dL_law_66 : decode cL_law 66 = .ok (.aload_n 2, 1) := by decide +kernel
theorem dL_law_67 : decode cL_law 67 = .ok (.aload_n 3, 1) := by decide +kernel
theorem dL_law_68 : decode cL_law 68 = .ok (.aload 4, 2) := by decide +kernel
theorem dL_law_70 : decode cL_law 70 = .ok (.aload 5, 2) := by decide +kernel
theorem dL_law_72 : decode cL_law 72 = .ok (.invokestatic 95, 3) := by decide +kernel
theorem dL_law_75 : decode cL_law 75 = .ok (.ifCond .eq 32, 3) := by decide +kernel
theorem dL_law_78 : decode cL_law 78 = .ok (.aload_n 1, 1) := by decide +kernel
theorem dL_law_79 : decode cL_law 79 = .ok (.invokevirtual 99, 3) := by decide +kernel
theorem dL_law_82 : decode cL_law 82 = .ok (.bipush (-5), 2) := by decide +kernel
theorem dL_law_84 : decode cL_law 84 = .ok (.if_icmp .ne 23, 3) := by decide +kernel
theorem dL_law_87 : decode cL_law 87 = .ok (.aload_n 1, 1) := by decide +kernel
theorem dL_law_88 : decode cL_law 88 = .ok (.invokevirtual 102, 3) := by decide +kernel
theorem dL_law_91 : decode cL_law 91 = .ok (.bipush (-5), 2) := by decide +kernel
theorem dL_law_93 : decode cL_law 93 = .ok (.if_icmp .ne 14, 3) := by decide +kernel
theorem dL_law_96 : decode cL_law 96 = .ok (.aload_n 1, 1) := by decide +kernel
theorem dL_law_97 : decode cL_law 97 = .ok (.iconst 0, 1) := by decide +kernel
theorem dL_law_98 : decode cL_law 98 = .ok (.iconst 0, 1) := by decide +kernel
theorem dL_law_99 : decode cL_law 99 = .ok (.invokevirtual 105, 3) := by decide +kernel
theorem dL_law_102 : decode cL_law 102 = .ok (.bipush (-5), 2) := by decide +kernel
theorem dL_law_104 : decode cL_law 104 = .ok (.if_icmp .eq 5, 3) := by decide +kernel
theorem dL_law_107 : decode cL_law 107 = .ok (.iconst 0, 1) := by decide +kernel
theorem dL_law_108 : decode cL_law 108 = .ok (.ireturn, 1) := by decide +kernel
theorem dL_law_109 : decode cL_law 109 = .ok (.iconst 0, 1) := by decide +kernel
theorem dL_law_110 : decode cL_law 110 = .ok (.istore 6, 2) := by decide +kernel
theorem dL_law_112 : decode cL_law 112 = .ok (.iload 6, 2) := by decide +kernel
theorem dL_law_114 : decode cL_law 114 = .ok (.bipush 60, 2) := by decide +kernel
theorem dL_law_116 : decode cL_law 116 = .ok (.if_icmp .ge 146, 3) := by decide +kernel
theorem dL_law_119 : decode cL_law 119 = .ok (.aload_n 0, 1) := by decide +kernel
theorem dL_law_120 : decode cL_law 120 = .ok (.iconst 2, 1) := by decide +kernel
theorem dL_law_121 : decode cL_law 121 = .ok (.iload 6, 2) := by decide +kernel
theorem dL_law_123 : decode cL_law 123 = .ok (.imul, 1) := by decide +kernel
theorem dL_law_124 : decode cL_law 124 = .ok (.invokestatic 108, 3) := by decide +kernel
theorem dL_law_127 : decode cL_law 127 = .ok (.istore 7, 2) := by decide +kernel
theorem dL_law_129 : decode cL_law 129 = .ok (.aload_n 0, 1) := by decide +kernel
theorem dL_law_130 : decode cL_law 130 = .ok (.iconst 2, 1) := by decide +kernel
theorem dL_law_131 : decode cL_law 131 = .ok (.iload 6, 2) := by decide +kernel
theorem dL_law_133 : decode cL_law 133 = .ok (.imul, 1) := by decide +kernel
theorem dL_law_134 : decode cL_law 134 = .ok (.iconst 1, 1) := by decide +kernel
theorem dL_law_135 : decode cL_law 135 = .ok (.iadd, 1) := by decide +kernel
theorem dL_law_136 : decode cL_law 136 = .ok (.invokestatic 108, 3) := by decide +kernel
theorem dL_law_139 : decode cL_law 139 = .ok (.istore 8, 2) := by decide +kernel
theorem dL_law_141 : decode cL_law 141 = .ok (.iload 6, 2) := by decide +kernel
theorem dL_law_143 : decode cL_law 143 = .ok (.bipush 14, 2) := by decide +kernel
theorem dL_law_145 : decode cL_law 145 = .ok (.if_icmp .lt 15, 3) := by decide +kernel
theorem dL_law_148 : decode cL_law 148 = .ok (.iload 7, 2) := by decide +kernel
theorem dL_law_150 : decode cL_law 150 = .ok (.bipush 16, 2) := by decide +kernel
theorem dL_law_152 : decode cL_law 152 = .ok (.ishr, 1) := by decide +kernel
theorem dL_law_153 : decode cL_law 153 = .ok (.iconst 3, 1) := by decide +kernel
theorem dL_law_154 : decode cL_law 154 = .ok (.invokestatic 66, 3) := by decide +kernel
theorem dL_law_157 : decode cL_law 157 = .ok (.ifCond .ne 18, 3) := by decide +kernel
theorem dL_law_160 : decode cL_law 160 = .ok (.aload_n 1, 1) := by decide +kernel
theorem dL_law_161 : decode cL_law 161 = .ok (.iload 7, 2) := by decide +kernel
theorem dL_law_163 : decode cL_law 163 = .ok (.iload 8, 2) := by decide +kernel
theorem dL_law_165 : decode cL_law 165 = .ok (.aload_n 2, 1) := by decide +kernel
theorem dL_law_166 : decode cL_law 166 = .ok (.aload_n 3, 1) := by decide +kernel
theorem dL_law_167 : decode cL_law 167 = .ok (.aload 4, 2) := by decide +kernel
theorem dL_law_169 : decode cL_law 169 = .ok (.invokestatic 112, 3) := by decide +kernel
theorem dL_law_172 : decode cL_law 172 = .ok (.goto 17, 3) := by decide +kernel
theorem dL_law_175 : decode cL_law 175 = .ok (.aload_n 1, 1) := by decide +kernel
theorem dL_law_176 : decode cL_law 176 = .ok (.iload 7, 2) := by decide +kernel
theorem dL_law_178 : decode cL_law 178 = .ok (.iload 8, 2) := by decide +kernel
theorem dL_law_180 : decode cL_law 180 = .ok (.aload_n 2, 1) := by decide +kernel
theorem dL_law_181 : decode cL_law 181 = .ok (.aload_n 3, 1) := by decide +kernel
theorem dL_law_182 : decode cL_law 182 = .ok (.aload 4, 2) := by decide +kernel
theorem dL_law_184 : decode cL_law 184 = .ok (.aload 5, 2) := by decide +kernel
theorem dL_law_186 : decode cL_law 186 = .ok (.invokestatic 116, 3) := by decide +kernel
theorem dL_law_189 : decode cL_law 189 = .ok (.istore 9, 2) := by decide +kernel
theorem dL_law_191 : decode cL_law 191 = .ok (.iload 9, 2) := by decide +kernel
theorem dL_law_193 : decode cL_law 193 = .ok (.ifCond .eq 61, 3) := by decide +kernel
theorem dL_law_196 : decode cL_law 196 = .ok (.aload_n 1, 1) := by decide +kernel
theorem dL_law_197 : decode cL_law 197 = .ok (.aload_n 2, 1) := by decide +kernel
theorem dL_law_198 : decode cL_law 198 = .ok (.aload_n 3, 1) := by decide +kernel
theorem dL_law_199 : decode cL_law 199 = .ok (.aload 4, 2) := by decide +kernel
theorem dL_law_201 : decode cL_law 201 = .ok (.aload 5, 2) := by decide +kernel
theorem dL_law_203 : decode cL_law 203 = .ok (.invokestatic 91, 3) := by decide +kernel
theorem dL_law_206 : decode cL_law 206 = .ok (.ifCond .eq 48, 3) := by decide +kernel
theorem dL_law_209 : decode cL_law 209 = .ok (.iload 6, 2) := by decide +kernel
theorem dL_law_211 : decode cL_law 211 = .ok (.iconst 5, 1) := by decide +kernel
theorem dL_law_212 : decode cL_law 212 = .ok (.irem, 1) := by decide +kernel
theorem dL_law_213 : decode cL_law 213 = .ok (.iconst 4, 1) := by decide +kernel
theorem dL_law_214 : decode cL_law 214 = .ok (.if_icmp .ne 42, 3) := by decide +kernel
theorem dL_law_217 : decode cL_law 217 = .ok (.aload_n 1, 1) := by decide +kernel
theorem dL_law_218 : decode cL_law 218 = .ok (.iconst 1, 1) := by decide +kernel
theorem dL_law_219 : decode cL_law 219 = .ok (.iload 7, 2) := by decide +kernel
theorem dL_law_221 : decode cL_law 221 = .ok (.iconst 4, 1) := by decide +kernel
theorem dL_law_222 : decode cL_law 222 = .ok (.ishr, 1) := by decide +kernel
theorem dL_law_223 : decode cL_law 223 = .ok (.iload 7, 2) := by decide +kernel
theorem dL_law_225 : decode cL_law 225 = .ok (.iconst 1, 1) := by decide +kernel
theorem dL_law_226 : decode cL_law 226 = .ok (.iand, 1) := by decide +kernel
theorem dL_law_227 : decode cL_law 227 = .ok (.ifCond .ne 9, 3) := by decide +kernel
theorem dL_law_230 : decode cL_law 230 = .ok (.sipush 999, 3) := by decide +kernel
theorem dL_law_233 : decode cL_law 233 = .ok (.goto 5, 3) := by decide +kernel
theorem dL_law_236 : decode cL_law 236 = .ok (.bipush 9, 2) := by decide +kernel
theorem dL_law_238 : decode cL_law 238 = .ok (.invokestatic 66, 3) := by decide +kernel
theorem dL_law_241 : decode cL_law 241 = .ok (.iadd, 1) := by decide +kernel
theorem dL_law_242 : decode cL_law 242 = .ok (.aload_n 2, 1) := by decide +kernel
theorem dL_law_243 : decode cL_law 243 = .ok (.aload_n 3, 1) := by decide +kernel
theorem dL_law_244 : decode cL_law 244 = .ok (.aload 4, 2) := by decide +kernel
theorem dL_law_246 : decode cL_law 246 = .ok (.aload 5, 2) := by decide +kernel
theorem dL_law_248 : decode cL_law 248 = .ok (.invokestatic 95, 3) := by decide +kernel
theorem dL_law_251 : decode cL_law 251 = .ok (.ifCond .ne 5, 3) := by decide +kernel
theorem dL_law_254 : decode cL_law 254 = .ok (.iconst 0, 1) := by decide +kernel
theorem dL_law_255 : decode cL_law 255 = .ok (.ireturn, 1) := by decide +kernel
theorem dL_law_256 : decode cL_law 256 = .ok (.iinc 6 1, 3) := by decide +kernel
theorem dL_law_259 : decode cL_law 259 = .ok (.goto (-147), 3) := by decide +kernel
theorem dL_law_262 : decode cL_law 262 = .ok (.iconst 1, 1) := by decide +kernel
theorem dL_law_263 : decode cL_law 263 = .ok (.ireturn, 1) := by decide +kernel
end
section
/-! ===== the logical memory: group, object, slot; every int of a field or an array is nI of a Nat ===== -/
def fU {α : Type} (f : Nat → α) (i : Nat) (x : α) : Nat → α := fun j => if j = i then x else f j
theorem fU_s {α : Type} (f : Nat → α) (i : Nat) (x : α) : fU f i x i = x := if_pos rfl
theorem fU_n {α : Type} (f : Nat → α) {i j : Nat} (x : α) (h : ¬ j = i) : fU f i x j = f j := if_neg h
theorem fU_u {α : Type} (f : Nat → α) (i : Nat) (x y : α) : fU (fU f i x) i y = fU f i y := by
  funext j
  unfold fU
  by_cases h : j = i
  · rw [if_pos h, if_pos h]
  · rw [if_neg h, if_neg h, if_neg h]
theorem fU_self {α : Type} (f : Nat → α) (i : Nat) : fU f i (f i) = f := by
  funext j
  unfold fU
  by_cases h : j = i
  · rw [if_pos h, h]
  · rw [if_neg h]
theorem fU_map {α β : Type} (h : α → β) (f : Nat → α) (i : Nat) (x : α) (j : Nat) : h (fU f i x j) = fU (fun k => h (f k)) i (h x) j := by
  unfold fU
  by_cases e : j = i
  · rw [if_pos e, if_pos e]
  · rw [if_neg e, if_neg e]
abbrev gM : Type := Nat → Nat → Nat → Nat
/-- an object's slots anew -/
def gP (mem : gM) (k o : Nat) (f : Nat → Nat) : gM := fU mem k (fU (mem k) o f)
theorem gP_s (mem : gM) (k o : Nat) (f : Nat → Nat) : gP mem k o f k o = f := by unfold gP; rw [fU_s, fU_s]
theorem gP_k (mem : gM) (k o : Nat) (f : Nat → Nat) : gP mem k o f k = fU (mem k) o f := by unfold gP; rw [fU_s]
theorem gP_n (mem : gM) {k o k' o' : Nat} (f : Nat → Nat) (h : ¬ (k' = k ∧ o' = o)) : gP mem k o f k' o' = mem k' o' := by
  unfold gP
  by_cases e : k' = k
  · subst e
    rw [fU_s, fU_n _ _ (fun z => h ⟨rfl, z⟩)]
  · rw [fU_n _ _ e]
theorem gP_nk (mem : gM) {k o k' : Nat} (f : Nat → Nat) (h : ¬ k' = k) : gP mem k o f k' = mem k' := by
  unfold gP
  rw [fU_n _ _ h]
theorem gP_u (mem : gM) (k o : Nat) (f g : Nat → Nat) : gP (gP mem k o f) k o g = gP mem k o g := by
  unfold gP
  rw [fU_s, fU_u, fU_u]
theorem gP_self (mem : gM) (k o : Nat) : gP mem k o (mem k o) = mem := by
  unfold gP
  rw [fU_self, fU_self]
/-! what the addresses are, the array classes (0 int, 1 char, 2 Machine), where our own cells begin, how many arrays of the law stand -/
abbrev gX : Type := va_G × (Nat → Nat → Nat) × (Nat → ClassId) × Nat × Nat
def gD (X : gX) : va_G := X.1
def gAd (X : gX) : Nat → Nat → Nat := X.2.1
def gCl (X : gX) : Nat → ClassId := X.2.2.1
def gSz (X : gX) : Nat := X.2.2.2.1
def gXt (X : gX) : Nat := X.2.2.2.2
def gA (X : gX) : Nat → Prop := fun q => gSz X ≤ q
def gAr (X : gX) (n : Nat) (g : Nat → Nat) : va_E := .inl (gCl X 0, n, .inl (fun j => nI (g j)))
def gRw (X : gX) (k a : Nat) : va_E := .inr (5, [.ref (gAd X k a)])
def gEm (X : gX) (k : Nat) (g : Nat → Nat) (o : Nat) : va_E := match o with
  | 0 => .inr (4, [.ref (gAd X k 1), .ref (gAd X k 12), .ref (gAd X k 15), .int (nI (g 3)), .int (nI (g 4)), .int (nI (g 5)), .int (nI (g 6)), .int (nI (g 7))])
  | 1 => .inr (0, [.ref (gAd X k 2), .ref (gAd X k 4), .ref (gAd X k 6), .ref (gAd X k 8), .ref (gAd X k 10)])
  | 2 => gRw X k 3
  | 3 => gAr X 100 g
  | 4 => gRw X k 5
  | 5 => gAr X 8 g
  | 6 => gRw X k 7
  | 7 => gAr X 4 g
  | 8 => gRw X k 9
  | 9 => gAr X 8 g
  | 10 => gRw X k 11
  | 11 => gAr X 8 g
  | 12 => .inr (2, [.ref (gAd X k 13), .int (nI (g 1))])
  | 13 => gRw X k 14
  | 14 => gAr X 24 g
  | 15 => .inr (7, [.ref (gAd X k 16), .int (nI (g 1))])
  | 16 => gRw X k 17
  | _ => gAr X 36 g
def gEf (X : gX) (g : Nat → Nat) (o : Nat) : va_E := match o with
  | 0 => .inr (8, [.ref (gAd X 0 0), .ref (gAd X 1 0), .ref (gAd X 2 0), .ref (gAd X 7 1), .ref (gAd X 7 3), .ref (gAd X 7 5), .int (nI (g 6))])
  | 1 => .inr (3, [.ref (gAd X 7 2), .int (nI (g 1))])
  | 2 => .inl (gCl X 2, 4, .inr (.inr (.inr (.inr (fun j => some (gAd X (g j) 0))))))
  | 3 => .inr (6, [.ref (gAd X 7 4), .int (nI (g 1))])
  | 4 => .inl (gCl X 1, 80, .inl (fun j => nI (g j)))
  | 5 => .inr (1, [.ref (gAd X 7 6), .int (nI (g 1)), .int (nI (g 2)), .int (nI (g 3))])
  | 6 => gRw X 7 7
  | _ => gAr X 16 g
def gLn (o : Nat) : Nat := match o with
  | 0 => 36
  | 1 => 52
  | 2 => 48
  | _ => 28
/-- what an object's cell holds, by its slots -/
def gE (X : gX) (k o : Nat) (g : Nat → Nat) : va_E := if k < 7 then gEm X k g o else if k = 7 then gEf X g o else gAr X (gLn o) g
theorem gE_m {X : gX} {k : Nat} (h : k < 7) (o : Nat) (g : Nat → Nat) : gE X k o g = gEm X k g o := if_pos h
theorem gE_f (X : gX) (o : Nat) (g : Nat → Nat) : gE X 7 o g = gEf X g o := rfl
theorem gE_l {X : gX} {k : Nat} (h : 7 < k) (o : Nat) (g : Nat → Nat) : gE X k o g = gAr X (gLn o) g := by
  unfold gE
  rw [if_neg (by omega), if_neg (by omega)]
def gIds : List (Nat × Nat) := (List.range 7).flatMap (fun k => (List.range 18).map (fun o => (k, o))) ++ (List.range 8).map (fun o => (7, o))
theorem gI_m {k o : Nat} (hk : k < 7) (ho : o < 18) : (k, o) ∈ gIds := List.mem_append_left _ (List.mem_flatMap.mpr ⟨k, List.mem_range.mpr hk, List.mem_map.mpr ⟨o, List.mem_range.mpr ho, rfl⟩⟩)
theorem gI_f {o : Nat} (ho : o < 8) : (7, o) ∈ gIds := List.mem_append_right _ (List.mem_map.mpr ⟨o, List.mem_range.mpr ho, rfl⟩)
theorem gIds_len : gIds.length = 134 := by decide +kernel
theorem gIds_inj0 : ∀ i, i < 134 → ∀ j, j < 134 → gIds[i]? = gIds[j]? → i = j := by decide +kernel
theorem gIds_lt : ∀ q ∈ gIds, q.1 < 8 ∧ (q.1 < 7 → q.2 < 18) ∧ (q.1 = 7 → q.2 < 8) := by decide +kernel
/-- the law's arrays -/
def gLx (n : Nat) : List (Nat × Nat) := (List.range n).map (fun i => (8 + i / 4, i % 4))
def gId (X : gX) : List (Nat × Nat) := gIds ++ gLx (gXt X)
theorem gIx {X : gX} {q : Nat × Nat} (h : q ∈ gIds) : q ∈ gId X := List.mem_append_left _ h
theorem gLx_mem {n k o : Nat} (hk : 8 ≤ k) (ho : o < 4) (h : 4 * (k - 8) + o < n) : (k, o) ∈ gLx n := List.mem_map.mpr ⟨4 * (k - 8) + o, List.mem_range.mpr h, by rw [show 8 + (4 * (k - 8) + o) / 4 = k by omega, show (4 * (k - 8) + o) % 4 = o by omega]⟩
theorem gLx_at {n i : Nat} {q : Nat × Nat} (h : (gLx n)[i]? = some q) : i < n ∧ q.1 = 8 + i / 4 ∧ q.2 = i % 4 := by
  unfold gLx at h
  rw [List.getElem?_map] at h
  obtain ⟨z, hz, e⟩ := Option.map_eq_some_iff.mp h
  have h1 := List.getElem?_eq_some_iff.mp hz
  obtain ⟨h2, h3⟩ := h1
  rw [List.getElem_range] at h3
  rw [List.length_range] at h2
  subst h3
  rw [← e]
  exact ⟨h2, rfl, rfl⟩
theorem gId_at {X : gX} {i : Nat} {q : Nat × Nat} (h : (gId X)[i]? = some q) : (i < 134 ∧ gIds[i]? = some q) ∨ (134 ≤ i ∧ (gLx (gXt X))[i - 134]? = some q) := by
  unfold gId at h
  by_cases c : i < 134
  · rw [List.getElem?_append_left (by rw [gIds_len]; exact c)] at h
    exact Or.inl ⟨c, h⟩
  · rw [List.getElem?_append_right (by rw [gIds_len]; omega), gIds_len] at h
    exact Or.inr ⟨by omega, h⟩
theorem gIds_inj {X : gX} {i j : Nat} {q : Nat × Nat} (hi : (gId X)[i]? = some q) (hj : (gId X)[j]? = some q) : i = j := by
  rcases gId_at hi with ⟨a1, a2⟩ | ⟨a1, a2⟩
  · rcases gId_at hj with ⟨b1, b2⟩ | ⟨b1, b2⟩
    · exact gIds_inj0 i a1 j b1 (a2.trans b2.symm)
    · have h1 := (gIds_lt _ (List.mem_of_getElem? a2)).1
      have h2 := (gLx_at b2).2.1
      omega
  · rcases gId_at hj with ⟨b1, b2⟩ | ⟨b1, b2⟩
    · have h1 := (gIds_lt _ (List.mem_of_getElem? b2)).1
      have h2 := (gLx_at a2).2.1
      omega
    · obtain ⟨-, h1, h2⟩ := gLx_at a2
      obtain ⟨-, h3, h4⟩ := gLx_at b2
      omega
def gWs (X : gX) (mem : gM) : va_W := (gId X).map (fun q => (gAd X q.1 q.2, gE X q.1 q.2 (mem q.1 q.2)))
theorem gWs_at {X : gX} {mem : gM} {q0 k o : Nat} (h : (gId X)[q0]? = some (k, o)) : (gWs X mem)[q0]? = some (gAd X k o, gE X k o (mem k o)) := by
  unfold gWs
  rw [List.getElem?_map, h]
  rfl
theorem gWs_set {X : gX} {mem : gM} {q0 k o : Nat} (h : (gId X)[q0]? = some (k, o)) (f : Nat → Nat) : (gWs X mem).set q0 (gAd X k o, gE X k o f) = gWs X (gP mem k o f) := by
  have hl : q0 < (gWs X mem).length := (List.getElem?_eq_some_iff.mp (gWs_at (X := X) (mem := mem) h)).1
  apply List.ext_getElem?
  intro j
  by_cases hj : j = q0
  · subst hj
    rw [List.getElem?_set_self hl, gWs_at h, gP_s]
  · rw [List.getElem?_set_ne (Ne.symm hj)]
    cases hq : (gId X)[j]? with
    | none =>
      unfold gWs
      rw [List.getElem?_map, List.getElem?_map, hq]
      rfl
    | some q =>
      obtain ⟨k', o'⟩ := q
      rw [gWs_at hq, gWs_at hq, gP_n]
      rintro ⟨e1, e2⟩
      subst e1
      subst e2
      exact hj (gIds_inj hq h)
def gRep (X : gX) (mem : gM) (H : Heap) : Prop := va_P (gD X) vwCl (gWs X mem) H
def gInj (X : gX) : Prop := ∀ mem : gM, va_D (gA X) (gWs X mem)
def gTy (X : gX) : List (ClassId × FieldType) := [(gCl X 0, .int), (gCl X 1, .char), (gCl X 2, .object RX4)]
/-- two memories that agree where a cell can show it -/
theorem gRep_congr {X : gX} {mem mem' : gM} {H : Heap} (h : gRep X mem H) (he : ∀ k o, (k, o) ∈ gId X → ∀ D cl, va_at D cl (gAd X k o, gE X k o (mem k o)) H → va_at D cl (gAd X k o, gE X k o (mem' k o)) H) : gRep X mem' H := by
  intro k q hq
  unfold gWs at hq
  rw [List.getElem?_map] at hq
  cases hi : (gId X)[k]? with
  | none => rw [hi] at hq; cases hq
  | some z =>
    obtain ⟨k', o'⟩ := z
    rw [hi] at hq
    cases hq
    exact he k' o' (List.mem_of_getElem? hi) _ _ (h k _ (gWs_at hi))
/-- an int array's cell is what stands below its length -/
theorem gAr_congr {X : gX} {D : va_G} {cl : List vw_C} {a n : Nat} {f g : Nat → Nat} {H : Heap} (he : ∀ j, j < n → f j = g j) (h : va_at D cl (a, gAr X n f) H) : va_at D cl (a, gAr X n g) H := by
  have e : vp_cell (gCl X 0) (n, .inl (fun j => nI (f j))) = vp_cell (gCl X 0) (n, .inl (fun j => nI (g j))) := by
    rw [vp_cell_i, vp_cell_i]
    unfold arrV
    congr 1
    apply Array.ext
    · simp
    · intro i h1 h2
      simp only [Array.getElem_ofFn]
      rw [he i (by simpa using h1)]
  show H[a]? = some (vp_cell (gCl X 0) (n, .inl (fun j => nI (g j))))
  rw [← e]
  exact h
end
section
def gNf : List (String × Nat × String × String × String × String) := [(RX8, 210, "FarBanks$Banks", "cells", "LFarBanks$Row;", "FarBanks"), (RX8, 69, "FarBanks$Banks", "alone", "LFarBanks$Row;", "FarBanks"), (RX8, 83, "FarBanks$Banks", "shown", "LFarBanks$Row;", "FarBanks"), (RX4, 93, "FarBanks$Banks", "shown", "LFarBanks$Row;", "FarBanks"), (RX8, 188, "FarBanks$Banks", "written", "LFarBanks$Row;", "FarBanks"), (RX8, 191, "FarBanks$Banks", "refused", "LFarBanks$Row;", "FarBanks"), (RX4, 58, "FarBanks$Frames", "size", "I", "FarBanks"), (RX8, 194, "FarBanks$Frames", "size", "I", "FarBanks"), (RX8, 117, "FarBanks$Trail", "total", "I", "FarBanks"), (RX8, 47, "FarBanks$Machine", "banks", "LFarBanks$Banks;", "FarBanks"), (RX8, 179, "FarBanks$Machine", "frames", "LFarBanks$Frames;", "FarBanks"), (RX8, 113, "FarBanks$Machine", "trail", "LFarBanks$Trail;", "FarBanks"), (RX8, 207, "FarBanks$Machine", "number", "I", "FarBanks"), (RX8, 100, "FarBanks$Machine", "place", "I", "FarBanks"), (RX8, 110, "FarBanks$Machine", "reason", "I", "FarBanks"), (RX8, 96, "FarBanks$Machine", "strict", "I", "FarBanks"), (RX8, 217, "FarBanks$Machine", "calls", "I", "FarBanks"), (RX8, 154, "FarBanks$History", "size", "I", "FarBanks"), (RX8, 134, "FarBanks$Text", "length", "I", "FarBanks")]
def gNm : List (String × Nat × MethodName × String) := [(RX8, 9, yX4_init, "FarBanks"), (RX4, 20, yX2_init, "FarBanks"), (RX4, 27, yX7_init, "FarBanks"), (RX3, 17, yX4_init, "FarBanks"), (RX8, 31, yX6_init, "FarBanks"), (RX8, 38, yX1_init, "FarBanks")]
theorem fn_X8_210 : (RX8, 210, "FarBanks$Banks", "cells", "LFarBanks$Row;", "FarBanks") ∈ gNf := List.mem_of_getElem? (i := 0) rfl
theorem fn_X8_69 : (RX8, 69, "FarBanks$Banks", "alone", "LFarBanks$Row;", "FarBanks") ∈ gNf := List.mem_of_getElem? (i := 1) rfl
theorem fn_X8_83 : (RX8, 83, "FarBanks$Banks", "shown", "LFarBanks$Row;", "FarBanks") ∈ gNf := List.mem_of_getElem? (i := 2) rfl
theorem fn_X4_93 : (RX4, 93, "FarBanks$Banks", "shown", "LFarBanks$Row;", "FarBanks") ∈ gNf := List.mem_of_getElem? (i := 3) rfl
theorem fn_X8_188 : (RX8, 188, "FarBanks$Banks", "written", "LFarBanks$Row;", "FarBanks") ∈ gNf := List.mem_of_getElem? (i := 4) rfl
theorem fn_X8_191 : (RX8, 191, "FarBanks$Banks", "refused", "LFarBanks$Row;", "FarBanks") ∈ gNf := List.mem_of_getElem? (i := 5) rfl
theorem fn_X4_58 : (RX4, 58, "FarBanks$Frames", "size", "I", "FarBanks") ∈ gNf := List.mem_of_getElem? (i := 6) rfl
theorem fn_X8_194 : (RX8, 194, "FarBanks$Frames", "size", "I", "FarBanks") ∈ gNf := List.mem_of_getElem? (i := 7) rfl
theorem fn_X8_117 : (RX8, 117, "FarBanks$Trail", "total", "I", "FarBanks") ∈ gNf := List.mem_of_getElem? (i := 8) rfl
theorem fn_X8_47 : (RX8, 47, "FarBanks$Machine", "banks", "LFarBanks$Banks;", "FarBanks") ∈ gNf := List.mem_of_getElem? (i := 9) rfl
theorem fn_X8_179 : (RX8, 179, "FarBanks$Machine", "frames", "LFarBanks$Frames;", "FarBanks") ∈ gNf := List.mem_of_getElem? (i := 10) rfl
theorem fn_X8_113 : (RX8, 113, "FarBanks$Machine", "trail", "LFarBanks$Trail;", "FarBanks") ∈ gNf := List.mem_of_getElem? (i := 11) rfl
theorem fn_X8_207 : (RX8, 207, "FarBanks$Machine", "number", "I", "FarBanks") ∈ gNf := List.mem_of_getElem? (i := 12) rfl
theorem fn_X8_100 : (RX8, 100, "FarBanks$Machine", "place", "I", "FarBanks") ∈ gNf := List.mem_of_getElem? (i := 13) rfl
theorem fn_X8_110 : (RX8, 110, "FarBanks$Machine", "reason", "I", "FarBanks") ∈ gNf := List.mem_of_getElem? (i := 14) rfl
theorem fn_X8_96 : (RX8, 96, "FarBanks$Machine", "strict", "I", "FarBanks") ∈ gNf := List.mem_of_getElem? (i := 15) rfl
theorem fn_X8_217 : (RX8, 217, "FarBanks$Machine", "calls", "I", "FarBanks") ∈ gNf := List.mem_of_getElem? (i := 16) rfl
theorem fn_X8_154 : (RX8, 154, "FarBanks$History", "size", "I", "FarBanks") ∈ gNf := List.mem_of_getElem? (i := 17) rfl
theorem fn_X8_134 : (RX8, 134, "FarBanks$Text", "length", "I", "FarBanks") ∈ gNf := List.mem_of_getElem? (i := 18) rfl
theorem mn_X8_9 : (RX8, 9, yX4_init, "FarBanks") ∈ gNm := List.mem_of_getElem? (i := 0) rfl
theorem mn_X4_20 : (RX4, 20, yX2_init, "FarBanks") ∈ gNm := List.mem_of_getElem? (i := 1) rfl
theorem mn_X4_27 : (RX4, 27, yX7_init, "FarBanks") ∈ gNm := List.mem_of_getElem? (i := 2) rfl
theorem mn_X3_17 : (RX3, 17, yX4_init, "FarBanks") ∈ gNm := List.mem_of_getElem? (i := 3) rfl
theorem mn_X8_31 : (RX8, 31, yX6_init, "FarBanks") ∈ gNm := List.mem_of_getElem? (i := 4) rfl
theorem mn_X8_38 : (RX8, 38, yX1_init, "FarBanks") ∈ gNm := List.mem_of_getElem? (i := 5) rfl
theorem gNf_tbl : ∀ q ∈ gNf, Cond.fieldLinkNest q.1 q.2.1 q.2.2.1 q.2.2.2.1 q.2.2.2.2.1 q.2.2.2.2.2 ∈ lw_tbl := List.forall_mem_cons.mpr ⟨tb1 51 rfl, List.forall_mem_cons.mpr ⟨tb1 53 rfl, List.forall_mem_cons.mpr ⟨tb1 55 rfl, List.forall_mem_cons.mpr ⟨tb1 56 rfl, List.forall_mem_cons.mpr ⟨tb1 58 rfl, List.forall_mem_cons.mpr ⟨tb1 60 rfl, List.forall_mem_cons.mpr ⟨tb1 82 rfl, List.forall_mem_cons.mpr ⟨tb1 83 rfl, List.forall_mem_cons.mpr ⟨tb1 99 rfl, List.forall_mem_cons.mpr ⟨tb1 106 rfl, List.forall_mem_cons.mpr ⟨tb1 108 rfl, List.forall_mem_cons.mpr ⟨tb1 110 rfl, List.forall_mem_cons.mpr ⟨tb1 112 rfl, List.forall_mem_cons.mpr ⟨tb1 114 rfl, List.forall_mem_cons.mpr ⟨tb1 116 rfl, List.forall_mem_cons.mpr ⟨tb1 118 rfl, List.forall_mem_cons.mpr ⟨tb1 120 rfl, List.forall_mem_cons.mpr ⟨tb1 149 rfl, List.forall_mem_cons.mpr ⟨tb1 162 rfl, fun _ h => absurd h List.not_mem_nil⟩⟩⟩⟩⟩⟩⟩⟩⟩⟩⟩⟩⟩⟩⟩⟩⟩⟩⟩
theorem gNm_tbl : ∀ q ∈ gNm, Cond.methodLinkNest q.1 q.2.1 q.2.2.1 q.2.2.2 ∈ lw_tbl := List.forall_mem_cons.mpr ⟨tb1 22 rfl, List.forall_mem_cons.mpr ⟨tb1 74 rfl, List.forall_mem_cons.mpr ⟨tb1 91 rfl, List.forall_mem_cons.mpr ⟨tb1 146 rfl, List.forall_mem_cons.mpr ⟨tb1 157 rfl, List.forall_mem_cons.mpr ⟨tb1 171 rfl, fun _ h => absurd h List.not_mem_nil⟩⟩⟩⟩⟩⟩
/-! ===== what stands still: tables, nest words ===== -/
def gNst (U : State) : Prop := (∀ q ∈ gNf, va_Nw (.fieldLinkNest q.1 q.2.1 q.2.2.1 q.2.2.2.1 q.2.2.2.2.1 q.2.2.2.2.2) U) ∧ ∀ q ∈ gNm, va_Nw (.methodLinkNest q.1 q.2.1 q.2.2.1 q.2.2.2) U
def gEnv (X : gX) (U : State) (H : Heap) : Prop := va_K (gD X) vwCl (gTy X) U ∧ gNst U ∧ gSz X ≤ H.size
theorem gEnv.to {X : gX} {s t : State} {H0 H1 : Heap} (h : gEnv X s H0) (hW : s.WarmedH t.vm) (hz : H0.size ≤ H1.size) (_hq : ∀ q : Nat, q < H0.size → ¬ gA X q → H1[q]? = H0[q]?) : gEnv X t H1 := by
  obtain ⟨h1, h2, h3⟩ := h
  exact ⟨va_K.moved hW.alike h1, ⟨fun q hq => va_Nw.warmF hW (h2.1 q hq), fun q hq => va_Nw.warmM hW (h2.2 q hq)⟩, Nat.le_trans h3 hz⟩
def gB (X : gX) (mem : gM) (U : State) : Prop := gRep X mem U.heap ∧ gEnv X U U.heap
def gQ (X : gX) (post : Option Value → gM → Prop) : Array Value → State → Outcome → State → Prop := fun _ st oc t => (∃ (v : Option Value) (mem' : gM), oc = .returned v ∧ post v mem' ∧ gB X mem' t) ∧ va_F (gA X) st t
/-- a method's contract: from any heap that holds mem it ends, with an answer and a memory of which 'post' holds -/
def gMt (l : Launch) (y : MethodName) (cc : ByteArray) (nL : Nat) (ret : Option FieldType) (fr lo : Nat) (X : gX) (av : List Value) (mem : gM) (post : Option Value → gM → Prop) : Prop :=
  Met l y (.code y cc nL ret :: wA) { frames := fr, cells := 0, slots := 0, locals := lo } (va_Pc av (gB X mem)) (gQ X post) 0 0 (gA X)
/-- the same, with the answer and the memory told -/
def gF (l : Launch) (y : MethodName) (cc : ByteArray) (nL : Nat) (ret : Option FieldType) (fr lo : Nat) (X : gX) (av : List Value) (mem : gM) (r : Option Value) (mem2 : gM) : Prop :=
  gMt l y cc nL ret fr lo X av mem (fun v m => v = r ∧ m = mem2)
/-- where a body stands: the machine, its code, the words, what stands still -/
def gC (X : gX) (own : String) (cc : ByteArray) (ret : Option FieldType) (nL : Nat) (p : Program) (s : State) (m : MethodId) (args : Array Value) (meth : Method) (c : Code) : Prop :=
  p.tables.exec = Jvm.exec ∧ c.code = cc ∧ meth.sig.returnType = ret ∧ c.maxLocals = nL ∧ s.vm.findClass own = some m.cls ∧ (∀ w ∈ wA, w.before args s = true) ∧ meth.locks = false ∧ gInj X ∧ gEnv X s s.heap
/-! locals -/
def gL (ls : Array Slot) (vs : List (Option Value)) : Prop := ls.size = vs.length ∧ lv_wf ls ∧ ∀ (i : Nat) (v : Value), vs[i]? = some (some v) → v.category = 1 ∧ ls[i]? = some (.val v)
theorem gL.at {ls : Array Slot} {vs : List (Option Value)} (h : gL ls vs) (i : Nat) {v : Value} (hi : vs[i]? = some (some v)) : ls[i]? = some (.val v) := (h.2.2 i v hi).2
def gLs (vs : List (Option Value)) : List (Nat × Value) := (List.range vs.length).filterMap (fun i => (vs[i]?.join).map (fun v => (i, v)))
theorem gLs_mem {vs : List (Option Value)} {q : Nat × Value} : q ∈ gLs vs ↔ vs[q.1]? = some (some q.2) := by
  unfold gLs
  rw [List.mem_filterMap]
  constructor
  · rintro ⟨i, -, hi⟩
    cases h : vs[i]? with
    | none => rw [h] at hi; cases hi
    | some o =>
      cases o with
      | none => rw [h] at hi; cases hi
      | some v => rw [h] at hi; cases hi; exact h
  · intro h
    exact ⟨q.1, List.mem_range.mpr (List.getElem?_eq_some_iff.mp h).1, by rw [h]; rfl⟩
theorem gL.has {ls : Array Slot} {vs : List (Option Value)} (h : gL ls vs) : lv_has ls vs.length (gLs vs) := ⟨h.1, h.2.1, fun q hq => (h.2.2 q.1 q.2 (gLs_mem.mp hq)).2⟩
theorem gL.set {ls ls' : Array Slot} {vs : List (Option Value)} {i : Nat} {v : Value} (h : gL ls vs) (hi : i < vs.length) (hc : v.category = 1) (h' : lv_has ls' vs.length ((i, v) :: (gLs vs).filter (fun q => !(q.1 == i) && !(q.1 + 1 == i && q.2.category == 2)))) : gL ls' (vs.set i (some v)) := by
  refine ⟨by rw [List.length_set]; exact h'.1, h'.2.1, fun j w hj => ?_⟩
  by_cases e : j = i
  · subst e
    rw [List.getElem?_set_self hi] at hj
    cases hj
    exact ⟨hc, h'.2.2 (j, v) List.mem_cons_self⟩
  · rw [List.getElem?_set_ne (Ne.symm e)] at hj
    obtain ⟨c1, -⟩ := h.2.2 j w hj
    refine ⟨c1, h'.2.2 (j, w) (List.mem_cons_of_mem _ (List.mem_filter.mpr ⟨gLs_mem.mpr hj, ?_⟩))⟩
    simp [e, c1]
theorem gL.entry (vs : List Value) (n : Nat) (hc : ∀ v ∈ vs, v.category = 1) (hn : vs.length ≤ n) : gL ((lg_sl vs ++ List.replicate (n - (lg_sl vs).length) Slot.unset).toArray) (vs.map some ++ List.replicate (n - vs.length) none) := by
  have e : ∀ us : List Value, (∀ v ∈ us, v.category = 1) → lg_sl us = us.map Slot.val := by
    intro us
    induction us with
    | nil => intro _; rfl
    | cons a t ih =>
      intro h
      have ha : ¬ a.category = 2 := by rw [h a List.mem_cons_self]; decide
      show (if a.category = 2 then [Slot.val a, .second] else [Slot.val a]) ++ lg_sl t = _
      rw [if_neg ha, ih (fun v hv => h v (List.mem_cons_of_mem _ hv))]
      rfl
  rw [e vs hc, List.length_map]
  have hget : ∀ j : Nat, ((vs.map Slot.val ++ List.replicate (n - vs.length) Slot.unset).toArray)[j]? = if j < vs.length then (vs[j]?).map Slot.val else if j < n then some Slot.unset else none := by
    intro j
    rw [List.getElem?_toArray]
    by_cases h1 : j < vs.length
    · rw [if_pos h1, List.getElem?_append_left (by rw [List.length_map]; exact h1), List.getElem?_map]
    · rw [if_neg h1, List.getElem?_append_right (by rw [List.length_map]; omega), List.length_map, List.getElem?_replicate]
      by_cases h2 : j < n
      · rw [if_pos h2, if_pos (by omega)]
      · rw [if_neg h2, if_neg (by omega)]
  refine ⟨by simp, ⟨fun i v hi hv => ?_, fun i hi => ?_⟩, fun i v hi => ?_⟩
  · rw [hget i] at hi
    by_cases h1 : i < vs.length
    · rw [if_pos h1, List.getElem?_eq_getElem h1] at hi
      cases hi
      rw [hc _ (List.getElem_mem h1)] at hv
      cases hv
    · rw [if_neg h1] at hi
      by_cases h2 : i < n
      · rw [if_pos h2] at hi; cases hi
      · rw [if_neg h2] at hi; cases hi
  · rw [hget i] at hi
    by_cases h1 : i < vs.length
    · rw [if_pos h1, List.getElem?_eq_getElem h1] at hi
      cases hi
    · rw [if_neg h1] at hi
      by_cases h2 : i < n
      · rw [if_pos h2] at hi; cases hi
      · rw [if_neg h2] at hi; cases hi
  · by_cases h1 : i < vs.length
    · rw [List.getElem?_append_left (by rw [List.length_map]; exact h1), List.getElem?_map, List.getElem?_eq_getElem h1] at hi
      cases hi
      refine ⟨hc _ (List.getElem_mem h1), ?_⟩
      rw [hget i, if_pos h1, List.getElem?_eq_getElem h1]
      rfl
    · rw [List.getElem?_append_right (by rw [List.length_map]; omega), List.getElem?_replicate] at hi
      by_cases h2 : i - (vs.map some).length < n - vs.length
      · rw [if_pos h2] at hi; cases hi
      · rw [if_neg h2] at hi; cases hi
/-- a body walked is a contract -/
theorem gMt.of {l : Launch} {own : String} {y : MethodName} {cc : ByteArray} {nL : Nat} {ret : Option FieldType} {fr lo : Nat} {X : gX} {av : List Value} {mem : gM} {post : Option Value → gM → Prop} (hy : plainName y.cls = true) (ho : y.cls = own) (hI : gInj X) (hc : ∀ v ∈ av, v.category = 1) (hn : av.length ≤ nL)
    (body : ∀ (p : Program) (e : Env) (s : State) (m : MethodId) (args : Array Value) (below : List Frame) (meth : Method) (c : Code) (ls : Array Slot) (H : Heap) (locs : List Loc), gC X own cc ret nL p s m args meth c → meth.name = y.name → gL ls (av.map some ++ List.replicate (nL - av.length) none) → gRep X mem H → va_S (gA X) s.heap H locs →
      W p l e { frames := fr, cells := 0, slots := 0, locals := lo } s m args below meth c H locs 0 0 (MQ below (gQ X post) args s 0 0 (gA X)) (F0 m 0 ls [])) : gMt l y cc nL ret fr lo X av mem post := by
  refine Met.ofW (cc := cc) (maxL := nL) (ret := ret) hy rfl ?_
  intro p e s m args below meth c s₁ B hml hv
  obtain ⟨rfl, hR, hE⟩ := hv
  have hts := atoms_spec (ws := Cond.code y cc nL ret :: wA) B.pre
  rw [lg_entry_eq]
  exact body p e s m _ below meth c _ s.heap [] ⟨B.exec, B.bytes, B.returns, hml, by rw [← ho]; exact findClass_of_methodNamed B.named, fun w hw => hts w (List.mem_cons_of_mem _ hw), B.notSynchronized, hI, hE⟩ (name_of_methodNamed B.named B.method).1 (gL.entry av nL hc hn) hR va_S.rf
section GB
variable {p : Program} {l : Launch} {e : Env} {R : Room} {s : State} {m : MethodId} {args : Array Value} {below : List Frame} {meth : Method} {c : Code} {H : Heap} {locs : List Loc} {cells slots : Nat} {Q : State → Prop}
variable {cc : ByteArray} {pc : Nat} {ls : Array Slot} {rest : List Value} {X : gX} {own : String} {ret : Option FieldType} {nL : Nat} {mem : gM}
theorem gC.env {H1 : Heap} {t : State} {locs1 : List Loc} (C : gC X own cc ret nL p s m args meth c) (hS : va_S (gA X) s.heap H1 locs1) (ht : t.heap = H1) (hW : s.WarmedH t.vm) : gEnv X t t.heap := by
  obtain ⟨-, -, -, -, -, -, -, -, hE⟩ := C
  rw [ht]
  exact hE.to hW hS.1 hS.2.1
/-! ends -/
theorem g_iret {R0 : Room} {post : Option Value → gM → Prop} {v : Int32} (C : gC X own cc (some .int) nL p s m args meth c) (hR : gRep X mem H) (hS : va_S (gA X) s.heap H locs) (hdg : decode cc pc = .ok (.ireturn, 1)) (hp : post (some (.int v)) mem) : W p l e R0 s m args below meth c H locs 0 0 (MQ below (gQ X post) args s 0 0 (gA X)) (F0 m pc ls [.int v]) := by
  have C' := C
  obtain ⟨hx, hb, hr, -, -, -, hlocks, -, -⟩ := C
  exact W.iret hx hb hr (fun t ht hW => ⟨⟨_, mem, rfl, hp, by rw [ht]; exact hR, C'.env hS ht hW⟩, hS.F ht⟩) hS.2.2 hdg hlocks
theorem g_zret {R0 : Room} {post : Option Value → gM → Prop} {v : Int32} {ty : FieldType} (C : gC X own cc (some ty) nL p s m args meth c) (hR : gRep X mem H) (hS : va_S (gA X) s.heap H locs) (hdg : decode cc pc = .ok (.ireturn, 1)) (hn : narrow ty (.int v) = .int v) (hp : post (some (.int v)) mem) : W p l e R0 s m args below meth c H locs 0 0 (MQ below (gQ X post) args s 0 0 (gA X)) (F0 m pc ls [.int v]) := by
  have C' := C
  obtain ⟨hx, hb, hr, -, -, -, hlocks, -, -⟩ := C
  exact W.zret hx hb hr hn (fun t ht hW => ⟨⟨_, mem, rfl, hp, by rw [ht]; exact hR, C'.env hS ht hW⟩, hS.F ht⟩) hS.2.2 hdg hlocks
theorem g_vret {R0 : Room} {post : Option Value → gM → Prop} (C : gC X own cc none nL p s m args meth c) (hR : gRep X mem H) (hS : va_S (gA X) s.heap H locs) (hdg : decode cc pc = .ok (.return_, 1)) (hp : post none mem) : W p l e R0 s m args below meth c H locs 0 0 (MQ below (gQ X post) args s 0 0 (gA X)) (F0 m pc ls []) := by
  have C' := C
  obtain ⟨hx, hb, hr, -, -, -, hlocks, -, -⟩ := C
  exact W.vret hx hb hr (fun t ht hW => ⟨⟨_, mem, rfl, hp, by rw [ht]; exact hR, C'.env hS ht hW⟩, hS.F ht⟩) hS.2.2 hdg hlocks
theorem g_aret {R0 : Room} {post : Option Value → gM → Prop} {a : Nat} {cn : String} (C : gC X own cc (some (.object cn)) nL p s m args meth c) (hR : gRep X mem H) (hS : va_S (gA X) s.heap H locs) (hdg : decode cc pc = .ok (.areturn, 1)) (hp : post (some (.ref a)) mem) : W p l e R0 s m args below meth c H locs 0 0 (MQ below (gQ X post) args s 0 0 (gA X)) (F0 m pc ls [.ref a]) := by
  have C' := C
  obtain ⟨hx, hb, hr, -, -, -, hlocks, -, -⟩ := C
  exact W.aret hx hb hr (Or.inl ⟨_, rfl⟩) (Or.inr ⟨_, rfl⟩) (fun t ht hW => ⟨⟨_, mem, rfl, hp, by rw [ht]; exact hR, C'.env hS ht hW⟩, hS.F ht⟩) hS.2.2 hdg hlocks
/-! locals and numbers -/
theorem g_iload_n {vs : List (Option Value)} {k : Fin 4} {x : Int32} (C : gC X own cc ret nL p s m args meth c) (hl : gL ls vs) (hdg : decode cc pc = .ok (.iload_n k, 1)) (hi : vs[(k : Nat)]? = some (some (.int x))) (kk : W p l e R s m args below meth c H locs cells slots Q (F0 m (pc + 1) ls (.int x :: rest))) : W p l e R s m args below meth c H locs cells slots Q (F0 m pc ls rest) := lv_iload_n C.1 C.2.1 hdg rfl (hl.at _ hi) kk
theorem g_iload {vs : List (Option Value)} {i : Nat} {x : Int32} (C : gC X own cc ret nL p s m args meth c) (hl : gL ls vs) (hdg : decode cc pc = .ok (.iload i, 2)) (hi : vs[i]? = some (some (.int x))) (kk : W p l e R s m args below meth c H locs cells slots Q (F0 m (pc + 2) ls (.int x :: rest))) : W p l e R s m args below meth c H locs cells slots Q (F0 m pc ls rest) := lv_iload C.1 C.2.1 hdg (hl.at _ hi) kk
theorem g_aload_n {vs : List (Option Value)} {k : Fin 4} {x : Nat} (C : gC X own cc ret nL p s m args meth c) (hl : gL ls vs) (hdg : decode cc pc = .ok (.aload_n k, 1)) (hi : vs[(k : Nat)]? = some (some (.ref x))) (kk : W p l e R s m args below meth c H locs cells slots Q (F0 m (pc + 1) ls (.ref x :: rest))) : W p l e R s m args below meth c H locs cells slots Q (F0 m pc ls rest) := lv_aload_n C.1 C.2.1 hdg rfl (hl.at _ hi) kk
theorem g_aload {vs : List (Option Value)} {i : Nat} {x : Nat} (C : gC X own cc ret nL p s m args meth c) (hl : gL ls vs) (hdg : decode cc pc = .ok (.aload i, 2)) (hi : vs[i]? = some (some (.ref x))) (kk : W p l e R s m args below meth c H locs cells slots Q (F0 m (pc + 2) ls (.ref x :: rest))) : W p l e R s m args below meth c H locs cells slots Q (F0 m pc ls rest) := lv_aload C.1 C.2.1 hdg (hl.at _ hi) kk
theorem g_istore_n {vs : List (Option Value)} {k : Fin 4} {x : Int32} (C : gC X own cc ret nL p s m args meth c) (hl : gL ls vs) (hdg : decode cc pc = .ok (.istore_n k, 1)) (hi : (k : Nat) < vs.length) (kk : ∀ ls' : Array Slot, gL ls' (vs.set k (some (.int x))) → W p l e R s m args below meth c H locs cells slots Q (F0 m (pc + 1) ls' rest)) : W p l e R s m args below meth c H locs cells slots Q (F0 m pc ls (.int x :: rest)) := lv_istore_n C.1 C.2.1 hdg rfl hl.has hi rfl (fun ls' h' => kk ls' (hl.set hi rfl h'))
theorem g_istore {vs : List (Option Value)} {i : Nat} {x : Int32} (C : gC X own cc ret nL p s m args meth c) (hl : gL ls vs) (hdg : decode cc pc = .ok (.istore i, 2)) (hi : i < vs.length) (kk : ∀ ls' : Array Slot, gL ls' (vs.set i (some (.int x))) → W p l e R s m args below meth c H locs cells slots Q (F0 m (pc + 2) ls' rest)) : W p l e R s m args below meth c H locs cells slots Q (F0 m pc ls (.int x :: rest)) := lv_istore C.1 C.2.1 hdg hl.has hi rfl (fun ls' h' => kk ls' (hl.set hi rfl h'))
theorem g_astore_n {vs : List (Option Value)} {k : Fin 4} {x : Nat} (C : gC X own cc ret nL p s m args meth c) (hl : gL ls vs) (hdg : decode cc pc = .ok (.astore_n k, 1)) (hi : (k : Nat) < vs.length) (kk : ∀ ls' : Array Slot, gL ls' (vs.set k (some (.ref x))) → W p l e R s m args below meth c H locs cells slots Q (F0 m (pc + 1) ls' rest)) : W p l e R s m args below meth c H locs cells slots Q (F0 m pc ls (.ref x :: rest)) := lv_astore_n C.1 C.2.1 hdg rfl hl.has hi rfl (fun ls' h' => kk ls' (hl.set hi rfl h'))
theorem g_astore {vs : List (Option Value)} {i : Nat} {x : Nat} (C : gC X own cc ret nL p s m args meth c) (hl : gL ls vs) (hdg : decode cc pc = .ok (.astore i, 2)) (hi : i < vs.length) (kk : ∀ ls' : Array Slot, gL ls' (vs.set i (some (.ref x))) → W p l e R s m args below meth c H locs cells slots Q (F0 m (pc + 2) ls' rest)) : W p l e R s m args below meth c H locs cells slots Q (F0 m pc ls (.ref x :: rest)) := lv_astore C.1 C.2.1 hdg hl.has hi rfl (fun ls' h' => kk ls' (hl.set hi rfl h'))
/-- a local that is a Nat grows -/
theorem g_iinc {vs : List (Option Value)} {i k a : Nat} {n : Int} (C : gC X own cc ret nL p s m args meth c) (hl : gL ls vs) (hdg : decode cc pc = .ok (.iinc i n, 3)) (hi : vs[i]? = some (some (.int (nI a)))) (hn : Int32.ofInt n = nI k) (kk : ∀ ls' : Array Slot, gL ls' (vs.set i (some (.int (nI (a + k))))) → W p l e R s m args below meth c H locs cells slots Q (F0 m (pc + 3) ls' rest)) : W p l e R s m args below meth c H locs cells slots Q (F0 m pc ls rest) := by
  have hlt := (List.getElem?_eq_some_iff.mp hi).1
  obtain ⟨q, hq⟩ := List.getElem?_of_mem (gLs_mem (q := (i, .int (nI a))).mpr hi)
  exact lv_iinc (v := nI (a + k)) C.1 C.2.1 hdg hl.has hq (by rw [hn, nI_add]) hlt rfl (fun ls' h' => kk ls' (hl.set hlt rfl h'))
/-- a local that is a Nat falls -/
theorem g_idec {vs : List (Option Value)} {i a : Nat} {n : Int} (C : gC X own cc ret nL p s m args meth c) (hl : gL ls vs) (hdg : decode cc pc = .ok (.iinc i n, 3)) (hi : vs[i]? = some (some (.int (nI (a + 1))))) (hn : Int32.ofInt n = -1) (kk : ∀ ls' : Array Slot, gL ls' (vs.set i (some (.int (nI a)))) → W p l e R s m args below meth c H locs cells slots Q (F0 m (pc + 3) ls' rest)) : W p l e R s m args below meth c H locs cells slots Q (F0 m pc ls rest) := by
  have hlt := (List.getElem?_eq_some_iff.mp hi).1
  obtain ⟨q, hq⟩ := List.getElem?_of_mem (gLs_mem (q := (i, .int (nI (a + 1)))).mpr hi)
  exact lv_iinc (v := nI a) C.1 C.2.1 hdg hl.has hq (by rw [hn, pk_m1]) hlt rfl (fun ls' h' => kk ls' (hl.set hlt rfl h'))
theorem g_iconst {n : Int} (k : Nat) (C : gC X own cc ret nL p s m args meth c) (hdg : decode cc pc = .ok (.iconst n, 1)) (hn : Int32.ofInt n = nI k) (kk : W p l e R s m args below meth c H locs cells slots Q (F0 m (pc + 1) ls (.int (nI k) :: rest))) : W p l e R s m args below meth c H locs cells slots Q (F0 m pc ls rest) := lv_iconst C.1 C.2.1 hdg hn kk
theorem g_iconstM {n : Int} (v : Int32) (C : gC X own cc ret nL p s m args meth c) (hdg : decode cc pc = .ok (.iconst n, 1)) (hn : Int32.ofInt n = v) (kk : W p l e R s m args below meth c H locs cells slots Q (F0 m (pc + 1) ls (.int v :: rest))) : W p l e R s m args below meth c H locs cells slots Q (F0 m pc ls rest) := lv_iconst C.1 C.2.1 hdg hn kk
theorem g_bipush {n : Int} (k : Nat) (C : gC X own cc ret nL p s m args meth c) (hdg : decode cc pc = .ok (.bipush n, 2)) (hn : (Int8.ofInt n).toInt32 = nI k) (kk : W p l e R s m args below meth c H locs cells slots Q (F0 m (pc + 2) ls (.int (nI k) :: rest))) : W p l e R s m args below meth c H locs cells slots Q (F0 m pc ls rest) := lv_bipush C.1 C.2.1 hdg hn kk
theorem g_bipushM {n : Int} (v : Int32) (C : gC X own cc ret nL p s m args meth c) (hdg : decode cc pc = .ok (.bipush n, 2)) (hn : (Int8.ofInt n).toInt32 = v) (kk : W p l e R s m args below meth c H locs cells slots Q (F0 m (pc + 2) ls (.int v :: rest))) : W p l e R s m args below meth c H locs cells slots Q (F0 m pc ls rest) := lv_bipush C.1 C.2.1 hdg hn kk
theorem g_sipush {n : Int} (k : Nat) (C : gC X own cc ret nL p s m args meth c) (hdg : decode cc pc = .ok (.sipush n, 3)) (hn : (Int16.ofInt n).toInt32 = nI k) (kk : W p l e R s m args below meth c H locs cells slots Q (F0 m (pc + 3) ls (.int (nI k) :: rest))) : W p l e R s m args below meth c H locs cells slots Q (F0 m pc ls rest) := lv_sipush C.1 C.2.1 hdg hn kk
theorem g_ldc {index : Nat} {v : Int32} (k : Nat) (C : gC X own cc ret nL p s m args meth c) (hw : Cond.constant own index v ∈ wA) (hv : v = nI k) (hdg : decode cc pc = .ok (.ldc index, 2)) (kk : W p l e R s m args below meth c H locs cells slots Q (F0 m (pc + 2) ls (.int (nI k) :: rest))) : W p l e R s m args below meth c H locs cells slots Q (F0 m pc ls rest) := by
  subst hv
  obtain ⟨hx, hb, -, -, hown, hA, -, -, -⟩ := C
  exact lv_ldc hx hb hown (hA _ hw) hdg kk
theorem g_iadd {a b : Nat} (C : gC X own cc ret nL p s m args meth c) (hdg : decode cc pc = .ok (.iadd, 1)) (kk : W p l e R s m args below meth c H locs cells slots Q (F0 m (pc + 1) ls (.int (nI (a + b)) :: rest))) : W p l e R s m args below meth c H locs cells slots Q (F0 m pc ls (.int (nI b) :: .int (nI a) :: rest)) := lv_iadd C.1 C.2.1 hdg (by rw [nI_add]; exact kk)
theorem g_isub {a b : Nat} (C : gC X own cc ret nL p s m args meth c) (hdg : decode cc pc = .ok (.isub, 1)) (h : b ≤ a) (kk : W p l e R s m args below meth c H locs cells slots Q (F0 m (pc + 1) ls (.int (nI (a - b)) :: rest))) : W p l e R s m args below meth c H locs cells slots Q (F0 m pc ls (.int (nI b) :: .int (nI a) :: rest)) := lv_isub C.1 C.2.1 hdg (by rw [pk_sub h]; exact kk)
theorem g_imul {a b : Nat} (C : gC X own cc ret nL p s m args meth c) (hdg : decode cc pc = .ok (.imul, 1)) (kk : W p l e R s m args below meth c H locs cells slots Q (F0 m (pc + 1) ls (.int (nI (a * b)) :: rest))) : W p l e R s m args below meth c H locs cells slots Q (F0 m pc ls (.int (nI b) :: .int (nI a) :: rest)) := lv_imul C.1 C.2.1 hdg (by rw [pk_mul]; exact kk)
theorem g_idiv {a b : Nat} (C : gC X own cc ret nL p s m args meth c) (hdg : decode cc pc = .ok (.idiv, 1)) (ha : a < 2 ^ 31) (h0 : 0 < b) (hb : b < 2 ^ 31) (kk : W p l e R s m args below meth c H locs cells slots Q (F0 m (pc + 1) ls (.int (nI (a / b)) :: rest))) : W p l e R s m args below meth c H locs cells slots Q (F0 m pc ls (.int (nI b) :: .int (nI a) :: rest)) := lv_idiv C.1 C.2.1 hdg (nI_ne0 h0 hb) (by rw [pk_div ha h0 hb]; exact kk)
theorem g_irem {a b : Nat} (C : gC X own cc ret nL p s m args meth c) (hdg : decode cc pc = .ok (.irem, 1)) (ha : a < 2 ^ 31) (h0 : 0 < b) (hb : b < 2 ^ 31) (kk : W p l e R s m args below meth c H locs cells slots Q (F0 m (pc + 1) ls (.int (nI (a % b)) :: rest))) : W p l e R s m args below meth c H locs cells slots Q (F0 m pc ls (.int (nI b) :: .int (nI a) :: rest)) := lv_irem C.1 C.2.1 hdg (nI_ne0 h0 hb) (by rw [pk_rem ha h0 hb]; exact kk)
theorem g_dup {v : Value} (C : gC X own cc ret nL p s m args meth c) (hdg : decode cc pc = .ok (.dup, 1)) (hc : v.category = 1) (kk : W p l e R s m args below meth c H locs cells slots Q (F0 m (pc + 1) ls (v :: v :: rest))) : W p l e R s m args below meth c H locs cells slots Q (F0 m pc ls (v :: rest)) := lv_dup C.1 C.2.1 hdg hc kk
theorem g_dup2 {v w : Value} (C : gC X own cc ret nL p s m args meth c) (hdg : decode cc pc = .ok (.dup2, 1)) (hv : v.category = 1) (hw : w.category = 1) (kk : W p l e R s m args below meth c H locs cells slots Q (F0 m (pc + 1) ls (v :: w :: v :: w :: rest))) : W p l e R s m args below meth c H locs cells slots Q (F0 m pc ls (v :: w :: rest)) := lv_dup2_11 C.1 C.2.1 hdg hv hw kk
theorem g_pop {v : Value} (C : gC X own cc ret nL p s m args meth c) (hdg : decode cc pc = .ok (.pop, 1)) (hc : v.category = 1) (kk : W p l e R s m args below meth c H locs cells slots Q (F0 m (pc + 1) ls rest)) : W p l e R s m args below meth c H locs cells slots Q (F0 m pc ls (v :: rest)) := lv_pop C.1 C.2.1 hdg hc kk
theorem g_goto {off : Int} {tgt : Nat} (C : gC X own cc ret nL p s m args meth c) (hdg : decode cc pc = .ok (.goto off, 3)) (ht : (pc : Int) + off = (tgt : Int)) (kk : W p l e R s m args below meth c H locs cells slots Q (F0 m tgt ls rest)) : W p l e R s m args below meth c H locs cells slots Q (F0 m pc ls rest) := lv_goto C.1 C.2.1 hdg ht kk
end GB
end
section
/-! ===== rows over the logical memory: branches, fields, arrays, calls ===== -/
section GC
variable {p : Program} {l : Launch} {e : Env} {R : Room} {s : State} {m : MethodId} {args : Array Value} {below : List Frame} {meth : Method} {c : Code} {H : Heap} {locs : List Loc} {cells slots : Nat} {Q : State → Prop}
variable {cc : ByteArray} {pc : Nat} {ls : Array Slot} {rest : List Value} {X : gX} {own : String} {ret : Option FieldType} {nL : Nat} {mem : gM}
theorem g_icmp_eq {a b tgt : Nat} {off : Int} (C : gC X own cc ret nL p s m args meth c) (hdg : decode cc pc = .ok (.if_icmp .eq off, 3)) (ht : (pc : Int) + off = (tgt : Int)) (ha : a < 2 ^ 31) (hb : b < 2 ^ 31) (kt : a = b → W p l e R s m args below meth c H locs cells slots Q (F0 m tgt ls rest)) (kf : ¬ a = b → W p l e R s m args below meth c H locs cells slots Q (F0 m (pc + 3) ls rest)) : W p l e R s m args below meth c H locs cells slots Q (F0 m pc ls (.int (nI b) :: .int (nI a) :: rest)) := lv_icmp_eq C.1 C.2.1 hdg ht (fun h => kt ((nI_eq ha hb).mp h)) (fun h => kf (fun z => h ((nI_eq ha hb).mpr z)))
theorem g_icmp_ne {a b tgt : Nat} {off : Int} (C : gC X own cc ret nL p s m args meth c) (hdg : decode cc pc = .ok (.if_icmp .ne off, 3)) (ht : (pc : Int) + off = (tgt : Int)) (ha : a < 2 ^ 31) (hb : b < 2 ^ 31) (kt : ¬ a = b → W p l e R s m args below meth c H locs cells slots Q (F0 m tgt ls rest)) (kf : a = b → W p l e R s m args below meth c H locs cells slots Q (F0 m (pc + 3) ls rest)) : W p l e R s m args below meth c H locs cells slots Q (F0 m pc ls (.int (nI b) :: .int (nI a) :: rest)) := lv_icmp_ne C.1 C.2.1 hdg ht (fun h => kt (fun z => h ((nI_eq ha hb).mpr z))) (fun h => kf ((nI_eq ha hb).mp h))
theorem g_icmp_lt {a b tgt : Nat} {off : Int} (C : gC X own cc ret nL p s m args meth c) (hdg : decode cc pc = .ok (.if_icmp .lt off, 3)) (ht : (pc : Int) + off = (tgt : Int)) (ha : a < 2 ^ 31) (hb : b < 2 ^ 31) (kt : a < b → W p l e R s m args below meth c H locs cells slots Q (F0 m tgt ls rest)) (kf : b ≤ a → W p l e R s m args below meth c H locs cells slots Q (F0 m (pc + 3) ls rest)) : W p l e R s m args below meth c H locs cells slots Q (F0 m pc ls (.int (nI b) :: .int (nI a) :: rest)) := lv_icmp_lt C.1 C.2.1 hdg ht (fun h => kt ((nI_ltI ha hb).mp h)) (fun h => kf (Nat.not_lt.mp (fun z => h ((nI_ltI ha hb).mpr z))))
theorem g_icmp_ge {a b tgt : Nat} {off : Int} (C : gC X own cc ret nL p s m args meth c) (hdg : decode cc pc = .ok (.if_icmp .ge off, 3)) (ht : (pc : Int) + off = (tgt : Int)) (ha : a < 2 ^ 31) (hb : b < 2 ^ 31) (kt : b ≤ a → W p l e R s m args below meth c H locs cells slots Q (F0 m tgt ls rest)) (kf : a < b → W p l e R s m args below meth c H locs cells slots Q (F0 m (pc + 3) ls rest)) : W p l e R s m args below meth c H locs cells slots Q (F0 m pc ls (.int (nI b) :: .int (nI a) :: rest)) := lv_icmp_ge C.1 C.2.1 hdg ht (fun h => kt ((nI_leI hb ha).mp h)) (fun h => kf (Nat.not_le.mp (fun z => h ((nI_leI hb ha).mpr z))))
theorem g_icmp_gt {a b tgt : Nat} {off : Int} (C : gC X own cc ret nL p s m args meth c) (hdg : decode cc pc = .ok (.if_icmp .gt off, 3)) (ht : (pc : Int) + off = (tgt : Int)) (ha : a < 2 ^ 31) (hb : b < 2 ^ 31) (kt : b < a → W p l e R s m args below meth c H locs cells slots Q (F0 m tgt ls rest)) (kf : a ≤ b → W p l e R s m args below meth c H locs cells slots Q (F0 m (pc + 3) ls rest)) : W p l e R s m args below meth c H locs cells slots Q (F0 m pc ls (.int (nI b) :: .int (nI a) :: rest)) := lv_icmp_gt C.1 C.2.1 hdg ht (fun h => kt ((nI_ltI hb ha).mp h)) (fun h => kf (Nat.not_lt.mp (fun z => h ((nI_ltI hb ha).mpr z))))
theorem g_icmp_le {a b tgt : Nat} {off : Int} (C : gC X own cc ret nL p s m args meth c) (hdg : decode cc pc = .ok (.if_icmp .le off, 3)) (ht : (pc : Int) + off = (tgt : Int)) (ha : a < 2 ^ 31) (hb : b < 2 ^ 31) (kt : a ≤ b → W p l e R s m args below meth c H locs cells slots Q (F0 m tgt ls rest)) (kf : b < a → W p l e R s m args below meth c H locs cells slots Q (F0 m (pc + 3) ls rest)) : W p l e R s m args below meth c H locs cells slots Q (F0 m pc ls (.int (nI b) :: .int (nI a) :: rest)) := lv_icmp_le C.1 C.2.1 hdg ht (fun h => kt ((nI_leI ha hb).mp h)) (fun h => kf (Nat.not_le.mp (fun z => h ((nI_leI ha hb).mpr z))))
theorem g_if_eq {a tgt : Nat} {off : Int} (C : gC X own cc ret nL p s m args meth c) (hdg : decode cc pc = .ok (.ifCond .eq off, 3)) (ht : (pc : Int) + off = (tgt : Int)) (ha : a < 2 ^ 31) (kt : a = 0 → W p l e R s m args below meth c H locs cells slots Q (F0 m tgt ls rest)) (kf : ¬ a = 0 → W p l e R s m args below meth c H locs cells slots Q (F0 m (pc + 3) ls rest)) : W p l e R s m args below meth c H locs cells slots Q (F0 m pc ls (.int (nI a) :: rest)) := lv_if_eq C.1 C.2.1 hdg ht (fun h => kt ((nI_eq ha (by decide)).mp h)) (fun h => kf (fun z => h ((nI_eq ha (by decide)).mpr z)))
theorem g_if_ne {a tgt : Nat} {off : Int} (C : gC X own cc ret nL p s m args meth c) (hdg : decode cc pc = .ok (.ifCond .ne off, 3)) (ht : (pc : Int) + off = (tgt : Int)) (ha : a < 2 ^ 31) (kt : ¬ a = 0 → W p l e R s m args below meth c H locs cells slots Q (F0 m tgt ls rest)) (kf : a = 0 → W p l e R s m args below meth c H locs cells slots Q (F0 m (pc + 3) ls rest)) : W p l e R s m args below meth c H locs cells slots Q (F0 m pc ls (.int (nI a) :: rest)) := lv_if_ne C.1 C.2.1 hdg ht (fun h => kt (fun z => h ((nI_eq ha (by decide)).mpr z))) (fun h => kf ((nI_eq ha (by decide)).mp h))
theorem g_if_gt {a tgt : Nat} {off : Int} (C : gC X own cc ret nL p s m args meth c) (hdg : decode cc pc = .ok (.ifCond .gt off, 3)) (ht : (pc : Int) + off = (tgt : Int)) (ha : a < 2 ^ 31) (kt : 0 < a → W p l e R s m args below meth c H locs cells slots Q (F0 m tgt ls rest)) (kf : a = 0 → W p l e R s m args below meth c H locs cells slots Q (F0 m (pc + 3) ls rest)) : W p l e R s m args below meth c H locs cells slots Q (F0 m pc ls (.int (nI a) :: rest)) := lv_if_gt C.1 C.2.1 hdg ht (fun h => kt ((nI_ltI (by decide) ha).mp h)) (fun h => kf (Nat.le_zero.mp (Nat.not_lt.mp (fun z => h ((nI_ltI (by decide) ha).mpr z)))))
theorem g_if_le {a tgt : Nat} {off : Int} (C : gC X own cc ret nL p s m args meth c) (hdg : decode cc pc = .ok (.ifCond .le off, 3)) (ht : (pc : Int) + off = (tgt : Int)) (ha : a < 2 ^ 31) (kt : a = 0 → W p l e R s m args below meth c H locs cells slots Q (F0 m tgt ls rest)) (kf : 0 < a → W p l e R s m args below meth c H locs cells slots Q (F0 m (pc + 3) ls rest)) : W p l e R s m args below meth c H locs cells slots Q (F0 m pc ls (.int (nI a) :: rest)) := lv_if_le C.1 C.2.1 hdg ht (fun h => kt (Nat.le_zero.mp ((nI_leI ha (by decide)).mp h))) (fun h => kf (Nat.not_le.mp (fun z => h ((nI_leI ha (by decide)).mpr z))))
theorem g_if_lt {a tgt : Nat} {off : Int} (C : gC X own cc ret nL p s m args meth c) (hdg : decode cc pc = .ok (.ifCond .lt off, 3)) (ht : (pc : Int) + off = (tgt : Int)) (ha : a < 2 ^ 31) (kf : W p l e R s m args below meth c H locs cells slots Q (F0 m (pc + 3) ls rest)) : W p l e R s m args below meth c H locs cells slots Q (F0 m pc ls (.int (nI a) :: rest)) := lv_if_lt C.1 C.2.1 hdg ht (fun h => absurd h (nI_pos ha)) (fun _ => kf)
theorem g_if_ge {a tgt : Nat} {off : Int} (C : gC X own cc ret nL p s m args meth c) (hdg : decode cc pc = .ok (.ifCond .ge off, 3)) (ht : (pc : Int) + off = (tgt : Int)) (ha : a < 2 ^ 31) (kt : W p l e R s m args below meth c H locs cells slots Q (F0 m tgt ls rest)) : W p l e R s m args below meth c H locs cells slots Q (F0 m pc ls (.int (nI a) :: rest)) := lv_if_ge C.1 C.2.1 hdg ht (fun _ => kt) (fun h => absurd (nI_pos' ha) h)
theorem g_get {k o ci N index : Nat} {ref Cn : String} {T : u_T} {fs : List Value} {v : Value} (C : gC X own cc ret nL p s m args meth c) (hR : gRep X mem H) (hv : (k, o) ∈ gIds) (hsh : gE X k o (mem k o) = .inr (ci, fs)) (hc : vwCl[ci]? = some (Cn, T, N)) (hin : ∀ w ∈ u_ws Cn T N, w ∈ wA) (i : Nat) (hi : i < N) (hlink : Cond.fieldLink own index ref (T i).2.1 (T i).2.2.1 ∈ wA) (hsame : (T i).1 = ref) (hval : fs[i]? = some v) (hdg : decode cc pc = .ok (.getfield index, 3)) (kk : W p l e R s m args below meth c H locs cells slots Q (F0 m (pc + 3) ls (v :: rest))) : W p l e R s m args below meth c H locs cells slots Q (F0 m pc ls (.ref (gAd X k o) :: rest)) := by
  obtain ⟨hx, hb, -, -, hown, hA, -, -, hE⟩ := C
  obtain ⟨q0, hq⟩ := List.getElem?_of_mem (gIx (X := X) hv)
  have he : (gWs X mem)[q0]? = some (gAd X k o, .inr (ci, fs)) := by rw [gWs_at hq, hsh]
  exact va_get hx hb hA hin hown hE.1 hR q0 he hc i hi (hA _ hlink) (fun x h => by rw [← hsame]; exact h) hval hdg kk
theorem g_getN {k o ci N index : Nat} {ref Cn host : String} {T : u_T} {fs : List Value} {v : Value} (C : gC X own cc ret nL p s m args meth c) (hR : gRep X mem H) (hv : (k, o) ∈ gIds) (hsh : gE X k o (mem k o) = .inr (ci, fs)) (hc : vwCl[ci]? = some (Cn, T, N)) (hin : ∀ w ∈ u_ws Cn T N, w ∈ wA) (i : Nat) (hi : i < N) (hlink : (own, index, ref, (T i).2.1, (T i).2.2.1, host) ∈ gNf) (hsame : (T i).1 = ref) (hval : fs[i]? = some v) (hdg : decode cc pc = .ok (.getfield index, 3)) (kk : W p l e R s m args below meth c H locs cells slots Q (F0 m (pc + 3) ls (v :: rest))) : W p l e R s m args below meth c H locs cells slots Q (F0 m pc ls (.ref (gAd X k o) :: rest)) := by
  obtain ⟨hx, hb, -, -, hown, hA, -, -, hE⟩ := C
  obtain ⟨q0, hq⟩ := List.getElem?_of_mem (gIx (X := X) hv)
  have he : (gWs X mem)[q0]? = some (gAd X k o, .inr (ci, fs)) := by rw [gWs_at hq, hsh]
  have hl := hE.2.1.1 _ hlink
  exact va_getN hx hb hA hin hown hE.1 hR q0 he hc i hi (va_Nw.use rfl hl) (fun x h => by rw [← hsame]; exact h) hval hdg kk
theorem g_put {k o ci N index : Nat} {ref Cn : String} {T : u_T} {fs : List Value} {v : Value} {ty0 : Nat → FieldType} {ty : FieldType} (C : gC X own cc ret nL p s m args meth c) (hR : gRep X mem H) (hS : va_S (gA X) s.heap H locs) (hv : (k, o) ∈ gIds) (hsh : gE X k o (mem k o) = .inr (ci, fs)) (hc : vwCl[ci]? = some (Cn, T, N)) (hin : ∀ w ∈ u_ws Cn T N, w ∈ wA) (hty : ∀ k, k < N → parseFieldDescriptor (T k).2.2.1 = some (ty0 k)) (hnm : ∀ a, a < N → ∀ b, b < N → a ≠ b → (T a).2.1 ≠ (T b).2.1) (i : Nat) (hi : i < N) (hlink : Cond.fieldLink own index ref (T i).2.1 (T i).2.2.1 ∈ wA) (hsame : (T i).1 = ref) (hfin : (T i).2.2.2 = false) (hd : parseFieldDescriptor (T i).2.2.1 = some ty) (hn : narrow ty v = v) (hfit : fits ty v = true) (hl : i < fs.length) (f : Nat → Nat) (hnew : gE X k o f = .inr (ci, fs.set i v)) (hdg : decode cc pc = .ok (.putfield index, 3)) (kk : ∀ (H1 : Heap) (locs1 : List Loc), gRep X (gP mem k o f) H1 → va_S (gA X) s.heap H1 locs1 → W p l e R s m args below meth c H1 locs1 cells slots Q (F0 m (pc + 3) ls rest)) : W p l e R s m args below meth c H locs cells slots Q (F0 m pc ls (v :: .ref (gAd X k o) :: rest)) := by
  obtain ⟨hx, hb, -, -, hown, hA, -, hI, hE⟩ := C
  obtain ⟨q0, hq⟩ := List.getElem?_of_mem (gIx (X := X) hv)
  have he : (gWs X mem)[q0]? = some (gAd X k o, .inr (ci, fs)) := by rw [gWs_at hq, hsh]
  refine va_put hx hb hA hin ty0 hty hnm hown hE.1 hR (hI mem) hS q0 he hc i hi (hA _ hlink) (fun x h => by rw [← hsame]; exact h) hfin hd hn hfit hl hdg (fun H1 locs1 hP hD hS1 => kk H1 locs1 ?_ hS1)
  rw [← hnew, gWs_set hq] at hP
  exact hP
theorem g_putN {k o ci N index : Nat} {ref Cn host : String} {T : u_T} {fs : List Value} {v : Value} {ty0 : Nat → FieldType} {ty : FieldType} (C : gC X own cc ret nL p s m args meth c) (hR : gRep X mem H) (hS : va_S (gA X) s.heap H locs) (hv : (k, o) ∈ gIds) (hsh : gE X k o (mem k o) = .inr (ci, fs)) (hc : vwCl[ci]? = some (Cn, T, N)) (hin : ∀ w ∈ u_ws Cn T N, w ∈ wA) (hty : ∀ k, k < N → parseFieldDescriptor (T k).2.2.1 = some (ty0 k)) (hnm : ∀ a, a < N → ∀ b, b < N → a ≠ b → (T a).2.1 ≠ (T b).2.1) (i : Nat) (hi : i < N) (hlink : (own, index, ref, (T i).2.1, (T i).2.2.1, host) ∈ gNf) (hsame : (T i).1 = ref) (hfin : (T i).2.2.2 = false) (hd : parseFieldDescriptor (T i).2.2.1 = some ty) (hn : narrow ty v = v) (hfit : fits ty v = true) (hl : i < fs.length) (f : Nat → Nat) (hnew : gE X k o f = .inr (ci, fs.set i v)) (hdg : decode cc pc = .ok (.putfield index, 3)) (kk : ∀ (H1 : Heap) (locs1 : List Loc), gRep X (gP mem k o f) H1 → va_S (gA X) s.heap H1 locs1 → W p l e R s m args below meth c H1 locs1 cells slots Q (F0 m (pc + 3) ls rest)) : W p l e R s m args below meth c H locs cells slots Q (F0 m pc ls (v :: .ref (gAd X k o) :: rest)) := by
  obtain ⟨hx, hb, -, -, hown, hA, -, hI, hE⟩ := C
  obtain ⟨q0, hq⟩ := List.getElem?_of_mem (gIx (X := X) hv)
  have he : (gWs X mem)[q0]? = some (gAd X k o, .inr (ci, fs)) := by rw [gWs_at hq, hsh]
  have hl9 := hE.2.1.1 _ hlink
  refine va_putN hx hb hA hin ty0 hty hnm hown hE.1 hR (hI mem) hS q0 he hc i hi (va_Nw.use rfl hl9) (fun x h => by rw [← hsame]; exact h) hfin hd hn hfit hl hdg (fun H1 locs1 hP hD hS1 => kk H1 locs1 ?_ hS1)
  rw [← hnew, gWs_set hq] at hP
  exact hP
/-! arrays of ints -/
theorem g_iald {k o n i : Nat} (C : gC X own cc ret nL p s m args meth c) (hR : gRep X mem H) (hv : (k, o) ∈ gId X) (hsh : ∀ g, gE X k o g = gAr X n g) (hi : i < n) (hn : n < 2 ^ 31) (hdg : decode cc pc = .ok (.iaload, 1)) (kk : W p l e R s m args below meth c H locs cells slots Q (F0 m (pc + 1) ls (.int (nI (mem k o i)) :: rest))) : W p l e R s m args below meth c H locs cells slots Q (F0 m pc ls (.int (nI i) :: .ref (gAd X k o) :: rest)) := by
  obtain ⟨hx, hb, -, -, hown, hA, -, -, hE⟩ := C
  obtain ⟨q0, hq⟩ := List.getElem?_of_mem hv
  have he : (gWs X mem)[q0]? = some (gAd X k o, .inl (gCl X 0, n, .inl (fun j => nI (mem k o j)))) := by rw [gWs_at hq, hsh]; rfl
  refine va_iald hx hb hE.1 hR q0 0 he rfl (vp_in_nI hi hn) hdg ?_
  rw [nI_clamp (by omega)]
  exact kk
theorem g_iast {k o n i x : Nat} (C : gC X own cc ret nL p s m args meth c) (hR : gRep X mem H) (hS : va_S (gA X) s.heap H locs) (hv : (k, o) ∈ gId X) (hsh : ∀ g, gE X k o g = gAr X n g) (hi : i < n) (hn : n < 2 ^ 31) (hdg : decode cc pc = .ok (.iastore, 1)) (kk : ∀ (H1 : Heap) (locs1 : List Loc), gRep X (gP mem k o (fU (mem k o) i x)) H1 → va_S (gA X) s.heap H1 locs1 → W p l e R s m args below meth c H1 locs1 cells slots Q (F0 m (pc + 1) ls rest)) : W p l e R s m args below meth c H locs cells slots Q (F0 m pc ls (.int (nI x) :: .int (nI i) :: .ref (gAd X k o) :: rest)) := by
  obtain ⟨hx, hb, -, -, hown, hA, -, hI, hE⟩ := C
  obtain ⟨q0, hq⟩ := List.getElem?_of_mem hv
  have he : (gWs X mem)[q0]? = some (gAd X k o, .inl (gCl X 0, n, .inl (fun j => nI (mem k o j)))) := by rw [gWs_at hq, hsh]; rfl
  refine va_iast hx hb hE.1 hR (hI mem) hS q0 0 he rfl (vp_in_nI hi hn) hdg (fun H1 locs1 hP hD hS1 => kk H1 locs1 ?_ hS1)
  rw [nI_clamp (by omega)] at hP
  have e9 : (.inl (gCl X 0, n, .inl (upd (fun j => nI (mem k o j)) i (nI x))) : va_E) = gE X k o (fU (mem k o) i x) := by
    rw [hsh]
    show _ = (.inl (gCl X 0, n, .inl (fun j => nI (fU (mem k o) i x j))) : va_E)
    have e8 : upd (fun j => nI (mem k o j)) i (nI x) = fun j => nI (fU (mem k o) i x j) := by
      funext j
      unfold upd fU
      by_cases h : j = i
      · rw [if_pos h, if_pos h]
      · rw [if_neg h, if_neg h]
    rw [e8]
  rw [e9, gWs_set hq] at hP
  exact hP
theorem g_alen {k o n : Nat} (C : gC X own cc ret nL p s m args meth c) (hR : gRep X mem H) (hv : (k, o) ∈ gId X) (hsh : ∀ g, gE X k o g = gAr X n g) (hdg : decode cc pc = .ok (.arraylength, 1)) (kk : W p l e R s m args below meth c H locs cells slots Q (F0 m (pc + 1) ls (.int (nI n) :: rest))) : W p l e R s m args below meth c H locs cells slots Q (F0 m pc ls (.ref (gAd X k o) :: rest)) := by
  obtain ⟨hx, hb, -, -, hown, hA, -, -, hE⟩ := C
  obtain ⟨q0, hq⟩ := List.getElem?_of_mem hv
  have he : (gWs X mem)[q0]? = some (gAd X k o, .inl (gCl X 0, n, .inl (fun j => nI (mem k o j)))) := by rw [gWs_at hq, hsh]; rfl
  exact va_alen hx hb hE.1 hR q0 0 he (ty := .int) rfl rfl hdg kk
/-! the text's characters, the history's states -/
theorem g_cald {i : Nat} (C : gC X own cc ret nL p s m args meth c) (hR : gRep X mem H) (hi : i < 80) (hdg : decode cc pc = .ok (.caload, 1)) (kk : W p l e R s m args below meth c H locs cells slots Q (F0 m (pc + 1) ls (.int (nI (mem 7 4 i)) :: rest))) : W p l e R s m args below meth c H locs cells slots Q (F0 m pc ls (.int (nI i) :: .ref (gAd X 7 4) :: rest)) := by
  obtain ⟨hx, hb, -, -, hown, hA, -, -, hE⟩ := C
  obtain ⟨q0, hq⟩ := List.getElem?_of_mem (gIx (X := X) <| gI_f (o := 4) (by decide))
  have he : (gWs X mem)[q0]? = some (gAd X 7 4, .inl (gCl X 1, 80, .inl (fun j => nI (mem 7 4 j)))) := by rw [gWs_at hq]; rfl
  refine va_cald hx hb hE.1 hR q0 1 he rfl (vp_in_nI hi (by decide)) hdg ?_
  rw [nI_clamp (by omega)]
  exact kk
theorem g_cast {i x : Nat} (C : gC X own cc ret nL p s m args meth c) (hR : gRep X mem H) (hS : va_S (gA X) s.heap H locs) (hi : i < 80) (hx9 : x < 65536) (hdg : decode cc pc = .ok (.castore, 1)) (kk : ∀ (H1 : Heap) (locs1 : List Loc), gRep X (gP mem 7 4 (fU (mem 7 4) i x)) H1 → va_S (gA X) s.heap H1 locs1 → W p l e R s m args below meth c H1 locs1 cells slots Q (F0 m (pc + 1) ls rest)) : W p l e R s m args below meth c H locs cells slots Q (F0 m pc ls (.int (nI x) :: .int (nI i) :: .ref (gAd X 7 4) :: rest)) := by
  obtain ⟨hx, hb, -, -, hown, hA, -, hI, hE⟩ := C
  obtain ⟨q0, hq⟩ := List.getElem?_of_mem (gIx (X := X) <| gI_f (o := 4) (by decide))
  have he : (gWs X mem)[q0]? = some (gAd X 7 4, .inl (gCl X 1, 80, .inl (fun j => nI (mem 7 4 j)))) := by rw [gWs_at hq]; rfl
  refine va_cast hx hb hE.1 hR (hI mem) hS q0 1 he rfl (vp_in_nI hi (by decide)) hdg (fun H1 locs1 hP hD hS1 => kk H1 locs1 ?_ hS1)
  have e7 : vp_nar .char (nI x) = nI x := by
    unfold vp_nar
    rw [(pk_charN hx9).1]
  rw [nI_clamp (by omega), e7] at hP
  have e9 : (.inl (gCl X 1, 80, .inl (upd (fun j => nI (mem 7 4 j)) i (nI x))) : va_E) = gE X 7 4 (fU (mem 7 4) i x) := by
    show _ = (.inl (gCl X 1, 80, .inl (fun j => nI (fU (mem 7 4) i x j))) : va_E)
    have e8 : upd (fun j => nI (mem 7 4 j)) i (nI x) = fun j => nI (fU (mem 7 4) i x j) := by
      funext j
      unfold upd fU
      by_cases h : j = i
      · rw [if_pos h, if_pos h]
      · rw [if_neg h, if_neg h]
    rw [e8]
  rw [e9, gWs_set hq] at hP
  exact hP
theorem g_clen (C : gC X own cc ret nL p s m args meth c) (hR : gRep X mem H) (hdg : decode cc pc = .ok (.arraylength, 1)) (kk : W p l e R s m args below meth c H locs cells slots Q (F0 m (pc + 1) ls (.int (nI 80) :: rest))) : W p l e R s m args below meth c H locs cells slots Q (F0 m pc ls (.ref (gAd X 7 4) :: rest)) := by
  obtain ⟨hx, hb, -, -, hown, hA, -, -, hE⟩ := C
  obtain ⟨q0, hq⟩ := List.getElem?_of_mem (gIx (X := X) <| gI_f (o := 4) (by decide))
  have he : (gWs X mem)[q0]? = some (gAd X 7 4, .inl (gCl X 1, 80, .inl (fun j => nI (mem 7 4 j)))) := by rw [gWs_at hq]; rfl
  exact va_alen hx hb hE.1 hR q0 1 he (ty := .char) rfl rfl hdg kk
theorem g_slen (C : gC X own cc ret nL p s m args meth c) (hR : gRep X mem H) (hdg : decode cc pc = .ok (.arraylength, 1)) (kk : W p l e R s m args below meth c H locs cells slots Q (F0 m (pc + 1) ls (.int (nI 4) :: rest))) : W p l e R s m args below meth c H locs cells slots Q (F0 m pc ls (.ref (gAd X 7 2) :: rest)) := by
  obtain ⟨hx, hb, -, -, hown, hA, -, -, hE⟩ := C
  obtain ⟨q0, hq⟩ := List.getElem?_of_mem (gIx (X := X) <| gI_f (o := 2) (by decide))
  have he : (gWs X mem)[q0]? = some (gAd X 7 2, .inl (gCl X 2, 4, .inr (.inr (.inr (.inr (fun j => some (gAd X (mem 7 2 j) 0))))))) := by rw [gWs_at hq]; rfl
  exact va_alen hx hb hE.1 hR q0 2 he (ty := .object RX4) rfl rfl hdg kk
theorem g_aald {i : Nat} (C : gC X own cc ret nL p s m args meth c) (hR : gRep X mem H) (hi : i < 4) (hdg : decode cc pc = .ok (.aaload, 1)) (kk : W p l e R s m args below meth c H locs cells slots Q (F0 m (pc + 1) ls (.ref (gAd X (mem 7 2 i) 0) :: rest))) : W p l e R s m args below meth c H locs cells slots Q (F0 m pc ls (.int (nI i) :: .ref (gAd X 7 2) :: rest)) := by
  obtain ⟨hx, hb, -, -, hown, hA, -, -, hE⟩ := C
  obtain ⟨q0, hq⟩ := List.getElem?_of_mem (gIx (X := X) <| gI_f (o := 2) (by decide))
  have he : (gWs X mem)[q0]? = some (gAd X 7 2, .inl (gCl X 2, 4, .inr (.inr (.inr (.inr (fun j => some (gAd X (mem 7 2 j) 0))))))) := by rw [gWs_at hq]; rfl
  refine va_aldq hx hb hE.1 hR q0 2 he rfl (vp_in_nI hi (by decide)) hdg ?_
  rw [nI_clamp (by omega)]
  exact kk
theorem g_aast {i q : Nat} (C : gC X own cc ret nL p s m args meth c) (hR : gRep X mem H) (hS : va_S (gA X) s.heap H locs) (hi : i < 4) (hq7 : q < 7) (hdg : decode cc pc = .ok (.aastore, 1)) (kk : ∀ (H1 : Heap) (locs1 : List Loc), gRep X (gP mem 7 2 (fU (mem 7 2) i q)) H1 → va_S (gA X) s.heap H1 locs1 → W p l e R s m args below meth c H1 locs1 cells slots Q (F0 m (pc + 1) ls rest)) : W p l e R s m args below meth c H locs cells slots Q (F0 m pc ls (.ref (gAd X q 0) :: .int (nI i) :: .ref (gAd X 7 2) :: rest)) := by
  obtain ⟨hx, hb, -, -, hown, hA, -, hI, hE⟩ := C
  obtain ⟨q0, hq⟩ := List.getElem?_of_mem (gIx (X := X) <| gI_f (o := 2) (by decide))
  obtain ⟨q1, hq1⟩ := List.getElem?_of_mem (gIx (X := X) <| gI_m (o := 0) hq7 (by decide))
  have he : (gWs X mem)[q0]? = some (gAd X 7 2, .inl (gCl X 2, 4, .inr (.inr (.inr (.inr (fun j => some (gAd X (mem 7 2 j) 0))))))) := by rw [gWs_at hq]; rfl
  have he1 : (gWs X mem)[q1]? = some (gAd X q 0, gEm X q (mem q 0) 0) := by rw [gWs_at hq1, gE_m hq7]
  refine va_astq hx hb hE.1 hR (hI mem) hS q0 2 q1 4 he rfl he1 rfl (vp_in_nI hi (by decide)) hdg (fun H1 locs1 hP hD hS1 => kk H1 locs1 ?_ hS1)
  rw [nI_clamp (by omega)] at hP
  have e9 : (.inl (gCl X 2, 4, .inr (.inr (.inr (.inr (va_up (fun j => some (gAd X (mem 7 2 j) 0)) i (some (gAd X q 0))))))) : va_E) = gE X 7 2 (fU (mem 7 2) i q) := by
    show _ = (.inl (gCl X 2, 4, .inr (.inr (.inr (.inr (fun j => some (gAd X (fU (mem 7 2) i q j) 0)))))) : va_E)
    have e8 : va_up (fun j => some (gAd X (mem 7 2 j) 0)) i (some (gAd X q 0)) = fun j => some (gAd X (fU (mem 7 2) i q j) 0) := by
      funext j
      unfold va_up fU
      by_cases h : j = i
      · rw [if_pos h, if_pos h]
      · rw [if_neg h, if_neg h]
    rw [e8]
  rw [e9, gWs_set hq] at hP
  exact hP
/-! calls -/
def gRc (k o : Nat) (cn : String) : Prop := (k, o) ∈ gIds ∧ ∀ (X : gX) (g : Nat → Nat), ∃ (ci : Nat) (T : u_T) (N : Nat) (fs : List Value), gE X k o g = .inr (ci, fs) ∧ vwCl[ci]? = some (cn, T, N)
def gMd (y : MethodName) (cc : ByteArray) (nL : Nat) (ret : Option FieldType) (n : Nat) : Prop := Cond.instanceMethod y ∈ wA ∧ Cond.selects y.cls y y ∈ wA ∧ Cond.code y cc nL ret ∈ wA ∧ Cond.initialized y.cls ∈ wA ∧ (y.cls ≠ "java/lang/invoke/MethodHandle" ∧ y.cls ≠ "java/lang/invoke/VarHandle" ∧ (parseMethodDescriptor y.desc).map (fun d => d.parameters.length) = some n)
def gMs (y : MethodName) (cc : ByteArray) (nL : Nat) (ret : Option FieldType) (n : Nat) : Prop := Cond.static y ∈ wA ∧ Cond.code y cc nL ret ∈ wA ∧ Cond.initialized y.cls ∈ wA ∧ (y.cls ≠ "java/lang/invoke/MethodHandle" ∧ y.cls ≠ "java/lang/invoke/VarHandle" ∧ (parseMethodDescriptor y.desc).map (fun d => d.parameters.length) = some n)
theorem g_good {y : MethodName} {cc2 : ByteArray} {nL2 : Nat} {ret2 : Option FieldType} (h : Cond.code y cc2 nL2 ret2 ∈ wA) : GoodIn wA (Cond.code y cc2 nL2 ret2 :: wA) := fun w hw => by
  rcases List.mem_cons.mp hw with e | h'
  · subst e
    exact wA_good _ h
  · exact wA_good w h'
theorem gB_blind {av : List Value} : FrameBlind (va_Pc av (gB X mem)) := fun a U g mk q => ⟨q.1, q.2.1, q.2.2.to (State.WarmedH.refl U) (Nat.le_refl _) (fun _ _ _ => rfl)⟩
theorem g_go {a : Array Value} {post : Option Value → gM → Prop} {st0 : List Value} (hr : va_Run p l e R s m args below meth c H locs cells slots 0 0 (F0 m pc ls st0) rest (gQ X post a) (gA X)) (hS : va_S (gA X) s.heap H locs) (kk : ∀ (v : Option Value) (mem' : gM) (H1 : Heap) (locs1 : List Loc), post v mem' → gRep X mem' H1 → va_S (gA X) s.heap H1 locs1 → W p l e R s m args below meth c H1 locs1 cells slots Q (F0 m (pc + 3) ls (v.toList ++ rest))) : W p l e R s m args below meth c H locs cells slots Q (F0 m pc ls st0) := by
  intro T hT X9
  obtain ⟨v, st₀, t, T', L, h0, X', hL, e1, e2, ⟨⟨v2, mem', hv, hp, hb⟩, hz, hk⟩, st⟩ := hr T hT X9
  cases hv
  rw [h0] at hz hk
  obtain ⟨t2, a1, b1⟩ := kk v mem' T'.heap (locs ++ L) hp (by rw [e1]; exact hb.1)
    ⟨Nat.le_trans hS.1 (by rw [e1]; exact hz), fun q h1 h2 => by rw [e1, hk q (Nat.lt_of_lt_of_le h1 hS.1) h2]; exact hS.2.1 q h1 h2, fun q hq => by
      rcases List.mem_append.mp hq with h | h
      · exact hS.2.2 q h
      · exact hL q h⟩ T' rfl X'
  exact ⟨t2, st t2 a1, b1⟩
theorem g_callV {k o index fr2 lo2 nL2 n : Nat} {y : MethodName} {cc2 : ByteArray} {ret2 : Option FieldType} {As st0 : List Value} {post : Option Value → gM → Prop} (C : gC X own cc ret nL p s m args meth c) (hz : ls.size = nL) (hR : gRep X mem H) (hS : va_S (gA X) s.heap H locs) (hrc : gRc k o y.cls) (md : gMd y cc2 nL2 ret2 n) (hlink : Cond.methodLink own index y ∈ wA) (hM : gMt l y cc2 nL2 ret2 fr2 lo2 X (.ref (gAd X k o) :: As) mem post) (hn : As.length = n) (hst : st0 = As.reverse ++ .ref (gAd X k o) :: rest) (hroom : fr2 + 1 ≤ R.frames ∧ 8 + (nL2 + 11) + lo2 ≤ R.locals) (hf : cells ≤ R.cells ∧ slots ≤ R.slots) (hw : (rest.map fun v => v.category).sum ≤ 8) (hdg : decode cc pc = .ok (.invokevirtual index, 3)) (kk : ∀ (v : Option Value) (mem' : gM) (H1 : Heap) (locs1 : List Loc), post v mem' → gRep X mem' H1 → va_S (gA X) s.heap H1 locs1 → W p l e R s m args below meth c H1 locs1 cells slots Q (F0 m (pc + 3) ls (v.toList ++ rest))) : W p l e R s m args below meth c H locs cells slots Q (F0 m pc ls st0) := by
  obtain ⟨hx, hb, -, hml, hown, hA, -, -, hE⟩ := C
  obtain ⟨i1, i2, i3, i4, i5⟩ := md
  obtain ⟨hv, hsh⟩ := hrc
  obtain ⟨ci, T, N, fs, g1, g2⟩ := hsh X (mem k o)
  obtain ⟨q0, hq⟩ := List.getElem?_of_mem (gIx (X := X) hv)
  have he : (gWs X mem)[q0]? = some (gAd X k o, .inr (ci, fs)) := by rw [gWs_at hq, g1]
  have cb := callB_of (R := R) (rm := { frames := fr2, cells := 0, slots := 0, locals := lo2 }) (mc := 0) (ms := 0) n hA (g_good i3) rfl rfl rfl (hA _ i4) (hA _ hlink) i5 hroom
  refine g_go (rest := rest) (va_runV (C := y.cls) (rest := rest) ⟨hx, hb, hml, hown, hA⟩ hM ⟨cb, hA _ i1, hA _ i2⟩ ⟨gB_blind, va_recv hE.1 hR g2 he, fun U hU hW => ⟨rfl, by rw [hU]; exact hR, by rw [hU]; exact hE.to hW hS.1 hS.2.1⟩⟩ rfl hn hz hst (lv_room hw) hdg hf) hS kk
theorem g_callS {index fr2 lo2 nL2 n : Nat} {y : MethodName} {cc2 : ByteArray} {ret2 : Option FieldType} {As st0 : List Value} {post : Option Value → gM → Prop} (C : gC X own cc ret nL p s m args meth c) (hz : ls.size = nL) (hR : gRep X mem H) (hS : va_S (gA X) s.heap H locs) (md : gMs y cc2 nL2 ret2 n) (hlink : Cond.methodLink own index y ∈ wA) (hM : gMt l y cc2 nL2 ret2 fr2 lo2 X As mem post) (hn : As.length = n) (hst : st0 = As.reverse ++ rest) (hroom : fr2 + 1 ≤ R.frames ∧ 8 + (nL2 + 11) + lo2 ≤ R.locals) (hf : cells ≤ R.cells ∧ slots ≤ R.slots) (hw : (rest.map fun v => v.category).sum ≤ 8) (hdg : decode cc pc = .ok (.invokestatic index, 3)) (kk : ∀ (v : Option Value) (mem' : gM) (H1 : Heap) (locs1 : List Loc), post v mem' → gRep X mem' H1 → va_S (gA X) s.heap H1 locs1 → W p l e R s m args below meth c H1 locs1 cells slots Q (F0 m (pc + 3) ls (v.toList ++ rest))) : W p l e R s m args below meth c H locs cells slots Q (F0 m pc ls st0) := by
  obtain ⟨hx, hb, -, hml, hown, hA, -, -, hE⟩ := C
  obtain ⟨i1, i3, i4, i5⟩ := md
  have cb := callB_of (R := R) (rm := { frames := fr2, cells := 0, slots := 0, locals := lo2 }) (mc := 0) (ms := 0) n hA (g_good i3) rfl rfl rfl (hA _ i4) (hA _ hlink) i5 hroom
  refine g_go (rest := rest) (va_runS (rest := rest) ⟨hx, hb, hml, hown, hA⟩ hM ⟨cb, hA _ i1⟩ ⟨gB_blind, fun U hU hW => ⟨rfl, by rw [hU]; exact hR, by rw [hU]; exact hE.to hW hS.1 hS.2.1⟩⟩ rfl hn hz hst (lv_room hw) hdg hf) hS kk
theorem g_callVi {k o index fr2 lo2 nL2 n : Nat} {x : Int32} {mem2 : gM} {y : MethodName} {cc2 : ByteArray} {ret2 : Option FieldType} {As st0 : List Value} (C : gC X own cc ret nL p s m args meth c) (hz : ls.size = nL) (hR : gRep X mem H) (hS : va_S (gA X) s.heap H locs) (hrc : gRc k o y.cls) (md : gMd y cc2 nL2 ret2 n) (hlink : Cond.methodLink own index y ∈ wA) (hM : gF l y cc2 nL2 ret2 fr2 lo2 X (.ref (gAd X k o) :: As) mem (some (.int x)) mem2) (hn : As.length = n) (hst : st0 = As.reverse ++ .ref (gAd X k o) :: rest) (hroom : fr2 + 1 ≤ R.frames ∧ 8 + (nL2 + 11) + lo2 ≤ R.locals) (hf : cells ≤ R.cells ∧ slots ≤ R.slots) (hw : (rest.map fun v => v.category).sum ≤ 8) (hdg : decode cc pc = .ok (.invokevirtual index, 3)) (kk : ∀ (H1 : Heap) (locs1 : List Loc), gRep X mem2 H1 → va_S (gA X) s.heap H1 locs1 → W p l e R s m args below meth c H1 locs1 cells slots Q (F0 m (pc + 3) ls (.int x :: rest))) : W p l e R s m args below meth c H locs cells slots Q (F0 m pc ls st0) := g_callV C hz hR hS hrc md hlink hM hn hst hroom hf hw hdg (fun v mem' H1 locs1 hp => by
  obtain ⟨rfl, rfl⟩ := hp
  exact kk H1 locs1)
theorem g_callVv {k o index fr2 lo2 nL2 n : Nat} {mem2 : gM} {y : MethodName} {cc2 : ByteArray} {ret2 : Option FieldType} {As st0 : List Value} (C : gC X own cc ret nL p s m args meth c) (hz : ls.size = nL) (hR : gRep X mem H) (hS : va_S (gA X) s.heap H locs) (hrc : gRc k o y.cls) (md : gMd y cc2 nL2 ret2 n) (hlink : Cond.methodLink own index y ∈ wA) (hM : gF l y cc2 nL2 ret2 fr2 lo2 X (.ref (gAd X k o) :: As) mem none mem2) (hn : As.length = n) (hst : st0 = As.reverse ++ .ref (gAd X k o) :: rest) (hroom : fr2 + 1 ≤ R.frames ∧ 8 + (nL2 + 11) + lo2 ≤ R.locals) (hf : cells ≤ R.cells ∧ slots ≤ R.slots) (hw : (rest.map fun v => v.category).sum ≤ 8) (hdg : decode cc pc = .ok (.invokevirtual index, 3)) (kk : ∀ (H1 : Heap) (locs1 : List Loc), gRep X mem2 H1 → va_S (gA X) s.heap H1 locs1 → W p l e R s m args below meth c H1 locs1 cells slots Q (F0 m (pc + 3) ls rest)) : W p l e R s m args below meth c H locs cells slots Q (F0 m pc ls st0) := g_callV C hz hR hS hrc md hlink hM hn hst hroom hf hw hdg (fun v mem' H1 locs1 hp => by
  obtain ⟨rfl, rfl⟩ := hp
  exact kk H1 locs1)
theorem g_callSi {index fr2 lo2 nL2 n : Nat} {x : Int32} {mem2 : gM} {y : MethodName} {cc2 : ByteArray} {ret2 : Option FieldType} {As st0 : List Value} (C : gC X own cc ret nL p s m args meth c) (hz : ls.size = nL) (hR : gRep X mem H) (hS : va_S (gA X) s.heap H locs) (md : gMs y cc2 nL2 ret2 n) (hlink : Cond.methodLink own index y ∈ wA) (hM : gF l y cc2 nL2 ret2 fr2 lo2 X As mem (some (.int x)) mem2) (hn : As.length = n) (hst : st0 = As.reverse ++ rest) (hroom : fr2 + 1 ≤ R.frames ∧ 8 + (nL2 + 11) + lo2 ≤ R.locals) (hf : cells ≤ R.cells ∧ slots ≤ R.slots) (hw : (rest.map fun v => v.category).sum ≤ 8) (hdg : decode cc pc = .ok (.invokestatic index, 3)) (kk : ∀ (H1 : Heap) (locs1 : List Loc), gRep X mem2 H1 → va_S (gA X) s.heap H1 locs1 → W p l e R s m args below meth c H1 locs1 cells slots Q (F0 m (pc + 3) ls (.int x :: rest))) : W p l e R s m args below meth c H locs cells slots Q (F0 m pc ls st0) := g_callS C hz hR hS md hlink hM hn hst hroom hf hw hdg (fun v mem' H1 locs1 hp => by
  obtain ⟨rfl, rfl⟩ := hp
  exact kk H1 locs1)
theorem g_callSr {index fr2 lo2 nL2 n a : Nat} {mem2 : gM} {y : MethodName} {cc2 : ByteArray} {ret2 : Option FieldType} {As st0 : List Value} (C : gC X own cc ret nL p s m args meth c) (hz : ls.size = nL) (hR : gRep X mem H) (hS : va_S (gA X) s.heap H locs) (md : gMs y cc2 nL2 ret2 n) (hlink : Cond.methodLink own index y ∈ wA) (hM : gF l y cc2 nL2 ret2 fr2 lo2 X As mem (some (.ref a)) mem2) (hn : As.length = n) (hst : st0 = As.reverse ++ rest) (hroom : fr2 + 1 ≤ R.frames ∧ 8 + (nL2 + 11) + lo2 ≤ R.locals) (hf : cells ≤ R.cells ∧ slots ≤ R.slots) (hw : (rest.map fun v => v.category).sum ≤ 8) (hdg : decode cc pc = .ok (.invokestatic index, 3)) (kk : ∀ (H1 : Heap) (locs1 : List Loc), gRep X mem2 H1 → va_S (gA X) s.heap H1 locs1 → W p l e R s m args below meth c H1 locs1 cells slots Q (F0 m (pc + 3) ls (.ref a :: rest))) : W p l e R s m args below meth c H locs cells slots Q (F0 m pc ls st0) := g_callS C hz hR hS md hlink hM hn hst hroom hf hw hdg (fun v mem' H1 locs1 hp => by
  obtain ⟨rfl, rfl⟩ := hp
  exact kk H1 locs1)
theorem g_callSv {index fr2 lo2 nL2 n : Nat} {mem2 : gM} {y : MethodName} {cc2 : ByteArray} {ret2 : Option FieldType} {As st0 : List Value} (C : gC X own cc ret nL p s m args meth c) (hz : ls.size = nL) (hR : gRep X mem H) (hS : va_S (gA X) s.heap H locs) (md : gMs y cc2 nL2 ret2 n) (hlink : Cond.methodLink own index y ∈ wA) (hM : gF l y cc2 nL2 ret2 fr2 lo2 X As mem none mem2) (hn : As.length = n) (hst : st0 = As.reverse ++ rest) (hroom : fr2 + 1 ≤ R.frames ∧ 8 + (nL2 + 11) + lo2 ≤ R.locals) (hf : cells ≤ R.cells ∧ slots ≤ R.slots) (hw : (rest.map fun v => v.category).sum ≤ 8) (hdg : decode cc pc = .ok (.invokestatic index, 3)) (kk : ∀ (H1 : Heap) (locs1 : List Loc), gRep X mem2 H1 → va_S (gA X) s.heap H1 locs1 → W p l e R s m args below meth c H1 locs1 cells slots Q (F0 m (pc + 3) ls rest)) : W p l e R s m args below meth c H locs cells slots Q (F0 m pc ls st0) := g_callS C hz hR hS md hlink hM hn hst hroom hf hw hdg (fun v mem' H1 locs1 hp => by
  obtain ⟨rfl, rfl⟩ := hp
  exact kk H1 locs1)
end GC
end
section
/-! ===== rows, a field each ===== -/
section GD
variable {p : Program} {l : Launch} {e : Env} {R : Room} {s : State} {m : MethodId} {args : Array Value} {below : List Frame} {meth : Method} {c : Code} {H : Heap} {locs : List Loc} {cells slots : Nat} {Q : State → Prop}
variable {cc : ByteArray} {pc : Nat} {ls : Array Slot} {rest : List Value} {X : gX} {own : String} {ret : Option FieldType} {nL : Nat} {mem : gM}
def gRow (k o a n : Nat) : Prop := (k, o) ∈ gIds ∧ (k, a) ∈ gIds ∧ n < 2 ^ 31 ∧ (∀ (X : gX) (g : Nat → Nat), gE X k o g = gRw X k a) ∧ ∀ (X : gX) (g : Nat → Nat), gE X k a g = gAr X n g
theorem gRow_2 {k : Nat} (hk : k < 7) : gRow k 2 3 100 := ⟨gI_m hk (by decide), gI_m hk (by decide), by decide, fun X g => gE_m hk 2 g, fun X g => gE_m hk 3 g⟩
theorem gRow_4 {k : Nat} (hk : k < 7) : gRow k 4 5 8 := ⟨gI_m hk (by decide), gI_m hk (by decide), by decide, fun X g => gE_m hk 4 g, fun X g => gE_m hk 5 g⟩
theorem gRow_6 {k : Nat} (hk : k < 7) : gRow k 6 7 4 := ⟨gI_m hk (by decide), gI_m hk (by decide), by decide, fun X g => gE_m hk 6 g, fun X g => gE_m hk 7 g⟩
theorem gRow_8 {k : Nat} (hk : k < 7) : gRow k 8 9 8 := ⟨gI_m hk (by decide), gI_m hk (by decide), by decide, fun X g => gE_m hk 8 g, fun X g => gE_m hk 9 g⟩
theorem gRow_10 {k : Nat} (hk : k < 7) : gRow k 10 11 8 := ⟨gI_m hk (by decide), gI_m hk (by decide), by decide, fun X g => gE_m hk 10 g, fun X g => gE_m hk 11 g⟩
theorem gRow_13 {k : Nat} (hk : k < 7) : gRow k 13 14 24 := ⟨gI_m hk (by decide), gI_m hk (by decide), by decide, fun X g => gE_m hk 13 g, fun X g => gE_m hk 14 g⟩
theorem gRow_16 {k : Nat} (hk : k < 7) : gRow k 16 17 36 := ⟨gI_m hk (by decide), gI_m hk (by decide), by decide, fun X g => gE_m hk 16 g, fun X g => gE_m hk 17 g⟩
theorem gRow_c : gRow 7 6 7 16 := ⟨gI_f (by decide), gI_f (by decide), by decide, fun X g => rfl, fun X g => rfl⟩
theorem rc_X5 {k o a n : Nat} (h : gRow k o a n) : gRc k o RX5 := ⟨h.1, fun X g => ⟨5, TX5, 1, _, h.2.2.2.1 X g, rfl⟩⟩
theorem rc_X4 {k : Nat} (hk : k < 7) : gRc k 0 RX4 := ⟨gI_m hk (by decide), fun X g => ⟨4, TX4, 8, _, gE_m hk 0 g, rfl⟩⟩
theorem rc_X0 {k : Nat} (hk : k < 7) : gRc k 1 RX0 := ⟨gI_m hk (by decide), fun X g => ⟨0, TX0, 5, _, gE_m hk 1 g, rfl⟩⟩
theorem rc_X2 {k : Nat} (hk : k < 7) : gRc k 12 RX2 := ⟨gI_m hk (by decide), fun X g => ⟨2, TX2, 2, _, gE_m hk 12 g, rfl⟩⟩
theorem rc_X7 {k : Nat} (hk : k < 7) : gRc k 15 RX7 := ⟨gI_m hk (by decide), fun X g => ⟨7, TX7, 2, _, gE_m hk 15 g, rfl⟩⟩
theorem rc_X8 : gRc 7 0 RX8 := ⟨gI_f (by decide), fun X g => ⟨8, TX8, 7, _, rfl, rfl⟩⟩
theorem rc_X3 : gRc 7 1 RX3 := ⟨gI_f (by decide), fun X g => ⟨3, TX3, 2, _, rfl, rfl⟩⟩
theorem rc_X6 : gRc 7 3 RX6 := ⟨gI_f (by decide), fun X g => ⟨6, TX6, 2, _, rfl, rfl⟩⟩
theorem rc_X1 : gRc 7 5 RX1 := ⟨gI_f (by decide), fun X g => ⟨1, TX1, 4, _, rfl, rfl⟩⟩
theorem gt_X5 {k o a n index : Nat} (C : gC X own cc ret nL p s m args meth c) (hw : gRow k o a n) (hR : gRep X mem H) (hlink : Cond.fieldLink own index "FarBanks$Row" "numbers" "[I" ∈ wA) (hdg : decode cc pc = .ok (.getfield index, 3)) (kk : W p l e R s m args below meth c H locs cells slots Q (F0 m (pc + 3) ls (.ref (gAd X k a) :: rest))) : W p l e R s m args below meth c H locs cells slots Q (F0 m pc ls (.ref (gAd X k o) :: rest)) := g_get (ci := 5) (fs := [.ref (gAd X k a)]) C hR hw.1 (hw.2.2.2.1 X _) rfl ilX5 0 (by decide) hlink rfl rfl hdg kk
theorem gn_X5 {k o a n index : Nat} {host : String} (C : gC X own cc ret nL p s m args meth c) (hw : gRow k o a n) (hR : gRep X mem H) (hlink : (own, index, "FarBanks$Row", "numbers", "[I", host) ∈ gNf) (hdg : decode cc pc = .ok (.getfield index, 3)) (kk : W p l e R s m args below meth c H locs cells slots Q (F0 m (pc + 3) ls (.ref (gAd X k a) :: rest))) : W p l e R s m args below meth c H locs cells slots Q (F0 m pc ls (.ref (gAd X k o) :: rest)) := g_getN (ci := 5) (fs := [.ref (gAd X k a)]) C hR hw.1 (hw.2.2.2.1 X _) rfl ilX5 0 (by decide) hlink rfl rfl hdg kk
theorem gt_X4_0 {k index : Nat} (C : gC X own cc ret nL p s m args meth c) (hk : k < 7) (hR : gRep X mem H) (hlink : Cond.fieldLink own index "FarBanks$Machine" "banks" "LFarBanks$Banks;" ∈ wA) (hdg : decode cc pc = .ok (.getfield index, 3)) (kk : W p l e R s m args below meth c H locs cells slots Q (F0 m (pc + 3) ls (.ref (gAd X k 1) :: rest))) : W p l e R s m args below meth c H locs cells slots Q (F0 m pc ls (.ref (gAd X k 0) :: rest)) := g_get C hR (gI_m hk (by decide)) (gE_m hk 0 _) rfl ilX4 0 (by decide) hlink rfl rfl hdg kk
theorem gn_X4_0 {k index : Nat} {host : String} (C : gC X own cc ret nL p s m args meth c) (hk : k < 7) (hR : gRep X mem H) (hlink : (own, index, "FarBanks$Machine", "banks", "LFarBanks$Banks;", host) ∈ gNf) (hdg : decode cc pc = .ok (.getfield index, 3)) (kk : W p l e R s m args below meth c H locs cells slots Q (F0 m (pc + 3) ls (.ref (gAd X k 1) :: rest))) : W p l e R s m args below meth c H locs cells slots Q (F0 m pc ls (.ref (gAd X k 0) :: rest)) := g_getN C hR (gI_m hk (by decide)) (gE_m hk 0 _) rfl ilX4 0 (by decide) hlink rfl rfl hdg kk
theorem gt_X4_1 {k index : Nat} (C : gC X own cc ret nL p s m args meth c) (hk : k < 7) (hR : gRep X mem H) (hlink : Cond.fieldLink own index "FarBanks$Machine" "frames" "LFarBanks$Frames;" ∈ wA) (hdg : decode cc pc = .ok (.getfield index, 3)) (kk : W p l e R s m args below meth c H locs cells slots Q (F0 m (pc + 3) ls (.ref (gAd X k 12) :: rest))) : W p l e R s m args below meth c H locs cells slots Q (F0 m pc ls (.ref (gAd X k 0) :: rest)) := g_get C hR (gI_m hk (by decide)) (gE_m hk 0 _) rfl ilX4 1 (by decide) hlink rfl rfl hdg kk
theorem gn_X4_1 {k index : Nat} {host : String} (C : gC X own cc ret nL p s m args meth c) (hk : k < 7) (hR : gRep X mem H) (hlink : (own, index, "FarBanks$Machine", "frames", "LFarBanks$Frames;", host) ∈ gNf) (hdg : decode cc pc = .ok (.getfield index, 3)) (kk : W p l e R s m args below meth c H locs cells slots Q (F0 m (pc + 3) ls (.ref (gAd X k 12) :: rest))) : W p l e R s m args below meth c H locs cells slots Q (F0 m pc ls (.ref (gAd X k 0) :: rest)) := g_getN C hR (gI_m hk (by decide)) (gE_m hk 0 _) rfl ilX4 1 (by decide) hlink rfl rfl hdg kk
theorem gt_X4_2 {k index : Nat} (C : gC X own cc ret nL p s m args meth c) (hk : k < 7) (hR : gRep X mem H) (hlink : Cond.fieldLink own index "FarBanks$Machine" "trail" "LFarBanks$Trail;" ∈ wA) (hdg : decode cc pc = .ok (.getfield index, 3)) (kk : W p l e R s m args below meth c H locs cells slots Q (F0 m (pc + 3) ls (.ref (gAd X k 15) :: rest))) : W p l e R s m args below meth c H locs cells slots Q (F0 m pc ls (.ref (gAd X k 0) :: rest)) := g_get C hR (gI_m hk (by decide)) (gE_m hk 0 _) rfl ilX4 2 (by decide) hlink rfl rfl hdg kk
theorem gn_X4_2 {k index : Nat} {host : String} (C : gC X own cc ret nL p s m args meth c) (hk : k < 7) (hR : gRep X mem H) (hlink : (own, index, "FarBanks$Machine", "trail", "LFarBanks$Trail;", host) ∈ gNf) (hdg : decode cc pc = .ok (.getfield index, 3)) (kk : W p l e R s m args below meth c H locs cells slots Q (F0 m (pc + 3) ls (.ref (gAd X k 15) :: rest))) : W p l e R s m args below meth c H locs cells slots Q (F0 m pc ls (.ref (gAd X k 0) :: rest)) := g_getN C hR (gI_m hk (by decide)) (gE_m hk 0 _) rfl ilX4 2 (by decide) hlink rfl rfl hdg kk
theorem gt_X4_3 {k index : Nat} (C : gC X own cc ret nL p s m args meth c) (hk : k < 7) (hR : gRep X mem H) (hlink : Cond.fieldLink own index "FarBanks$Machine" "number" "I" ∈ wA) (hdg : decode cc pc = .ok (.getfield index, 3)) (kk : W p l e R s m args below meth c H locs cells slots Q (F0 m (pc + 3) ls (.int (nI (mem k 0 3)) :: rest))) : W p l e R s m args below meth c H locs cells slots Q (F0 m pc ls (.ref (gAd X k 0) :: rest)) := g_get C hR (gI_m hk (by decide)) (gE_m hk 0 _) rfl ilX4 3 (by decide) hlink rfl rfl hdg kk
theorem pt_X4_3 {k index x : Nat} (C : gC X own cc ret nL p s m args meth c) (hk : k < 7) (hR : gRep X mem H) (hS : va_S (gA X) s.heap H locs) (hlink : Cond.fieldLink own index "FarBanks$Machine" "number" "I" ∈ wA) (hdg : decode cc pc = .ok (.putfield index, 3)) (kk : ∀ (H1 : Heap) (locs1 : List Loc), gRep X (gP mem k 0 (fU (mem k 0) 3 x)) H1 → va_S (gA X) s.heap H1 locs1 → W p l e R s m args below meth c H1 locs1 cells slots Q (F0 m (pc + 3) ls rest)) : W p l e R s m args below meth c H locs cells slots Q (F0 m pc ls (.int (nI x) :: .ref (gAd X k 0) :: rest)) := g_put C hR hS (gI_m hk (by decide)) (gE_m hk 0 _) rfl ilX4 tyX4_ok nmX4 3 (by decide) hlink rfl rfl (tyX4_ok 3 (by decide)) rfl rfl (Nat.le_of_ble_eq_true rfl) _ (by rw [gE_m hk]; rfl) hdg kk
theorem gn_X4_3 {k index : Nat} {host : String} (C : gC X own cc ret nL p s m args meth c) (hk : k < 7) (hR : gRep X mem H) (hlink : (own, index, "FarBanks$Machine", "number", "I", host) ∈ gNf) (hdg : decode cc pc = .ok (.getfield index, 3)) (kk : W p l e R s m args below meth c H locs cells slots Q (F0 m (pc + 3) ls (.int (nI (mem k 0 3)) :: rest))) : W p l e R s m args below meth c H locs cells slots Q (F0 m pc ls (.ref (gAd X k 0) :: rest)) := g_getN C hR (gI_m hk (by decide)) (gE_m hk 0 _) rfl ilX4 3 (by decide) hlink rfl rfl hdg kk
theorem pn_X4_3 {k index x : Nat} {host : String} (C : gC X own cc ret nL p s m args meth c) (hk : k < 7) (hR : gRep X mem H) (hS : va_S (gA X) s.heap H locs) (hlink : (own, index, "FarBanks$Machine", "number", "I", host) ∈ gNf) (hdg : decode cc pc = .ok (.putfield index, 3)) (kk : ∀ (H1 : Heap) (locs1 : List Loc), gRep X (gP mem k 0 (fU (mem k 0) 3 x)) H1 → va_S (gA X) s.heap H1 locs1 → W p l e R s m args below meth c H1 locs1 cells slots Q (F0 m (pc + 3) ls rest)) : W p l e R s m args below meth c H locs cells slots Q (F0 m pc ls (.int (nI x) :: .ref (gAd X k 0) :: rest)) := g_putN C hR hS (gI_m hk (by decide)) (gE_m hk 0 _) rfl ilX4 tyX4_ok nmX4 3 (by decide) hlink rfl rfl (tyX4_ok 3 (by decide)) rfl rfl (Nat.le_of_ble_eq_true rfl) _ (by rw [gE_m hk]; rfl) hdg kk
theorem gt_X4_4 {k index : Nat} (C : gC X own cc ret nL p s m args meth c) (hk : k < 7) (hR : gRep X mem H) (hlink : Cond.fieldLink own index "FarBanks$Machine" "place" "I" ∈ wA) (hdg : decode cc pc = .ok (.getfield index, 3)) (kk : W p l e R s m args below meth c H locs cells slots Q (F0 m (pc + 3) ls (.int (nI (mem k 0 4)) :: rest))) : W p l e R s m args below meth c H locs cells slots Q (F0 m pc ls (.ref (gAd X k 0) :: rest)) := g_get C hR (gI_m hk (by decide)) (gE_m hk 0 _) rfl ilX4 4 (by decide) hlink rfl rfl hdg kk
theorem pt_X4_4 {k index x : Nat} (C : gC X own cc ret nL p s m args meth c) (hk : k < 7) (hR : gRep X mem H) (hS : va_S (gA X) s.heap H locs) (hlink : Cond.fieldLink own index "FarBanks$Machine" "place" "I" ∈ wA) (hdg : decode cc pc = .ok (.putfield index, 3)) (kk : ∀ (H1 : Heap) (locs1 : List Loc), gRep X (gP mem k 0 (fU (mem k 0) 4 x)) H1 → va_S (gA X) s.heap H1 locs1 → W p l e R s m args below meth c H1 locs1 cells slots Q (F0 m (pc + 3) ls rest)) : W p l e R s m args below meth c H locs cells slots Q (F0 m pc ls (.int (nI x) :: .ref (gAd X k 0) :: rest)) := g_put C hR hS (gI_m hk (by decide)) (gE_m hk 0 _) rfl ilX4 tyX4_ok nmX4 4 (by decide) hlink rfl rfl (tyX4_ok 4 (by decide)) rfl rfl (Nat.le_of_ble_eq_true rfl) _ (by rw [gE_m hk]; rfl) hdg kk
theorem gn_X4_4 {k index : Nat} {host : String} (C : gC X own cc ret nL p s m args meth c) (hk : k < 7) (hR : gRep X mem H) (hlink : (own, index, "FarBanks$Machine", "place", "I", host) ∈ gNf) (hdg : decode cc pc = .ok (.getfield index, 3)) (kk : W p l e R s m args below meth c H locs cells slots Q (F0 m (pc + 3) ls (.int (nI (mem k 0 4)) :: rest))) : W p l e R s m args below meth c H locs cells slots Q (F0 m pc ls (.ref (gAd X k 0) :: rest)) := g_getN C hR (gI_m hk (by decide)) (gE_m hk 0 _) rfl ilX4 4 (by decide) hlink rfl rfl hdg kk
theorem pn_X4_4 {k index x : Nat} {host : String} (C : gC X own cc ret nL p s m args meth c) (hk : k < 7) (hR : gRep X mem H) (hS : va_S (gA X) s.heap H locs) (hlink : (own, index, "FarBanks$Machine", "place", "I", host) ∈ gNf) (hdg : decode cc pc = .ok (.putfield index, 3)) (kk : ∀ (H1 : Heap) (locs1 : List Loc), gRep X (gP mem k 0 (fU (mem k 0) 4 x)) H1 → va_S (gA X) s.heap H1 locs1 → W p l e R s m args below meth c H1 locs1 cells slots Q (F0 m (pc + 3) ls rest)) : W p l e R s m args below meth c H locs cells slots Q (F0 m pc ls (.int (nI x) :: .ref (gAd X k 0) :: rest)) := g_putN C hR hS (gI_m hk (by decide)) (gE_m hk 0 _) rfl ilX4 tyX4_ok nmX4 4 (by decide) hlink rfl rfl (tyX4_ok 4 (by decide)) rfl rfl (Nat.le_of_ble_eq_true rfl) _ (by rw [gE_m hk]; rfl) hdg kk
theorem gt_X4_5 {k index : Nat} (C : gC X own cc ret nL p s m args meth c) (hk : k < 7) (hR : gRep X mem H) (hlink : Cond.fieldLink own index "FarBanks$Machine" "reason" "I" ∈ wA) (hdg : decode cc pc = .ok (.getfield index, 3)) (kk : W p l e R s m args below meth c H locs cells slots Q (F0 m (pc + 3) ls (.int (nI (mem k 0 5)) :: rest))) : W p l e R s m args below meth c H locs cells slots Q (F0 m pc ls (.ref (gAd X k 0) :: rest)) := g_get C hR (gI_m hk (by decide)) (gE_m hk 0 _) rfl ilX4 5 (by decide) hlink rfl rfl hdg kk
theorem pt_X4_5 {k index x : Nat} (C : gC X own cc ret nL p s m args meth c) (hk : k < 7) (hR : gRep X mem H) (hS : va_S (gA X) s.heap H locs) (hlink : Cond.fieldLink own index "FarBanks$Machine" "reason" "I" ∈ wA) (hdg : decode cc pc = .ok (.putfield index, 3)) (kk : ∀ (H1 : Heap) (locs1 : List Loc), gRep X (gP mem k 0 (fU (mem k 0) 5 x)) H1 → va_S (gA X) s.heap H1 locs1 → W p l e R s m args below meth c H1 locs1 cells slots Q (F0 m (pc + 3) ls rest)) : W p l e R s m args below meth c H locs cells slots Q (F0 m pc ls (.int (nI x) :: .ref (gAd X k 0) :: rest)) := g_put C hR hS (gI_m hk (by decide)) (gE_m hk 0 _) rfl ilX4 tyX4_ok nmX4 5 (by decide) hlink rfl rfl (tyX4_ok 5 (by decide)) rfl rfl (Nat.le_of_ble_eq_true rfl) _ (by rw [gE_m hk]; rfl) hdg kk
theorem gn_X4_5 {k index : Nat} {host : String} (C : gC X own cc ret nL p s m args meth c) (hk : k < 7) (hR : gRep X mem H) (hlink : (own, index, "FarBanks$Machine", "reason", "I", host) ∈ gNf) (hdg : decode cc pc = .ok (.getfield index, 3)) (kk : W p l e R s m args below meth c H locs cells slots Q (F0 m (pc + 3) ls (.int (nI (mem k 0 5)) :: rest))) : W p l e R s m args below meth c H locs cells slots Q (F0 m pc ls (.ref (gAd X k 0) :: rest)) := g_getN C hR (gI_m hk (by decide)) (gE_m hk 0 _) rfl ilX4 5 (by decide) hlink rfl rfl hdg kk
theorem pn_X4_5 {k index x : Nat} {host : String} (C : gC X own cc ret nL p s m args meth c) (hk : k < 7) (hR : gRep X mem H) (hS : va_S (gA X) s.heap H locs) (hlink : (own, index, "FarBanks$Machine", "reason", "I", host) ∈ gNf) (hdg : decode cc pc = .ok (.putfield index, 3)) (kk : ∀ (H1 : Heap) (locs1 : List Loc), gRep X (gP mem k 0 (fU (mem k 0) 5 x)) H1 → va_S (gA X) s.heap H1 locs1 → W p l e R s m args below meth c H1 locs1 cells slots Q (F0 m (pc + 3) ls rest)) : W p l e R s m args below meth c H locs cells slots Q (F0 m pc ls (.int (nI x) :: .ref (gAd X k 0) :: rest)) := g_putN C hR hS (gI_m hk (by decide)) (gE_m hk 0 _) rfl ilX4 tyX4_ok nmX4 5 (by decide) hlink rfl rfl (tyX4_ok 5 (by decide)) rfl rfl (Nat.le_of_ble_eq_true rfl) _ (by rw [gE_m hk]; rfl) hdg kk
theorem gt_X4_6 {k index : Nat} (C : gC X own cc ret nL p s m args meth c) (hk : k < 7) (hR : gRep X mem H) (hlink : Cond.fieldLink own index "FarBanks$Machine" "strict" "I" ∈ wA) (hdg : decode cc pc = .ok (.getfield index, 3)) (kk : W p l e R s m args below meth c H locs cells slots Q (F0 m (pc + 3) ls (.int (nI (mem k 0 6)) :: rest))) : W p l e R s m args below meth c H locs cells slots Q (F0 m pc ls (.ref (gAd X k 0) :: rest)) := g_get C hR (gI_m hk (by decide)) (gE_m hk 0 _) rfl ilX4 6 (by decide) hlink rfl rfl hdg kk
theorem pt_X4_6 {k index x : Nat} (C : gC X own cc ret nL p s m args meth c) (hk : k < 7) (hR : gRep X mem H) (hS : va_S (gA X) s.heap H locs) (hlink : Cond.fieldLink own index "FarBanks$Machine" "strict" "I" ∈ wA) (hdg : decode cc pc = .ok (.putfield index, 3)) (kk : ∀ (H1 : Heap) (locs1 : List Loc), gRep X (gP mem k 0 (fU (mem k 0) 6 x)) H1 → va_S (gA X) s.heap H1 locs1 → W p l e R s m args below meth c H1 locs1 cells slots Q (F0 m (pc + 3) ls rest)) : W p l e R s m args below meth c H locs cells slots Q (F0 m pc ls (.int (nI x) :: .ref (gAd X k 0) :: rest)) := g_put C hR hS (gI_m hk (by decide)) (gE_m hk 0 _) rfl ilX4 tyX4_ok nmX4 6 (by decide) hlink rfl rfl (tyX4_ok 6 (by decide)) rfl rfl (Nat.le_of_ble_eq_true rfl) _ (by rw [gE_m hk]; rfl) hdg kk
theorem gn_X4_6 {k index : Nat} {host : String} (C : gC X own cc ret nL p s m args meth c) (hk : k < 7) (hR : gRep X mem H) (hlink : (own, index, "FarBanks$Machine", "strict", "I", host) ∈ gNf) (hdg : decode cc pc = .ok (.getfield index, 3)) (kk : W p l e R s m args below meth c H locs cells slots Q (F0 m (pc + 3) ls (.int (nI (mem k 0 6)) :: rest))) : W p l e R s m args below meth c H locs cells slots Q (F0 m pc ls (.ref (gAd X k 0) :: rest)) := g_getN C hR (gI_m hk (by decide)) (gE_m hk 0 _) rfl ilX4 6 (by decide) hlink rfl rfl hdg kk
theorem pn_X4_6 {k index x : Nat} {host : String} (C : gC X own cc ret nL p s m args meth c) (hk : k < 7) (hR : gRep X mem H) (hS : va_S (gA X) s.heap H locs) (hlink : (own, index, "FarBanks$Machine", "strict", "I", host) ∈ gNf) (hdg : decode cc pc = .ok (.putfield index, 3)) (kk : ∀ (H1 : Heap) (locs1 : List Loc), gRep X (gP mem k 0 (fU (mem k 0) 6 x)) H1 → va_S (gA X) s.heap H1 locs1 → W p l e R s m args below meth c H1 locs1 cells slots Q (F0 m (pc + 3) ls rest)) : W p l e R s m args below meth c H locs cells slots Q (F0 m pc ls (.int (nI x) :: .ref (gAd X k 0) :: rest)) := g_putN C hR hS (gI_m hk (by decide)) (gE_m hk 0 _) rfl ilX4 tyX4_ok nmX4 6 (by decide) hlink rfl rfl (tyX4_ok 6 (by decide)) rfl rfl (Nat.le_of_ble_eq_true rfl) _ (by rw [gE_m hk]; rfl) hdg kk
theorem gt_X4_7 {k index : Nat} (C : gC X own cc ret nL p s m args meth c) (hk : k < 7) (hR : gRep X mem H) (hlink : Cond.fieldLink own index "FarBanks$Machine" "calls" "I" ∈ wA) (hdg : decode cc pc = .ok (.getfield index, 3)) (kk : W p l e R s m args below meth c H locs cells slots Q (F0 m (pc + 3) ls (.int (nI (mem k 0 7)) :: rest))) : W p l e R s m args below meth c H locs cells slots Q (F0 m pc ls (.ref (gAd X k 0) :: rest)) := g_get C hR (gI_m hk (by decide)) (gE_m hk 0 _) rfl ilX4 7 (by decide) hlink rfl rfl hdg kk
theorem pt_X4_7 {k index x : Nat} (C : gC X own cc ret nL p s m args meth c) (hk : k < 7) (hR : gRep X mem H) (hS : va_S (gA X) s.heap H locs) (hlink : Cond.fieldLink own index "FarBanks$Machine" "calls" "I" ∈ wA) (hdg : decode cc pc = .ok (.putfield index, 3)) (kk : ∀ (H1 : Heap) (locs1 : List Loc), gRep X (gP mem k 0 (fU (mem k 0) 7 x)) H1 → va_S (gA X) s.heap H1 locs1 → W p l e R s m args below meth c H1 locs1 cells slots Q (F0 m (pc + 3) ls rest)) : W p l e R s m args below meth c H locs cells slots Q (F0 m pc ls (.int (nI x) :: .ref (gAd X k 0) :: rest)) := g_put C hR hS (gI_m hk (by decide)) (gE_m hk 0 _) rfl ilX4 tyX4_ok nmX4 7 (by decide) hlink rfl rfl (tyX4_ok 7 (by decide)) rfl rfl (Nat.le_of_ble_eq_true rfl) _ (by rw [gE_m hk]; rfl) hdg kk
theorem gn_X4_7 {k index : Nat} {host : String} (C : gC X own cc ret nL p s m args meth c) (hk : k < 7) (hR : gRep X mem H) (hlink : (own, index, "FarBanks$Machine", "calls", "I", host) ∈ gNf) (hdg : decode cc pc = .ok (.getfield index, 3)) (kk : W p l e R s m args below meth c H locs cells slots Q (F0 m (pc + 3) ls (.int (nI (mem k 0 7)) :: rest))) : W p l e R s m args below meth c H locs cells slots Q (F0 m pc ls (.ref (gAd X k 0) :: rest)) := g_getN C hR (gI_m hk (by decide)) (gE_m hk 0 _) rfl ilX4 7 (by decide) hlink rfl rfl hdg kk
theorem pn_X4_7 {k index x : Nat} {host : String} (C : gC X own cc ret nL p s m args meth c) (hk : k < 7) (hR : gRep X mem H) (hS : va_S (gA X) s.heap H locs) (hlink : (own, index, "FarBanks$Machine", "calls", "I", host) ∈ gNf) (hdg : decode cc pc = .ok (.putfield index, 3)) (kk : ∀ (H1 : Heap) (locs1 : List Loc), gRep X (gP mem k 0 (fU (mem k 0) 7 x)) H1 → va_S (gA X) s.heap H1 locs1 → W p l e R s m args below meth c H1 locs1 cells slots Q (F0 m (pc + 3) ls rest)) : W p l e R s m args below meth c H locs cells slots Q (F0 m pc ls (.int (nI x) :: .ref (gAd X k 0) :: rest)) := g_putN C hR hS (gI_m hk (by decide)) (gE_m hk 0 _) rfl ilX4 tyX4_ok nmX4 7 (by decide) hlink rfl rfl (tyX4_ok 7 (by decide)) rfl rfl (Nat.le_of_ble_eq_true rfl) _ (by rw [gE_m hk]; rfl) hdg kk
theorem gt_X0_0 {k index : Nat} (C : gC X own cc ret nL p s m args meth c) (hk : k < 7) (hR : gRep X mem H) (hlink : Cond.fieldLink own index "FarBanks$Banks" "cells" "LFarBanks$Row;" ∈ wA) (hdg : decode cc pc = .ok (.getfield index, 3)) (kk : W p l e R s m args below meth c H locs cells slots Q (F0 m (pc + 3) ls (.ref (gAd X k 2) :: rest))) : W p l e R s m args below meth c H locs cells slots Q (F0 m pc ls (.ref (gAd X k 1) :: rest)) := g_get C hR (gI_m hk (by decide)) (gE_m hk 1 _) rfl ilX0 0 (by decide) hlink rfl rfl hdg kk
theorem gn_X0_0 {k index : Nat} {host : String} (C : gC X own cc ret nL p s m args meth c) (hk : k < 7) (hR : gRep X mem H) (hlink : (own, index, "FarBanks$Banks", "cells", "LFarBanks$Row;", host) ∈ gNf) (hdg : decode cc pc = .ok (.getfield index, 3)) (kk : W p l e R s m args below meth c H locs cells slots Q (F0 m (pc + 3) ls (.ref (gAd X k 2) :: rest))) : W p l e R s m args below meth c H locs cells slots Q (F0 m pc ls (.ref (gAd X k 1) :: rest)) := g_getN C hR (gI_m hk (by decide)) (gE_m hk 1 _) rfl ilX0 0 (by decide) hlink rfl rfl hdg kk
theorem gt_X0_1 {k index : Nat} (C : gC X own cc ret nL p s m args meth c) (hk : k < 7) (hR : gRep X mem H) (hlink : Cond.fieldLink own index "FarBanks$Banks" "alone" "LFarBanks$Row;" ∈ wA) (hdg : decode cc pc = .ok (.getfield index, 3)) (kk : W p l e R s m args below meth c H locs cells slots Q (F0 m (pc + 3) ls (.ref (gAd X k 4) :: rest))) : W p l e R s m args below meth c H locs cells slots Q (F0 m pc ls (.ref (gAd X k 1) :: rest)) := g_get C hR (gI_m hk (by decide)) (gE_m hk 1 _) rfl ilX0 1 (by decide) hlink rfl rfl hdg kk
theorem gn_X0_1 {k index : Nat} {host : String} (C : gC X own cc ret nL p s m args meth c) (hk : k < 7) (hR : gRep X mem H) (hlink : (own, index, "FarBanks$Banks", "alone", "LFarBanks$Row;", host) ∈ gNf) (hdg : decode cc pc = .ok (.getfield index, 3)) (kk : W p l e R s m args below meth c H locs cells slots Q (F0 m (pc + 3) ls (.ref (gAd X k 4) :: rest))) : W p l e R s m args below meth c H locs cells slots Q (F0 m pc ls (.ref (gAd X k 1) :: rest)) := g_getN C hR (gI_m hk (by decide)) (gE_m hk 1 _) rfl ilX0 1 (by decide) hlink rfl rfl hdg kk
theorem gt_X0_2 {k index : Nat} (C : gC X own cc ret nL p s m args meth c) (hk : k < 7) (hR : gRep X mem H) (hlink : Cond.fieldLink own index "FarBanks$Banks" "shown" "LFarBanks$Row;" ∈ wA) (hdg : decode cc pc = .ok (.getfield index, 3)) (kk : W p l e R s m args below meth c H locs cells slots Q (F0 m (pc + 3) ls (.ref (gAd X k 6) :: rest))) : W p l e R s m args below meth c H locs cells slots Q (F0 m pc ls (.ref (gAd X k 1) :: rest)) := g_get C hR (gI_m hk (by decide)) (gE_m hk 1 _) rfl ilX0 2 (by decide) hlink rfl rfl hdg kk
theorem gn_X0_2 {k index : Nat} {host : String} (C : gC X own cc ret nL p s m args meth c) (hk : k < 7) (hR : gRep X mem H) (hlink : (own, index, "FarBanks$Banks", "shown", "LFarBanks$Row;", host) ∈ gNf) (hdg : decode cc pc = .ok (.getfield index, 3)) (kk : W p l e R s m args below meth c H locs cells slots Q (F0 m (pc + 3) ls (.ref (gAd X k 6) :: rest))) : W p l e R s m args below meth c H locs cells slots Q (F0 m pc ls (.ref (gAd X k 1) :: rest)) := g_getN C hR (gI_m hk (by decide)) (gE_m hk 1 _) rfl ilX0 2 (by decide) hlink rfl rfl hdg kk
theorem gt_X0_3 {k index : Nat} (C : gC X own cc ret nL p s m args meth c) (hk : k < 7) (hR : gRep X mem H) (hlink : Cond.fieldLink own index "FarBanks$Banks" "written" "LFarBanks$Row;" ∈ wA) (hdg : decode cc pc = .ok (.getfield index, 3)) (kk : W p l e R s m args below meth c H locs cells slots Q (F0 m (pc + 3) ls (.ref (gAd X k 8) :: rest))) : W p l e R s m args below meth c H locs cells slots Q (F0 m pc ls (.ref (gAd X k 1) :: rest)) := g_get C hR (gI_m hk (by decide)) (gE_m hk 1 _) rfl ilX0 3 (by decide) hlink rfl rfl hdg kk
theorem gn_X0_3 {k index : Nat} {host : String} (C : gC X own cc ret nL p s m args meth c) (hk : k < 7) (hR : gRep X mem H) (hlink : (own, index, "FarBanks$Banks", "written", "LFarBanks$Row;", host) ∈ gNf) (hdg : decode cc pc = .ok (.getfield index, 3)) (kk : W p l e R s m args below meth c H locs cells slots Q (F0 m (pc + 3) ls (.ref (gAd X k 8) :: rest))) : W p l e R s m args below meth c H locs cells slots Q (F0 m pc ls (.ref (gAd X k 1) :: rest)) := g_getN C hR (gI_m hk (by decide)) (gE_m hk 1 _) rfl ilX0 3 (by decide) hlink rfl rfl hdg kk
theorem gt_X0_4 {k index : Nat} (C : gC X own cc ret nL p s m args meth c) (hk : k < 7) (hR : gRep X mem H) (hlink : Cond.fieldLink own index "FarBanks$Banks" "refused" "LFarBanks$Row;" ∈ wA) (hdg : decode cc pc = .ok (.getfield index, 3)) (kk : W p l e R s m args below meth c H locs cells slots Q (F0 m (pc + 3) ls (.ref (gAd X k 10) :: rest))) : W p l e R s m args below meth c H locs cells slots Q (F0 m pc ls (.ref (gAd X k 1) :: rest)) := g_get C hR (gI_m hk (by decide)) (gE_m hk 1 _) rfl ilX0 4 (by decide) hlink rfl rfl hdg kk
theorem gn_X0_4 {k index : Nat} {host : String} (C : gC X own cc ret nL p s m args meth c) (hk : k < 7) (hR : gRep X mem H) (hlink : (own, index, "FarBanks$Banks", "refused", "LFarBanks$Row;", host) ∈ gNf) (hdg : decode cc pc = .ok (.getfield index, 3)) (kk : W p l e R s m args below meth c H locs cells slots Q (F0 m (pc + 3) ls (.ref (gAd X k 10) :: rest))) : W p l e R s m args below meth c H locs cells slots Q (F0 m pc ls (.ref (gAd X k 1) :: rest)) := g_getN C hR (gI_m hk (by decide)) (gE_m hk 1 _) rfl ilX0 4 (by decide) hlink rfl rfl hdg kk
theorem gt_X2_0 {k index : Nat} (C : gC X own cc ret nL p s m args meth c) (hk : k < 7) (hR : gRep X mem H) (hlink : Cond.fieldLink own index "FarBanks$Frames" "parts" "LFarBanks$Row;" ∈ wA) (hdg : decode cc pc = .ok (.getfield index, 3)) (kk : W p l e R s m args below meth c H locs cells slots Q (F0 m (pc + 3) ls (.ref (gAd X k 13) :: rest))) : W p l e R s m args below meth c H locs cells slots Q (F0 m pc ls (.ref (gAd X k 12) :: rest)) := g_get C hR (gI_m hk (by decide)) (gE_m hk 12 _) rfl ilX2 0 (by decide) hlink rfl rfl hdg kk
theorem gn_X2_0 {k index : Nat} {host : String} (C : gC X own cc ret nL p s m args meth c) (hk : k < 7) (hR : gRep X mem H) (hlink : (own, index, "FarBanks$Frames", "parts", "LFarBanks$Row;", host) ∈ gNf) (hdg : decode cc pc = .ok (.getfield index, 3)) (kk : W p l e R s m args below meth c H locs cells slots Q (F0 m (pc + 3) ls (.ref (gAd X k 13) :: rest))) : W p l e R s m args below meth c H locs cells slots Q (F0 m pc ls (.ref (gAd X k 12) :: rest)) := g_getN C hR (gI_m hk (by decide)) (gE_m hk 12 _) rfl ilX2 0 (by decide) hlink rfl rfl hdg kk
theorem gt_X2_1 {k index : Nat} (C : gC X own cc ret nL p s m args meth c) (hk : k < 7) (hR : gRep X mem H) (hlink : Cond.fieldLink own index "FarBanks$Frames" "size" "I" ∈ wA) (hdg : decode cc pc = .ok (.getfield index, 3)) (kk : W p l e R s m args below meth c H locs cells slots Q (F0 m (pc + 3) ls (.int (nI (mem k 12 1)) :: rest))) : W p l e R s m args below meth c H locs cells slots Q (F0 m pc ls (.ref (gAd X k 12) :: rest)) := g_get C hR (gI_m hk (by decide)) (gE_m hk 12 _) rfl ilX2 1 (by decide) hlink rfl rfl hdg kk
theorem pt_X2_1 {k index x : Nat} (C : gC X own cc ret nL p s m args meth c) (hk : k < 7) (hR : gRep X mem H) (hS : va_S (gA X) s.heap H locs) (hlink : Cond.fieldLink own index "FarBanks$Frames" "size" "I" ∈ wA) (hdg : decode cc pc = .ok (.putfield index, 3)) (kk : ∀ (H1 : Heap) (locs1 : List Loc), gRep X (gP mem k 12 (fU (mem k 12) 1 x)) H1 → va_S (gA X) s.heap H1 locs1 → W p l e R s m args below meth c H1 locs1 cells slots Q (F0 m (pc + 3) ls rest)) : W p l e R s m args below meth c H locs cells slots Q (F0 m pc ls (.int (nI x) :: .ref (gAd X k 12) :: rest)) := g_put C hR hS (gI_m hk (by decide)) (gE_m hk 12 _) rfl ilX2 tyX2_ok nmX2 1 (by decide) hlink rfl rfl (tyX2_ok 1 (by decide)) rfl rfl (Nat.le_of_ble_eq_true rfl) _ (by rw [gE_m hk]; rfl) hdg kk
theorem gn_X2_1 {k index : Nat} {host : String} (C : gC X own cc ret nL p s m args meth c) (hk : k < 7) (hR : gRep X mem H) (hlink : (own, index, "FarBanks$Frames", "size", "I", host) ∈ gNf) (hdg : decode cc pc = .ok (.getfield index, 3)) (kk : W p l e R s m args below meth c H locs cells slots Q (F0 m (pc + 3) ls (.int (nI (mem k 12 1)) :: rest))) : W p l e R s m args below meth c H locs cells slots Q (F0 m pc ls (.ref (gAd X k 12) :: rest)) := g_getN C hR (gI_m hk (by decide)) (gE_m hk 12 _) rfl ilX2 1 (by decide) hlink rfl rfl hdg kk
theorem pn_X2_1 {k index x : Nat} {host : String} (C : gC X own cc ret nL p s m args meth c) (hk : k < 7) (hR : gRep X mem H) (hS : va_S (gA X) s.heap H locs) (hlink : (own, index, "FarBanks$Frames", "size", "I", host) ∈ gNf) (hdg : decode cc pc = .ok (.putfield index, 3)) (kk : ∀ (H1 : Heap) (locs1 : List Loc), gRep X (gP mem k 12 (fU (mem k 12) 1 x)) H1 → va_S (gA X) s.heap H1 locs1 → W p l e R s m args below meth c H1 locs1 cells slots Q (F0 m (pc + 3) ls rest)) : W p l e R s m args below meth c H locs cells slots Q (F0 m pc ls (.int (nI x) :: .ref (gAd X k 12) :: rest)) := g_putN C hR hS (gI_m hk (by decide)) (gE_m hk 12 _) rfl ilX2 tyX2_ok nmX2 1 (by decide) hlink rfl rfl (tyX2_ok 1 (by decide)) rfl rfl (Nat.le_of_ble_eq_true rfl) _ (by rw [gE_m hk]; rfl) hdg kk
theorem gt_X7_0 {k index : Nat} (C : gC X own cc ret nL p s m args meth c) (hk : k < 7) (hR : gRep X mem H) (hlink : Cond.fieldLink own index "FarBanks$Trail" "parts" "LFarBanks$Row;" ∈ wA) (hdg : decode cc pc = .ok (.getfield index, 3)) (kk : W p l e R s m args below meth c H locs cells slots Q (F0 m (pc + 3) ls (.ref (gAd X k 16) :: rest))) : W p l e R s m args below meth c H locs cells slots Q (F0 m pc ls (.ref (gAd X k 15) :: rest)) := g_get C hR (gI_m hk (by decide)) (gE_m hk 15 _) rfl ilX7 0 (by decide) hlink rfl rfl hdg kk
theorem gn_X7_0 {k index : Nat} {host : String} (C : gC X own cc ret nL p s m args meth c) (hk : k < 7) (hR : gRep X mem H) (hlink : (own, index, "FarBanks$Trail", "parts", "LFarBanks$Row;", host) ∈ gNf) (hdg : decode cc pc = .ok (.getfield index, 3)) (kk : W p l e R s m args below meth c H locs cells slots Q (F0 m (pc + 3) ls (.ref (gAd X k 16) :: rest))) : W p l e R s m args below meth c H locs cells slots Q (F0 m pc ls (.ref (gAd X k 15) :: rest)) := g_getN C hR (gI_m hk (by decide)) (gE_m hk 15 _) rfl ilX7 0 (by decide) hlink rfl rfl hdg kk
theorem gt_X7_1 {k index : Nat} (C : gC X own cc ret nL p s m args meth c) (hk : k < 7) (hR : gRep X mem H) (hlink : Cond.fieldLink own index "FarBanks$Trail" "total" "I" ∈ wA) (hdg : decode cc pc = .ok (.getfield index, 3)) (kk : W p l e R s m args below meth c H locs cells slots Q (F0 m (pc + 3) ls (.int (nI (mem k 15 1)) :: rest))) : W p l e R s m args below meth c H locs cells slots Q (F0 m pc ls (.ref (gAd X k 15) :: rest)) := g_get C hR (gI_m hk (by decide)) (gE_m hk 15 _) rfl ilX7 1 (by decide) hlink rfl rfl hdg kk
theorem pt_X7_1 {k index x : Nat} (C : gC X own cc ret nL p s m args meth c) (hk : k < 7) (hR : gRep X mem H) (hS : va_S (gA X) s.heap H locs) (hlink : Cond.fieldLink own index "FarBanks$Trail" "total" "I" ∈ wA) (hdg : decode cc pc = .ok (.putfield index, 3)) (kk : ∀ (H1 : Heap) (locs1 : List Loc), gRep X (gP mem k 15 (fU (mem k 15) 1 x)) H1 → va_S (gA X) s.heap H1 locs1 → W p l e R s m args below meth c H1 locs1 cells slots Q (F0 m (pc + 3) ls rest)) : W p l e R s m args below meth c H locs cells slots Q (F0 m pc ls (.int (nI x) :: .ref (gAd X k 15) :: rest)) := g_put C hR hS (gI_m hk (by decide)) (gE_m hk 15 _) rfl ilX7 tyX7_ok nmX7 1 (by decide) hlink rfl rfl (tyX7_ok 1 (by decide)) rfl rfl (Nat.le_of_ble_eq_true rfl) _ (by rw [gE_m hk]; rfl) hdg kk
theorem gn_X7_1 {k index : Nat} {host : String} (C : gC X own cc ret nL p s m args meth c) (hk : k < 7) (hR : gRep X mem H) (hlink : (own, index, "FarBanks$Trail", "total", "I", host) ∈ gNf) (hdg : decode cc pc = .ok (.getfield index, 3)) (kk : W p l e R s m args below meth c H locs cells slots Q (F0 m (pc + 3) ls (.int (nI (mem k 15 1)) :: rest))) : W p l e R s m args below meth c H locs cells slots Q (F0 m pc ls (.ref (gAd X k 15) :: rest)) := g_getN C hR (gI_m hk (by decide)) (gE_m hk 15 _) rfl ilX7 1 (by decide) hlink rfl rfl hdg kk
theorem pn_X7_1 {k index x : Nat} {host : String} (C : gC X own cc ret nL p s m args meth c) (hk : k < 7) (hR : gRep X mem H) (hS : va_S (gA X) s.heap H locs) (hlink : (own, index, "FarBanks$Trail", "total", "I", host) ∈ gNf) (hdg : decode cc pc = .ok (.putfield index, 3)) (kk : ∀ (H1 : Heap) (locs1 : List Loc), gRep X (gP mem k 15 (fU (mem k 15) 1 x)) H1 → va_S (gA X) s.heap H1 locs1 → W p l e R s m args below meth c H1 locs1 cells slots Q (F0 m (pc + 3) ls rest)) : W p l e R s m args below meth c H locs cells slots Q (F0 m pc ls (.int (nI x) :: .ref (gAd X k 15) :: rest)) := g_putN C hR hS (gI_m hk (by decide)) (gE_m hk 15 _) rfl ilX7 tyX7_ok nmX7 1 (by decide) hlink rfl rfl (tyX7_ok 1 (by decide)) rfl rfl (Nat.le_of_ble_eq_true rfl) _ (by rw [gE_m hk]; rfl) hdg kk
theorem gt_X8_0 {index : Nat} (C : gC X own cc ret nL p s m args meth c) (hR : gRep X mem H) (hlink : Cond.fieldLink own index "FarBanks" "now" "LFarBanks$Machine;" ∈ wA) (hdg : decode cc pc = .ok (.getfield index, 3)) (kk : W p l e R s m args below meth c H locs cells slots Q (F0 m (pc + 3) ls (.ref (gAd X 0 0) :: rest))) : W p l e R s m args below meth c H locs cells slots Q (F0 m pc ls (.ref (gAd X 7 0) :: rest)) := g_get C hR (gI_f (by decide)) rfl rfl ilX8 0 (by decide) hlink rfl rfl hdg kk
theorem gn_X8_0 {index : Nat} {host : String} (C : gC X own cc ret nL p s m args meth c) (hR : gRep X mem H) (hlink : (own, index, "FarBanks", "now", "LFarBanks$Machine;", host) ∈ gNf) (hdg : decode cc pc = .ok (.getfield index, 3)) (kk : W p l e R s m args below meth c H locs cells slots Q (F0 m (pc + 3) ls (.ref (gAd X 0 0) :: rest))) : W p l e R s m args below meth c H locs cells slots Q (F0 m pc ls (.ref (gAd X 7 0) :: rest)) := g_getN C hR (gI_f (by decide)) rfl rfl ilX8 0 (by decide) hlink rfl rfl hdg kk
theorem gt_X8_1 {index : Nat} (C : gC X own cc ret nL p s m args meth c) (hR : gRep X mem H) (hlink : Cond.fieldLink own index "FarBanks" "trial" "LFarBanks$Machine;" ∈ wA) (hdg : decode cc pc = .ok (.getfield index, 3)) (kk : W p l e R s m args below meth c H locs cells slots Q (F0 m (pc + 3) ls (.ref (gAd X 1 0) :: rest))) : W p l e R s m args below meth c H locs cells slots Q (F0 m pc ls (.ref (gAd X 7 0) :: rest)) := g_get C hR (gI_f (by decide)) rfl rfl ilX8 1 (by decide) hlink rfl rfl hdg kk
theorem gn_X8_1 {index : Nat} {host : String} (C : gC X own cc ret nL p s m args meth c) (hR : gRep X mem H) (hlink : (own, index, "FarBanks", "trial", "LFarBanks$Machine;", host) ∈ gNf) (hdg : decode cc pc = .ok (.getfield index, 3)) (kk : W p l e R s m args below meth c H locs cells slots Q (F0 m (pc + 3) ls (.ref (gAd X 1 0) :: rest))) : W p l e R s m args below meth c H locs cells slots Q (F0 m pc ls (.ref (gAd X 7 0) :: rest)) := g_getN C hR (gI_f (by decide)) rfl rfl ilX8 1 (by decide) hlink rfl rfl hdg kk
theorem gt_X8_2 {index : Nat} (C : gC X own cc ret nL p s m args meth c) (hR : gRep X mem H) (hlink : Cond.fieldLink own index "FarBanks" "snapshot" "LFarBanks$Machine;" ∈ wA) (hdg : decode cc pc = .ok (.getfield index, 3)) (kk : W p l e R s m args below meth c H locs cells slots Q (F0 m (pc + 3) ls (.ref (gAd X 2 0) :: rest))) : W p l e R s m args below meth c H locs cells slots Q (F0 m pc ls (.ref (gAd X 7 0) :: rest)) := g_get C hR (gI_f (by decide)) rfl rfl ilX8 2 (by decide) hlink rfl rfl hdg kk
theorem gn_X8_2 {index : Nat} {host : String} (C : gC X own cc ret nL p s m args meth c) (hR : gRep X mem H) (hlink : (own, index, "FarBanks", "snapshot", "LFarBanks$Machine;", host) ∈ gNf) (hdg : decode cc pc = .ok (.getfield index, 3)) (kk : W p l e R s m args below meth c H locs cells slots Q (F0 m (pc + 3) ls (.ref (gAd X 2 0) :: rest))) : W p l e R s m args below meth c H locs cells slots Q (F0 m pc ls (.ref (gAd X 7 0) :: rest)) := g_getN C hR (gI_f (by decide)) rfl rfl ilX8 2 (by decide) hlink rfl rfl hdg kk
theorem gt_X8_3 {index : Nat} (C : gC X own cc ret nL p s m args meth c) (hR : gRep X mem H) (hlink : Cond.fieldLink own index "FarBanks" "history" "LFarBanks$History;" ∈ wA) (hdg : decode cc pc = .ok (.getfield index, 3)) (kk : W p l e R s m args below meth c H locs cells slots Q (F0 m (pc + 3) ls (.ref (gAd X 7 1) :: rest))) : W p l e R s m args below meth c H locs cells slots Q (F0 m pc ls (.ref (gAd X 7 0) :: rest)) := g_get C hR (gI_f (by decide)) rfl rfl ilX8 3 (by decide) hlink rfl rfl hdg kk
theorem gn_X8_3 {index : Nat} {host : String} (C : gC X own cc ret nL p s m args meth c) (hR : gRep X mem H) (hlink : (own, index, "FarBanks", "history", "LFarBanks$History;", host) ∈ gNf) (hdg : decode cc pc = .ok (.getfield index, 3)) (kk : W p l e R s m args below meth c H locs cells slots Q (F0 m (pc + 3) ls (.ref (gAd X 7 1) :: rest))) : W p l e R s m args below meth c H locs cells slots Q (F0 m pc ls (.ref (gAd X 7 0) :: rest)) := g_getN C hR (gI_f (by decide)) rfl rfl ilX8 3 (by decide) hlink rfl rfl hdg kk
theorem gt_X8_4 {index : Nat} (C : gC X own cc ret nL p s m args meth c) (hR : gRep X mem H) (hlink : Cond.fieldLink own index "FarBanks" "text" "LFarBanks$Text;" ∈ wA) (hdg : decode cc pc = .ok (.getfield index, 3)) (kk : W p l e R s m args below meth c H locs cells slots Q (F0 m (pc + 3) ls (.ref (gAd X 7 3) :: rest))) : W p l e R s m args below meth c H locs cells slots Q (F0 m pc ls (.ref (gAd X 7 0) :: rest)) := g_get C hR (gI_f (by decide)) rfl rfl ilX8 4 (by decide) hlink rfl rfl hdg kk
theorem gn_X8_4 {index : Nat} {host : String} (C : gC X own cc ret nL p s m args meth c) (hR : gRep X mem H) (hlink : (own, index, "FarBanks", "text", "LFarBanks$Text;", host) ∈ gNf) (hdg : decode cc pc = .ok (.getfield index, 3)) (kk : W p l e R s m args below meth c H locs cells slots Q (F0 m (pc + 3) ls (.ref (gAd X 7 3) :: rest))) : W p l e R s m args below meth c H locs cells slots Q (F0 m pc ls (.ref (gAd X 7 0) :: rest)) := g_getN C hR (gI_f (by decide)) rfl rfl ilX8 4 (by decide) hlink rfl rfl hdg kk
theorem gt_X8_5 {index : Nat} (C : gC X own cc ret nL p s m args meth c) (hR : gRep X mem H) (hlink : Cond.fieldLink own index "FarBanks" "code" "LFarBanks$Code;" ∈ wA) (hdg : decode cc pc = .ok (.getfield index, 3)) (kk : W p l e R s m args below meth c H locs cells slots Q (F0 m (pc + 3) ls (.ref (gAd X 7 5) :: rest))) : W p l e R s m args below meth c H locs cells slots Q (F0 m pc ls (.ref (gAd X 7 0) :: rest)) := g_get C hR (gI_f (by decide)) rfl rfl ilX8 5 (by decide) hlink rfl rfl hdg kk
theorem gn_X8_5 {index : Nat} {host : String} (C : gC X own cc ret nL p s m args meth c) (hR : gRep X mem H) (hlink : (own, index, "FarBanks", "code", "LFarBanks$Code;", host) ∈ gNf) (hdg : decode cc pc = .ok (.getfield index, 3)) (kk : W p l e R s m args below meth c H locs cells slots Q (F0 m (pc + 3) ls (.ref (gAd X 7 5) :: rest))) : W p l e R s m args below meth c H locs cells slots Q (F0 m pc ls (.ref (gAd X 7 0) :: rest)) := g_getN C hR (gI_f (by decide)) rfl rfl ilX8 5 (by decide) hlink rfl rfl hdg kk
theorem gt_X8_6 {index : Nat} (C : gC X own cc ret nL p s m args meth c) (hR : gRep X mem H) (hlink : Cond.fieldLink own index "FarBanks" "hasSnapshot" "Z" ∈ wA) (hdg : decode cc pc = .ok (.getfield index, 3)) (kk : W p l e R s m args below meth c H locs cells slots Q (F0 m (pc + 3) ls (.int (nI (mem 7 0 6)) :: rest))) : W p l e R s m args below meth c H locs cells slots Q (F0 m pc ls (.ref (gAd X 7 0) :: rest)) := g_get C hR (gI_f (by decide)) rfl rfl ilX8 6 (by decide) hlink rfl rfl hdg kk
theorem pt_X8_6 {index x : Nat} (C : gC X own cc ret nL p s m args meth c) (hR : gRep X mem H) (hS : va_S (gA X) s.heap H locs) (hx9 : x < 2) (hlink : Cond.fieldLink own index "FarBanks" "hasSnapshot" "Z" ∈ wA) (hdg : decode cc pc = .ok (.putfield index, 3)) (kk : ∀ (H1 : Heap) (locs1 : List Loc), gRep X (gP mem 7 0 (fU (mem 7 0) 6 x)) H1 → va_S (gA X) s.heap H1 locs1 → W p l e R s m args below meth c H1 locs1 cells slots Q (F0 m (pc + 3) ls rest)) : W p l e R s m args below meth c H locs cells slots Q (F0 m pc ls (.int (nI x) :: .ref (gAd X 7 0) :: rest)) := g_put C hR hS (gI_f (by decide)) rfl rfl ilX8 tyX8_ok nmX8 6 (by decide) hlink rfl rfl (tyX8_ok 6 (by decide)) (by rcases (show x = 0 ∨ x = 1 by omega) with e | e <;> subst e <;> rfl) (by rcases (show x = 0 ∨ x = 1 by omega) with e | e <;> subst e <;> rfl) (Nat.le_of_ble_eq_true rfl) _ rfl hdg kk
theorem gn_X8_6 {index : Nat} {host : String} (C : gC X own cc ret nL p s m args meth c) (hR : gRep X mem H) (hlink : (own, index, "FarBanks", "hasSnapshot", "Z", host) ∈ gNf) (hdg : decode cc pc = .ok (.getfield index, 3)) (kk : W p l e R s m args below meth c H locs cells slots Q (F0 m (pc + 3) ls (.int (nI (mem 7 0 6)) :: rest))) : W p l e R s m args below meth c H locs cells slots Q (F0 m pc ls (.ref (gAd X 7 0) :: rest)) := g_getN C hR (gI_f (by decide)) rfl rfl ilX8 6 (by decide) hlink rfl rfl hdg kk
theorem pn_X8_6 {index x : Nat} {host : String} (C : gC X own cc ret nL p s m args meth c) (hR : gRep X mem H) (hS : va_S (gA X) s.heap H locs) (hx9 : x < 2) (hlink : (own, index, "FarBanks", "hasSnapshot", "Z", host) ∈ gNf) (hdg : decode cc pc = .ok (.putfield index, 3)) (kk : ∀ (H1 : Heap) (locs1 : List Loc), gRep X (gP mem 7 0 (fU (mem 7 0) 6 x)) H1 → va_S (gA X) s.heap H1 locs1 → W p l e R s m args below meth c H1 locs1 cells slots Q (F0 m (pc + 3) ls rest)) : W p l e R s m args below meth c H locs cells slots Q (F0 m pc ls (.int (nI x) :: .ref (gAd X 7 0) :: rest)) := g_putN C hR hS (gI_f (by decide)) rfl rfl ilX8 tyX8_ok nmX8 6 (by decide) hlink rfl rfl (tyX8_ok 6 (by decide)) (by rcases (show x = 0 ∨ x = 1 by omega) with e | e <;> subst e <;> rfl) (by rcases (show x = 0 ∨ x = 1 by omega) with e | e <;> subst e <;> rfl) (Nat.le_of_ble_eq_true rfl) _ rfl hdg kk
theorem gt_X3_0 {index : Nat} (C : gC X own cc ret nL p s m args meth c) (hR : gRep X mem H) (hlink : Cond.fieldLink own index "FarBanks$History" "states" "[LFarBanks$Machine;" ∈ wA) (hdg : decode cc pc = .ok (.getfield index, 3)) (kk : W p l e R s m args below meth c H locs cells slots Q (F0 m (pc + 3) ls (.ref (gAd X 7 2) :: rest))) : W p l e R s m args below meth c H locs cells slots Q (F0 m pc ls (.ref (gAd X 7 1) :: rest)) := g_get C hR (gI_f (by decide)) rfl rfl ilX3 0 (by decide) hlink rfl rfl hdg kk
theorem gn_X3_0 {index : Nat} {host : String} (C : gC X own cc ret nL p s m args meth c) (hR : gRep X mem H) (hlink : (own, index, "FarBanks$History", "states", "[LFarBanks$Machine;", host) ∈ gNf) (hdg : decode cc pc = .ok (.getfield index, 3)) (kk : W p l e R s m args below meth c H locs cells slots Q (F0 m (pc + 3) ls (.ref (gAd X 7 2) :: rest))) : W p l e R s m args below meth c H locs cells slots Q (F0 m pc ls (.ref (gAd X 7 1) :: rest)) := g_getN C hR (gI_f (by decide)) rfl rfl ilX3 0 (by decide) hlink rfl rfl hdg kk
theorem gt_X3_1 {index : Nat} (C : gC X own cc ret nL p s m args meth c) (hR : gRep X mem H) (hlink : Cond.fieldLink own index "FarBanks$History" "size" "I" ∈ wA) (hdg : decode cc pc = .ok (.getfield index, 3)) (kk : W p l e R s m args below meth c H locs cells slots Q (F0 m (pc + 3) ls (.int (nI (mem 7 1 1)) :: rest))) : W p l e R s m args below meth c H locs cells slots Q (F0 m pc ls (.ref (gAd X 7 1) :: rest)) := g_get C hR (gI_f (by decide)) rfl rfl ilX3 1 (by decide) hlink rfl rfl hdg kk
theorem pt_X3_1 {index x : Nat} (C : gC X own cc ret nL p s m args meth c) (hR : gRep X mem H) (hS : va_S (gA X) s.heap H locs) (hlink : Cond.fieldLink own index "FarBanks$History" "size" "I" ∈ wA) (hdg : decode cc pc = .ok (.putfield index, 3)) (kk : ∀ (H1 : Heap) (locs1 : List Loc), gRep X (gP mem 7 1 (fU (mem 7 1) 1 x)) H1 → va_S (gA X) s.heap H1 locs1 → W p l e R s m args below meth c H1 locs1 cells slots Q (F0 m (pc + 3) ls rest)) : W p l e R s m args below meth c H locs cells slots Q (F0 m pc ls (.int (nI x) :: .ref (gAd X 7 1) :: rest)) := g_put C hR hS (gI_f (by decide)) rfl rfl ilX3 tyX3_ok nmX3 1 (by decide) hlink rfl rfl (tyX3_ok 1 (by decide)) rfl rfl (Nat.le_of_ble_eq_true rfl) _ rfl hdg kk
theorem gn_X3_1 {index : Nat} {host : String} (C : gC X own cc ret nL p s m args meth c) (hR : gRep X mem H) (hlink : (own, index, "FarBanks$History", "size", "I", host) ∈ gNf) (hdg : decode cc pc = .ok (.getfield index, 3)) (kk : W p l e R s m args below meth c H locs cells slots Q (F0 m (pc + 3) ls (.int (nI (mem 7 1 1)) :: rest))) : W p l e R s m args below meth c H locs cells slots Q (F0 m pc ls (.ref (gAd X 7 1) :: rest)) := g_getN C hR (gI_f (by decide)) rfl rfl ilX3 1 (by decide) hlink rfl rfl hdg kk
theorem pn_X3_1 {index x : Nat} {host : String} (C : gC X own cc ret nL p s m args meth c) (hR : gRep X mem H) (hS : va_S (gA X) s.heap H locs) (hlink : (own, index, "FarBanks$History", "size", "I", host) ∈ gNf) (hdg : decode cc pc = .ok (.putfield index, 3)) (kk : ∀ (H1 : Heap) (locs1 : List Loc), gRep X (gP mem 7 1 (fU (mem 7 1) 1 x)) H1 → va_S (gA X) s.heap H1 locs1 → W p l e R s m args below meth c H1 locs1 cells slots Q (F0 m (pc + 3) ls rest)) : W p l e R s m args below meth c H locs cells slots Q (F0 m pc ls (.int (nI x) :: .ref (gAd X 7 1) :: rest)) := g_putN C hR hS (gI_f (by decide)) rfl rfl ilX3 tyX3_ok nmX3 1 (by decide) hlink rfl rfl (tyX3_ok 1 (by decide)) rfl rfl (Nat.le_of_ble_eq_true rfl) _ rfl hdg kk
theorem gt_X6_0 {index : Nat} (C : gC X own cc ret nL p s m args meth c) (hR : gRep X mem H) (hlink : Cond.fieldLink own index "FarBanks$Text" "characters" "[C" ∈ wA) (hdg : decode cc pc = .ok (.getfield index, 3)) (kk : W p l e R s m args below meth c H locs cells slots Q (F0 m (pc + 3) ls (.ref (gAd X 7 4) :: rest))) : W p l e R s m args below meth c H locs cells slots Q (F0 m pc ls (.ref (gAd X 7 3) :: rest)) := g_get C hR (gI_f (by decide)) rfl rfl ilX6 0 (by decide) hlink rfl rfl hdg kk
theorem gn_X6_0 {index : Nat} {host : String} (C : gC X own cc ret nL p s m args meth c) (hR : gRep X mem H) (hlink : (own, index, "FarBanks$Text", "characters", "[C", host) ∈ gNf) (hdg : decode cc pc = .ok (.getfield index, 3)) (kk : W p l e R s m args below meth c H locs cells slots Q (F0 m (pc + 3) ls (.ref (gAd X 7 4) :: rest))) : W p l e R s m args below meth c H locs cells slots Q (F0 m pc ls (.ref (gAd X 7 3) :: rest)) := g_getN C hR (gI_f (by decide)) rfl rfl ilX6 0 (by decide) hlink rfl rfl hdg kk
theorem gt_X6_1 {index : Nat} (C : gC X own cc ret nL p s m args meth c) (hR : gRep X mem H) (hlink : Cond.fieldLink own index "FarBanks$Text" "length" "I" ∈ wA) (hdg : decode cc pc = .ok (.getfield index, 3)) (kk : W p l e R s m args below meth c H locs cells slots Q (F0 m (pc + 3) ls (.int (nI (mem 7 3 1)) :: rest))) : W p l e R s m args below meth c H locs cells slots Q (F0 m pc ls (.ref (gAd X 7 3) :: rest)) := g_get C hR (gI_f (by decide)) rfl rfl ilX6 1 (by decide) hlink rfl rfl hdg kk
theorem pt_X6_1 {index x : Nat} (C : gC X own cc ret nL p s m args meth c) (hR : gRep X mem H) (hS : va_S (gA X) s.heap H locs) (hlink : Cond.fieldLink own index "FarBanks$Text" "length" "I" ∈ wA) (hdg : decode cc pc = .ok (.putfield index, 3)) (kk : ∀ (H1 : Heap) (locs1 : List Loc), gRep X (gP mem 7 3 (fU (mem 7 3) 1 x)) H1 → va_S (gA X) s.heap H1 locs1 → W p l e R s m args below meth c H1 locs1 cells slots Q (F0 m (pc + 3) ls rest)) : W p l e R s m args below meth c H locs cells slots Q (F0 m pc ls (.int (nI x) :: .ref (gAd X 7 3) :: rest)) := g_put C hR hS (gI_f (by decide)) rfl rfl ilX6 tyX6_ok nmX6 1 (by decide) hlink rfl rfl (tyX6_ok 1 (by decide)) rfl rfl (Nat.le_of_ble_eq_true rfl) _ rfl hdg kk
theorem gn_X6_1 {index : Nat} {host : String} (C : gC X own cc ret nL p s m args meth c) (hR : gRep X mem H) (hlink : (own, index, "FarBanks$Text", "length", "I", host) ∈ gNf) (hdg : decode cc pc = .ok (.getfield index, 3)) (kk : W p l e R s m args below meth c H locs cells slots Q (F0 m (pc + 3) ls (.int (nI (mem 7 3 1)) :: rest))) : W p l e R s m args below meth c H locs cells slots Q (F0 m pc ls (.ref (gAd X 7 3) :: rest)) := g_getN C hR (gI_f (by decide)) rfl rfl ilX6 1 (by decide) hlink rfl rfl hdg kk
theorem pn_X6_1 {index x : Nat} {host : String} (C : gC X own cc ret nL p s m args meth c) (hR : gRep X mem H) (hS : va_S (gA X) s.heap H locs) (hlink : (own, index, "FarBanks$Text", "length", "I", host) ∈ gNf) (hdg : decode cc pc = .ok (.putfield index, 3)) (kk : ∀ (H1 : Heap) (locs1 : List Loc), gRep X (gP mem 7 3 (fU (mem 7 3) 1 x)) H1 → va_S (gA X) s.heap H1 locs1 → W p l e R s m args below meth c H1 locs1 cells slots Q (F0 m (pc + 3) ls rest)) : W p l e R s m args below meth c H locs cells slots Q (F0 m pc ls (.int (nI x) :: .ref (gAd X 7 3) :: rest)) := g_putN C hR hS (gI_f (by decide)) rfl rfl ilX6 tyX6_ok nmX6 1 (by decide) hlink rfl rfl (tyX6_ok 1 (by decide)) rfl rfl (Nat.le_of_ble_eq_true rfl) _ rfl hdg kk
theorem gt_X1_0 {index : Nat} (C : gC X own cc ret nL p s m args meth c) (hR : gRep X mem H) (hlink : Cond.fieldLink own index "FarBanks$Code" "orders" "LFarBanks$Row;" ∈ wA) (hdg : decode cc pc = .ok (.getfield index, 3)) (kk : W p l e R s m args below meth c H locs cells slots Q (F0 m (pc + 3) ls (.ref (gAd X 7 6) :: rest))) : W p l e R s m args below meth c H locs cells slots Q (F0 m pc ls (.ref (gAd X 7 5) :: rest)) := g_get C hR (gI_f (by decide)) rfl rfl ilX1 0 (by decide) hlink rfl rfl hdg kk
theorem gn_X1_0 {index : Nat} {host : String} (C : gC X own cc ret nL p s m args meth c) (hR : gRep X mem H) (hlink : (own, index, "FarBanks$Code", "orders", "LFarBanks$Row;", host) ∈ gNf) (hdg : decode cc pc = .ok (.getfield index, 3)) (kk : W p l e R s m args below meth c H locs cells slots Q (F0 m (pc + 3) ls (.ref (gAd X 7 6) :: rest))) : W p l e R s m args below meth c H locs cells slots Q (F0 m pc ls (.ref (gAd X 7 5) :: rest)) := g_getN C hR (gI_f (by decide)) rfl rfl ilX1 0 (by decide) hlink rfl rfl hdg kk
theorem gt_X1_1 {index : Nat} (C : gC X own cc ret nL p s m args meth c) (hR : gRep X mem H) (hlink : Cond.fieldLink own index "FarBanks$Code" "size" "I" ∈ wA) (hdg : decode cc pc = .ok (.getfield index, 3)) (kk : W p l e R s m args below meth c H locs cells slots Q (F0 m (pc + 3) ls (.int (nI (mem 7 5 1)) :: rest))) : W p l e R s m args below meth c H locs cells slots Q (F0 m pc ls (.ref (gAd X 7 5) :: rest)) := g_get C hR (gI_f (by decide)) rfl rfl ilX1 1 (by decide) hlink rfl rfl hdg kk
theorem pt_X1_1 {index x : Nat} (C : gC X own cc ret nL p s m args meth c) (hR : gRep X mem H) (hS : va_S (gA X) s.heap H locs) (hlink : Cond.fieldLink own index "FarBanks$Code" "size" "I" ∈ wA) (hdg : decode cc pc = .ok (.putfield index, 3)) (kk : ∀ (H1 : Heap) (locs1 : List Loc), gRep X (gP mem 7 5 (fU (mem 7 5) 1 x)) H1 → va_S (gA X) s.heap H1 locs1 → W p l e R s m args below meth c H1 locs1 cells slots Q (F0 m (pc + 3) ls rest)) : W p l e R s m args below meth c H locs cells slots Q (F0 m pc ls (.int (nI x) :: .ref (gAd X 7 5) :: rest)) := g_put C hR hS (gI_f (by decide)) rfl rfl ilX1 tyX1_ok nmX1 1 (by decide) hlink rfl rfl (tyX1_ok 1 (by decide)) rfl rfl (Nat.le_of_ble_eq_true rfl) _ rfl hdg kk
theorem gn_X1_1 {index : Nat} {host : String} (C : gC X own cc ret nL p s m args meth c) (hR : gRep X mem H) (hlink : (own, index, "FarBanks$Code", "size", "I", host) ∈ gNf) (hdg : decode cc pc = .ok (.getfield index, 3)) (kk : W p l e R s m args below meth c H locs cells slots Q (F0 m (pc + 3) ls (.int (nI (mem 7 5 1)) :: rest))) : W p l e R s m args below meth c H locs cells slots Q (F0 m pc ls (.ref (gAd X 7 5) :: rest)) := g_getN C hR (gI_f (by decide)) rfl rfl ilX1 1 (by decide) hlink rfl rfl hdg kk
theorem pn_X1_1 {index x : Nat} {host : String} (C : gC X own cc ret nL p s m args meth c) (hR : gRep X mem H) (hS : va_S (gA X) s.heap H locs) (hlink : (own, index, "FarBanks$Code", "size", "I", host) ∈ gNf) (hdg : decode cc pc = .ok (.putfield index, 3)) (kk : ∀ (H1 : Heap) (locs1 : List Loc), gRep X (gP mem 7 5 (fU (mem 7 5) 1 x)) H1 → va_S (gA X) s.heap H1 locs1 → W p l e R s m args below meth c H1 locs1 cells slots Q (F0 m (pc + 3) ls rest)) : W p l e R s m args below meth c H locs cells slots Q (F0 m pc ls (.int (nI x) :: .ref (gAd X 7 5) :: rest)) := g_putN C hR hS (gI_f (by decide)) rfl rfl ilX1 tyX1_ok nmX1 1 (by decide) hlink rfl rfl (tyX1_ok 1 (by decide)) rfl rfl (Nat.le_of_ble_eq_true rfl) _ rfl hdg kk
theorem gt_X1_2 {index : Nat} (C : gC X own cc ret nL p s m args meth c) (hR : gRep X mem H) (hlink : Cond.fieldLink own index "FarBanks$Code" "position" "I" ∈ wA) (hdg : decode cc pc = .ok (.getfield index, 3)) (kk : W p l e R s m args below meth c H locs cells slots Q (F0 m (pc + 3) ls (.int (nI (mem 7 5 2)) :: rest))) : W p l e R s m args below meth c H locs cells slots Q (F0 m pc ls (.ref (gAd X 7 5) :: rest)) := g_get C hR (gI_f (by decide)) rfl rfl ilX1 2 (by decide) hlink rfl rfl hdg kk
theorem pt_X1_2 {index x : Nat} (C : gC X own cc ret nL p s m args meth c) (hR : gRep X mem H) (hS : va_S (gA X) s.heap H locs) (hlink : Cond.fieldLink own index "FarBanks$Code" "position" "I" ∈ wA) (hdg : decode cc pc = .ok (.putfield index, 3)) (kk : ∀ (H1 : Heap) (locs1 : List Loc), gRep X (gP mem 7 5 (fU (mem 7 5) 2 x)) H1 → va_S (gA X) s.heap H1 locs1 → W p l e R s m args below meth c H1 locs1 cells slots Q (F0 m (pc + 3) ls rest)) : W p l e R s m args below meth c H locs cells slots Q (F0 m pc ls (.int (nI x) :: .ref (gAd X 7 5) :: rest)) := g_put C hR hS (gI_f (by decide)) rfl rfl ilX1 tyX1_ok nmX1 2 (by decide) hlink rfl rfl (tyX1_ok 2 (by decide)) rfl rfl (Nat.le_of_ble_eq_true rfl) _ rfl hdg kk
theorem gn_X1_2 {index : Nat} {host : String} (C : gC X own cc ret nL p s m args meth c) (hR : gRep X mem H) (hlink : (own, index, "FarBanks$Code", "position", "I", host) ∈ gNf) (hdg : decode cc pc = .ok (.getfield index, 3)) (kk : W p l e R s m args below meth c H locs cells slots Q (F0 m (pc + 3) ls (.int (nI (mem 7 5 2)) :: rest))) : W p l e R s m args below meth c H locs cells slots Q (F0 m pc ls (.ref (gAd X 7 5) :: rest)) := g_getN C hR (gI_f (by decide)) rfl rfl ilX1 2 (by decide) hlink rfl rfl hdg kk
theorem pn_X1_2 {index x : Nat} {host : String} (C : gC X own cc ret nL p s m args meth c) (hR : gRep X mem H) (hS : va_S (gA X) s.heap H locs) (hlink : (own, index, "FarBanks$Code", "position", "I", host) ∈ gNf) (hdg : decode cc pc = .ok (.putfield index, 3)) (kk : ∀ (H1 : Heap) (locs1 : List Loc), gRep X (gP mem 7 5 (fU (mem 7 5) 2 x)) H1 → va_S (gA X) s.heap H1 locs1 → W p l e R s m args below meth c H1 locs1 cells slots Q (F0 m (pc + 3) ls rest)) : W p l e R s m args below meth c H locs cells slots Q (F0 m pc ls (.int (nI x) :: .ref (gAd X 7 5) :: rest)) := g_putN C hR hS (gI_f (by decide)) rfl rfl ilX1 tyX1_ok nmX1 2 (by decide) hlink rfl rfl (tyX1_ok 2 (by decide)) rfl rfl (Nat.le_of_ble_eq_true rfl) _ rfl hdg kk
theorem gt_X1_3 {index : Nat} (C : gC X own cc ret nL p s m args meth c) (hR : gRep X mem H) (hlink : Cond.fieldLink own index "FarBanks$Code" "isSound" "Z" ∈ wA) (hdg : decode cc pc = .ok (.getfield index, 3)) (kk : W p l e R s m args below meth c H locs cells slots Q (F0 m (pc + 3) ls (.int (nI (mem 7 5 3)) :: rest))) : W p l e R s m args below meth c H locs cells slots Q (F0 m pc ls (.ref (gAd X 7 5) :: rest)) := g_get C hR (gI_f (by decide)) rfl rfl ilX1 3 (by decide) hlink rfl rfl hdg kk
theorem pt_X1_3 {index x : Nat} (C : gC X own cc ret nL p s m args meth c) (hR : gRep X mem H) (hS : va_S (gA X) s.heap H locs) (hx9 : x < 2) (hlink : Cond.fieldLink own index "FarBanks$Code" "isSound" "Z" ∈ wA) (hdg : decode cc pc = .ok (.putfield index, 3)) (kk : ∀ (H1 : Heap) (locs1 : List Loc), gRep X (gP mem 7 5 (fU (mem 7 5) 3 x)) H1 → va_S (gA X) s.heap H1 locs1 → W p l e R s m args below meth c H1 locs1 cells slots Q (F0 m (pc + 3) ls rest)) : W p l e R s m args below meth c H locs cells slots Q (F0 m pc ls (.int (nI x) :: .ref (gAd X 7 5) :: rest)) := g_put C hR hS (gI_f (by decide)) rfl rfl ilX1 tyX1_ok nmX1 3 (by decide) hlink rfl rfl (tyX1_ok 3 (by decide)) (by rcases (show x = 0 ∨ x = 1 by omega) with e | e <;> subst e <;> rfl) (by rcases (show x = 0 ∨ x = 1 by omega) with e | e <;> subst e <;> rfl) (Nat.le_of_ble_eq_true rfl) _ rfl hdg kk
theorem gn_X1_3 {index : Nat} {host : String} (C : gC X own cc ret nL p s m args meth c) (hR : gRep X mem H) (hlink : (own, index, "FarBanks$Code", "isSound", "Z", host) ∈ gNf) (hdg : decode cc pc = .ok (.getfield index, 3)) (kk : W p l e R s m args below meth c H locs cells slots Q (F0 m (pc + 3) ls (.int (nI (mem 7 5 3)) :: rest))) : W p l e R s m args below meth c H locs cells slots Q (F0 m pc ls (.ref (gAd X 7 5) :: rest)) := g_getN C hR (gI_f (by decide)) rfl rfl ilX1 3 (by decide) hlink rfl rfl hdg kk
theorem pn_X1_3 {index x : Nat} {host : String} (C : gC X own cc ret nL p s m args meth c) (hR : gRep X mem H) (hS : va_S (gA X) s.heap H locs) (hx9 : x < 2) (hlink : (own, index, "FarBanks$Code", "isSound", "Z", host) ∈ gNf) (hdg : decode cc pc = .ok (.putfield index, 3)) (kk : ∀ (H1 : Heap) (locs1 : List Loc), gRep X (gP mem 7 5 (fU (mem 7 5) 3 x)) H1 → va_S (gA X) s.heap H1 locs1 → W p l e R s m args below meth c H1 locs1 cells slots Q (F0 m (pc + 3) ls rest)) : W p l e R s m args below meth c H locs cells slots Q (F0 m pc ls (.int (nI x) :: .ref (gAd X 7 5) :: rest)) := g_putN C hR hS (gI_f (by decide)) rfl rfl ilX1 tyX1_ok nmX1 3 (by decide) hlink rfl rfl (tyX1_ok 3 (by decide)) (by rcases (show x = 0 ∨ x = 1 by omega) with e | e <;> subst e <;> rfl) (by rcases (show x = 0 ∨ x = 1 by omega) with e | e <;> subst e <;> rfl) (Nat.le_of_ble_eq_true rfl) _ rfl hdg kk
theorem g_iald_w {k o a n i : Nat} (C : gC X own cc ret nL p s m args meth c) (hw : gRow k o a n) (hR : gRep X mem H) (hi : i < n) (hdg : decode cc pc = .ok (.iaload, 1)) (kk : W p l e R s m args below meth c H locs cells slots Q (F0 m (pc + 1) ls (.int (nI (mem k a i)) :: rest))) : W p l e R s m args below meth c H locs cells slots Q (F0 m pc ls (.int (nI i) :: .ref (gAd X k a) :: rest)) := g_iald C hR (gIx hw.2.1) (hw.2.2.2.2 X) hi hw.2.2.1 hdg kk
theorem g_iast_w {k o a n i x : Nat} (C : gC X own cc ret nL p s m args meth c) (hw : gRow k o a n) (hR : gRep X mem H) (hS : va_S (gA X) s.heap H locs) (hi : i < n) (hdg : decode cc pc = .ok (.iastore, 1)) (kk : ∀ (H1 : Heap) (locs1 : List Loc), gRep X (gP mem k a (fU (mem k a) i x)) H1 → va_S (gA X) s.heap H1 locs1 → W p l e R s m args below meth c H1 locs1 cells slots Q (F0 m (pc + 1) ls rest)) : W p l e R s m args below meth c H locs cells slots Q (F0 m pc ls (.int (nI x) :: .int (nI i) :: .ref (gAd X k a) :: rest)) := g_iast C hR hS (gIx hw.2.1) (hw.2.2.2.2 X) hi hw.2.2.1 hdg kk
theorem g_alen_w {k o a n : Nat} (C : gC X own cc ret nL p s m args meth c) (hw : gRow k o a n) (hR : gRep X mem H) (hdg : decode cc pc = .ok (.arraylength, 1)) (kk : W p l e R s m args below meth c H locs cells slots Q (F0 m (pc + 1) ls (.int (nI n) :: rest))) : W p l e R s m args below meth c H locs cells slots Q (F0 m pc ls (.ref (gAd X k a) :: rest)) := g_alen C hR (gIx hw.2.1) (hw.2.2.2.2 X) hdg kk
end GD
theorem md_L_at : gMs yL_at cL_at 4 (some .int) 4 := ⟨st_L_at, co_L_at, in_L, by decide +kernel⟩
theorem md_L_cell : gMs yL_cell cL_cell 4 (some .int) 4 := ⟨st_L_cell, co_L_cell, in_L, by decide +kernel⟩
theorem md_L_cell1 : gMs yL_cell1 cL_cell1 2 (some .int) 2 := ⟨st_L_cell1, co_L_cell1, in_L, by decide +kernel⟩
theorem md_L_copy : gMs yL_copy cL_copy 3 none 2 := ⟨st_L_copy, co_L_copy, in_L, by decide +kernel⟩
theorem md_L_isAhead : gMs yL_isAhead cL_isAhead 13 (some .boolean) 6 := ⟨st_L_isAhead, co_L_isAhead, in_L, by decide +kernel⟩
theorem md_L_isSo : gMs yL_isSo cL_isSo 11 (some .boolean) 5 := ⟨st_L_isSo, co_L_isSo, in_L, by decide +kernel⟩
theorem md_L_low : gMs yL_low cL_low 2 (some .int) 2 := ⟨st_L_low, co_L_low, in_L, by decide +kernel⟩
theorem md_L_others : gMs yL_others cL_others 13 (some .boolean) 7 := ⟨st_L_others, co_L_others, in_L, by decide +kernel⟩
theorem md_L_put : gMs yL_put cL_put 5 none 5 := ⟨st_L_put, co_L_put, in_L, by decide +kernel⟩
theorem md_L_puts : gMs yL_puts cL_puts 12 (some .boolean) 6 := ⟨st_L_puts, co_L_puts, in_L, by decide +kernel⟩
theorem md_L_run : gMs yL_run cL_run 6 (some .int) 5 := ⟨st_L_run, co_L_run, in_L, by decide +kernel⟩
theorem md_L_step : gMs yL_step cL_step 10 none 4 := ⟨st_L_step, co_L_step, in_L, by decide +kernel⟩
theorem md_X0_bankAt : gMd yX0_bankAt cX0_bankAt 2 (some .int) 1 := ⟨im_X0_bankAt, se_X0_bankAt, co_X0_bankAt, in_X0, by decide +kernel⟩
theorem md_X0_copyCells : gMd yX0_copyCells cX0_copyCells 4 none 2 := ⟨im_X0_copyCells, se_X0_copyCells, co_X0_copyCells, in_X0, by decide +kernel⟩
theorem md_X0_copyFrom : gMd yX0_copyFrom cX0_copyFrom 2 none 1 := ⟨im_X0_copyFrom, se_X0_copyFrom, co_X0_copyFrom, in_X0, by decide +kernel⟩
theorem md_X0_differencesOf : gMd yX0_differencesOf cX0_differencesOf 5 (some .int) 2 := ⟨im_X0_differencesOf, se_X0_differencesOf, co_X0_differencesOf, in_X0, by decide +kernel⟩
theorem md_X0_fill : gMd yX0_fill cX0_fill 4 none 3 := ⟨im_X0_fill, se_X0_fill, co_X0_fill, in_X0, by decide +kernel⟩
theorem md_X0_indexOf : gMs yX0_indexOf cX0_indexOf 2 (some .int) 2 := ⟨st_X0_indexOf, co_X0_indexOf, in_X0, by decide +kernel⟩
theorem md_X0_isAlone : gMd yX0_isAlone cX0_isAlone 2 (some .boolean) 1 := ⟨im_X0_isAlone, se_X0_isAlone, co_X0_isAlone, in_X0, by decide +kernel⟩
theorem md_X0_numberAt : gMd yX0_numberAt cX0_numberAt 2 (some .int) 1 := ⟨im_X0_numberAt, se_X0_numberAt, co_X0_numberAt, in_X0, by decide +kernel⟩
theorem md_X0_numberIn : gMd yX0_numberIn cX0_numberIn 3 (some .int) 2 := ⟨im_X0_numberIn, se_X0_numberIn, co_X0_numberIn, in_X0, by decide +kernel⟩
theorem md_X0_storeUnlessAlone : gMd yX0_storeUnlessAlone cX0_storeUnlessAlone 4 (some .boolean) 2 := ⟨im_X0_storeUnlessAlone, se_X0_storeUnlessAlone, co_X0_storeUnlessAlone, in_X0, by decide +kernel⟩
theorem md_X0_twinOf : gMd yX0_twinOf cX0_twinOf 6 (some .int) 1 := ⟨im_X0_twinOf, se_X0_twinOf, co_X0_twinOf, in_X0, by decide +kernel⟩
theorem md_X0_usedCellsOf : gMd yX0_usedCellsOf cX0_usedCellsOf 4 (some .int) 1 := ⟨im_X0_usedCellsOf, se_X0_usedCellsOf, co_X0_usedCellsOf, in_X0, by decide +kernel⟩
theorem md_X0_windowsOf : gMd yX0_windowsOf cX0_windowsOf 4 (some .int) 1 := ⟨im_X0_windowsOf, se_X0_windowsOf, co_X0_windowsOf, in_X0, by decide +kernel⟩
theorem md_X2_add : gMd yX2_add cX2_add 5 none 3 := ⟨im_X2_add, se_X2_add, co_X2_add, in_X2, by decide +kernel⟩
theorem md_X2_copyFrom : gMd yX2_copyFrom cX2_copyFrom 2 none 1 := ⟨im_X2_copyFrom, se_X2_copyFrom, co_X2_copyFrom, in_X2, by decide +kernel⟩
theorem md_X2_howManyBackTo : gMd yX2_howManyBackTo cX2_howManyBackTo 4 (some .int) 1 := ⟨im_X2_howManyBackTo, se_X2_howManyBackTo, co_X2_howManyBackTo, in_X2, by decide +kernel⟩
theorem md_X2_tell : gMd yX2_tell cX2_tell 3 (some .int) 2 := ⟨im_X2_tell, se_X2_tell, co_X2_tell, in_X2, by decide +kernel⟩
theorem md_X3_bringBack : gMd yX3_bringBack cX3_bringBack 2 none 1 := ⟨im_X3_bringBack, se_X3_bringBack, co_X3_bringBack, in_X3, by decide +kernel⟩
theorem md_X3_dropOldest : gMd yX3_dropOldest cX3_dropOldest 3 none 0 := ⟨im_X3_dropOldest, se_X3_dropOldest, co_X3_dropOldest, in_X3, by decide +kernel⟩
theorem md_X3_remember : gMd yX3_remember cX3_remember 2 none 1 := ⟨im_X3_remember, se_X3_remember, co_X3_remember, in_X3, by decide +kernel⟩
theorem md_X4_callFrom : gMd yX4_callFrom cX4_callFrom 3 none 2 := ⟨im_X4_callFrom, se_X4_callFrom, co_X4_callFrom, in_X4, by decide +kernel⟩
theorem md_X4_carryOut : gMd yX4_carryOut cX4_carryOut 4 none 3 := ⟨im_X4_carryOut, se_X4_carryOut, co_X4_carryOut, in_X4, by decide +kernel⟩
theorem md_X4_comeBack : gMd yX4_comeBack cX4_comeBack 1 none 0 := ⟨im_X4_comeBack, se_X4_comeBack, co_X4_comeBack, in_X4, by decide +kernel⟩
theorem md_X4_copyFrom : gMd yX4_copyFrom cX4_copyFrom 2 none 1 := ⟨im_X4_copyFrom, se_X4_copyFrom, co_X4_copyFrom, in_X4, by decide +kernel⟩
theorem md_X4_hindranceOf : gMd yX4_hindranceOf cX4_hindranceOf 3 (some .int) 2 := ⟨im_X4_hindranceOf, se_X4_hindranceOf, co_X4_hindranceOf, in_X4, by decide +kernel⟩
theorem md_X4_increase : gMd yX4_increase cX4_increase 3 none 1 := ⟨im_X4_increase, se_X4_increase, co_X4_increase, in_X4, by decide +kernel⟩
theorem md_X4_isBeyond : gMs yX4_isBeyond cX4_isBeyond 2 (some .boolean) 2 := ⟨st_X4_isBeyond, co_X4_isBeyond, in_X4, by decide +kernel⟩
theorem md_X4_startAt : gMd yX4_startAt cX4_startAt 2 none 1 := ⟨im_X4_startAt, se_X4_startAt, co_X4_startAt, in_X4, by decide +kernel⟩
theorem md_X4_step : gMd yX4_step cX4_step 5 none 0 := ⟨im_X4_step, se_X4_step, co_X4_step, in_X4, by decide +kernel⟩
theorem md_X4_takeSteps : gMd yX4_takeSteps cX4_takeSteps 3 (some .int) 1 := ⟨im_X4_takeSteps, se_X4_takeSteps, co_X4_takeSteps, in_X4, by decide +kernel⟩
theorem md_X5_copyFrom : gMd yX5_copyFrom cX5_copyFrom 2 none 1 := ⟨im_X5_copyFrom, se_X5_copyFrom, co_X5_copyFrom, in_X5, by decide +kernel⟩
theorem md_X5_differencesTo : gMd yX5_differencesTo cX5_differencesTo 4 (some .int) 1 := ⟨im_X5_differencesTo, se_X5_differencesTo, co_X5_differencesTo, in_X5, by decide +kernel⟩
theorem md_X5_read : gMd yX5_read cX5_read 2 (some .int) 1 := ⟨im_X5_read, se_X5_read, co_X5_read, in_X5, by decide +kernel⟩
theorem md_X5_sum : gMd yX5_sum cX5_sum 6 (some .int) 0 := ⟨im_X5_sum, se_X5_sum, co_X5_sum, in_X5, by decide +kernel⟩
theorem md_X5_write : gMd yX5_write cX5_write 3 none 2 := ⟨im_X5_write, se_X5_write, co_X5_write, in_X5, by decide +kernel⟩
theorem md_X7_add : gMd yX7_add cX7_add 5 none 3 := ⟨im_X7_add, se_X7_add, co_X7_add, in_X7, by decide +kernel⟩
theorem md_X7_copyFrom : gMd yX7_copyFrom cX7_copyFrom 2 none 1 := ⟨im_X7_copyFrom, se_X7_copyFrom, co_X7_copyFrom, in_X7, by decide +kernel⟩
theorem md_X7_tell : gMd yX7_tell cX7_tell 3 (some .int) 2 := ⟨im_X7_tell, se_X7_tell, co_X7_tell, in_X7, by decide +kernel⟩
theorem md_X8_address : gMd yX8_address cX8_address 3 (some .int) 2 := ⟨im_X8_address, se_X8_address, co_X8_address, in_X8, by decide +kernel⟩
theorem md_X8_backIn : gMd yX8_backIn cX8_backIn 3 (some .int) 0 := ⟨im_X8_backIn, se_X8_backIn, co_X8_backIn, in_X8, by decide +kernel⟩
theorem md_X8_bank : gMd yX8_bank cX8_bank 3 (some .int) 2 := ⟨im_X8_bank, se_X8_bank, co_X8_bank, in_X8, by decide +kernel⟩
theorem md_X8_begin : gMd yX8_begin cX8_begin 3 (some .int) 1 := ⟨im_X8_begin, se_X8_begin, co_X8_begin, in_X8, by decide +kernel⟩
theorem md_X8_cell : gMd yX8_cell cX8_cell 3 (some .int) 2 := ⟨im_X8_cell, se_X8_cell, co_X8_cell, in_X8, by decide +kernel⟩
theorem md_X8_copyBank : gMd yX8_copyBank cX8_copyBank 4 (some .int) 2 := ⟨im_X8_copyBank, se_X8_copyBank, co_X8_copyBank, in_X8, by decide +kernel⟩
theorem md_X8_count : gMd yX8_count cX8_count 2 (some .int) 1 := ⟨im_X8_count, se_X8_count, co_X8_count, in_X8, by decide +kernel⟩
theorem md_X8_frame : gMd yX8_frame cX8_frame 3 (some .int) 2 := ⟨im_X8_frame, se_X8_frame, co_X8_frame, in_X8, by decide +kernel⟩
theorem md_X8_ifRun : gMd yX8_ifRun cX8_ifRun 4 (some .int) 2 := ⟨im_X8_ifRun, se_X8_ifRun, co_X8_ifRun, in_X8, by decide +kernel⟩
theorem md_X8_isBelow : gMs yX8_isBelow cX8_isBelow 2 (some .boolean) 2 := ⟨st_X8_isBelow, co_X8_isBelow, in_X8, by decide +kernel⟩
theorem md_X8_isStepsOfRun : gMs yX8_isStepsOfRun cX8_isStepsOfRun 1 (some .boolean) 1 := ⟨st_X8_isStepsOfRun, co_X8_isStepsOfRun, in_X8, by decide +kernel⟩
theorem md_X8_latest : gMd yX8_latest cX8_latest 3 (some .int) 2 := ⟨im_X8_latest, se_X8_latest, co_X8_latest, in_X8, by decide +kernel⟩
theorem md_X8_lock : gMd yX8_lock cX8_lock 3 (some .int) 2 := ⟨im_X8_lock, se_X8_lock, co_X8_lock, in_X8, by decide +kernel⟩
theorem md_X8_next : gMd yX8_next cX8_next 2 (some .int) 1 := ⟨im_X8_next, se_X8_next, co_X8_next, in_X8, by decide +kernel⟩
theorem md_X8_put : gMd yX8_put cX8_put 5 (some .int) 3 := ⟨im_X8_put, se_X8_put, co_X8_put, in_X8, by decide +kernel⟩
theorem md_X8_restore : gMd yX8_restore cX8_restore 1 (some .int) 0 := ⟨im_X8_restore, se_X8_restore, co_X8_restore, in_X8, by decide +kernel⟩
theorem md_X8_run : gMd yX8_run cX8_run 2 (some .int) 1 := ⟨im_X8_run, se_X8_run, co_X8_run, in_X8, by decide +kernel⟩
theorem md_X8_set : gMd yX8_set cX8_set 3 (some .int) 1 := ⟨im_X8_set, se_X8_set, co_X8_set, in_X8, by decide +kernel⟩
theorem md_X8_show : gMd yX8_show cX8_show 4 (some .int) 2 := ⟨im_X8_show, se_X8_show, co_X8_show, in_X8, by decide +kernel⟩
theorem md_X8_undo : gMd yX8_undo cX8_undo 1 (some .int) 0 := ⟨im_X8_undo, se_X8_undo, co_X8_undo, in_X8, by decide +kernel⟩
theorem md_X8_window : gMd yX8_window cX8_window 2 (some .int) 1 := ⟨im_X8_window, se_X8_window, co_X8_window, in_X8, by decide +kernel⟩
end
section
/-! ===== Row ===== -/
def gSum (f : Nat → Nat) : Nat → Nat
  | 0 => 0
  | n + 1 => gSum f n + f n
theorem gRep_arr {X : gX} {mem : gM} {H : Heap} {k a n : Nat} {f f' : Nat → Nat} (h : gRep X (gP mem k a f) H) (hsh : ∀ g, gE X k a g = gAr X n g) (he : ∀ j, j < n → f j = f' j) : gRep X (gP mem k a f') H := gRep_congr h (fun k' o' hv D cl hat => by
  by_cases hko : k' = k ∧ o' = a
  · obtain ⟨rfl, rfl⟩ := hko
    rw [gP_s, hsh] at hat ⊢
    exact gAr_congr he hat
  · rw [gP_n _ _ hko] at hat ⊢
    exact hat)
section GR
variable {p : Program} {l : Launch} {e : Env} {R : Room} {s : State} {m : MethodId} {args : Array Value} {below : List Frame} {meth : Method} {c : Code} {H : Heap} {locs : List Loc} {cells slots : Nat} {Q : State → Prop}
variable {cc : ByteArray} {pc : Nat} {ls : Array Slot} {rest : List Value} {X : gX} {own : String} {ret : Option FieldType} {nL : Nat} {mem : gM}
theorem g_min {index n : Nat} (C : gC X own cc ret nL p s m args meth c) (hz : ls.size = nL) (hlink : Cond.methodLink own index Lib.Math.min.name ∈ wA) (hf : cells ≤ R.cells ∧ slots ≤ R.slots) (hfr : 1 ≤ R.frames) (hlo : (rest.map fun v => v.category).sum + 13 ≤ R.locals) (hdg : decode cc pc = .ok (.invokestatic index, 3)) (kk : W p l e R s m args below meth c H locs cells slots Q (F0 m (pc + 3) ls (.int (nI n) :: rest))) : W p l e R s m args below meth c H locs cells slots Q (F0 m pc ls (.int (nI n) :: .int (nI n) :: rest)) := by
  obtain ⟨hx, hb, -, hml, hown, hA, -, -, hE⟩ := C
  refine va_mmin hx hb (hml.trans hz.symm) hown (hA _ hlink) (hA _ st_min) (hA _ in_J9) (hA _ co_min) hfr hlo hf.1 hf.2 hdg ?_
  rw [ite_self]
  exact kk
theorem g_acopy {index n k a k2 a2 : Nat} (C : gC X own cc ret nL p s m args meth c) (hz : ls.size = nL) (hlink : Cond.methodLink own index arraycopyName ∈ wA) (hR : gRep X mem H) (hS : va_S (gA X) s.heap H locs) (hv : (k, a) ∈ gIds) (hv2 : (k2, a2) ∈ gIds) (hsh : ∀ g, gE X k a g = gAr X n g) (hsh2 : ∀ g, gE X k2 a2 g = gAr X n g) (hn : n < 2 ^ 31) (hfr : 1 ≤ R.frames) (hlo : (rest.map fun v => v.category).sum + (nativeFrameWords "java/lang/System" "arraycopy" 5 + 11) ≤ R.locals) (hdg : decode cc pc = .ok (.invokestatic index, 3)) (kk : ∀ (H1 : Heap) (locs1 : List Loc), gRep X (gP mem k a (mem k2 a2)) H1 → va_S (gA X) s.heap H1 locs1 → W p l e R s m args below meth c H1 locs1 cells slots Q (F0 m (pc + 3) ls rest)) : W p l e R s m args below meth c H locs cells slots Q (F0 m pc ls (.int (nI n) :: .int (nI 0) :: .ref (gAd X k a) :: .int (nI 0) :: .ref (gAd X k2 a2) :: rest)) := by
  obtain ⟨hx, hb, -, hml, hown, hA, -, hI, hE⟩ := C
  obtain ⟨q1, hq⟩ := List.getElem?_of_mem (gIx (X := X) hv)
  obtain ⟨q0, hq2⟩ := List.getElem?_of_mem (gIx (X := X) hv2)
  have he : (gWs X mem)[q1]? = some (gAd X k a, .inl (gCl X 0, n, .inl (fun j => nI (mem k a j)))) := by rw [gWs_at hq, hsh]; rfl
  have he2 : (gWs X mem)[q0]? = some (gAd X k2 a2, .inl (gCl X 0, n, .inl (fun j => nI (mem k2 a2 j)))) := by rw [gWs_at hq2, hsh2]; rfl
  refine va_copyi hx hb (hml.trans hz.symm) hown (hA _ hlink) (hA _ nt_acopy) (hA _ st_acopy) (hA _ in_J10) hE.1 hR (hI mem) hS q0 q1 0 0 he2 he rfl rfl rfl (nI_pos (by decide)) (nI_pos (by decide)) (nI_pos hn) (by rw [nI_clamp hn, nI_clamp (by decide)]; omega) (by rw [nI_clamp hn, nI_clamp (by decide)]; omega) (fun i _ => rfl) hfr hlo hdg (fun H1 locs1 hP hD hS1 => kk H1 locs1 ?_ hS1)
  rw [nI_clamp hn, nI_clamp (by decide)] at hP
  have e9 : (.inl (gCl X 0, n, .inl (va_cpy (fun j => nI (mem k2 a2 j)) (fun j => nI (mem k a j)) 0 0 n)) : va_E) = gE X k a (fun j => if j < n then mem k2 a2 j else mem k a j) := by
    rw [hsh]
    show _ = (.inl (gCl X 0, n, .inl (fun j => nI (if j < n then mem k2 a2 j else mem k a j))) : va_E)
    have e8 : va_cpy (fun j => nI (mem k2 a2 j)) (fun j => nI (mem k a j)) 0 0 n = fun j => nI (if j < n then mem k2 a2 j else mem k a j) := by
      funext j
      unfold va_cpy
      by_cases h : j < n
      · rw [if_pos ⟨Nat.zero_le _, by omega⟩, if_pos h, Nat.zero_add, Nat.sub_zero]
      · rw [if_neg (by omega), if_neg h]
    rw [e8]
  rw [e9, gWs_set hq] at hP
  exact gRep_arr hP hsh (fun j hj => if_pos hj)
end GR
set_option maxRecDepth 100000 in
set_option maxHeartbeats 4000000 in
/-- Row.read, in range -/
theorem c_X5_read (l : Launch) {X : gX} (hI : gInj X) {mem : gM} {k o a n i : Nat} (hw : gRow k o a n) (hi : i < n) : gF l yX5_read cX5_read 2 (some .int) 0 0 X [.ref (gAd X k o), .int (nI i)] mem (some (.int (nI (mem k a i)))) mem := by
  refine gMt.of (own := RX5) (by decide) rfl hI (by simp [Value.category]) (Nat.le_of_ble_eq_true rfl) ?_
  intro p e s m args below meth c ls H locs C hnm hl hR hS
  have hn := hw.2.2.1
  refine g_iload_n C hl dX5_read_0 rfl ?_
  refine g_if_lt (tgt := 22) C dX5_read_1 (by decide) (by omega) ?_
  refine g_iload_n C hl dX5_read_4 rfl ?_
  refine g_aload_n C hl dX5_read_5 rfl ?_
  refine gt_X5 C hw hR fl_X5_13 dX5_read_6 ?_
  refine g_alen_w C hw hR dX5_read_9 ?_
  refine g_icmp_ge (tgt := 22) C dX5_read_10 (by decide) (by omega) (by omega) (fun z9 => absurd z9 (by omega)) (fun c10 => ?_)
  refine g_aload_n C hl dX5_read_13 rfl ?_
  refine gt_X5 C hw hR fl_X5_13 dX5_read_14 ?_
  refine g_iload_n C hl dX5_read_17 rfl ?_
  refine g_iald_w C hw hR (by omega) dX5_read_18 ?_
  refine g_goto (tgt := 23) C dX5_read_19 (by decide) ?_
  refine g_iret C hR hS dX5_read_23 ?_
  exact ⟨rfl, rfl⟩
set_option maxRecDepth 100000 in
set_option maxHeartbeats 4000000 in
/-- Row.write, in range -/
theorem c_X5_write (l : Launch) {X : gX} (hI : gInj X) {mem : gM} {k o a n i x : Nat} (hw : gRow k o a n) (hi : i < n) : gF l yX5_write cX5_write 3 none 0 0 X [.ref (gAd X k o), .int (nI i), .int (nI x)] mem none (gP mem k a (fU (mem k a) i x)) := by
  refine gMt.of (own := RX5) (by decide) rfl hI (by simp [Value.category]) (Nat.le_of_ble_eq_true rfl) ?_
  intro p e s m args below meth c ls H locs C hnm hl hR hS
  have hn := hw.2.2.1
  refine g_iload_n C hl dX5_write_0 rfl ?_
  refine g_if_lt (tgt := 20) C dX5_write_1 (by decide) (by omega) ?_
  refine g_iload_n C hl dX5_write_4 rfl ?_
  refine g_aload_n C hl dX5_write_5 rfl ?_
  refine gt_X5 C hw hR fl_X5_13 dX5_write_6 ?_
  refine g_alen_w C hw hR dX5_write_9 ?_
  refine g_icmp_ge (tgt := 20) C dX5_write_10 (by decide) (by omega) (by omega) (fun z9 => absurd z9 (by omega)) (fun c10 => ?_)
  refine g_aload_n C hl dX5_write_13 rfl ?_
  refine gt_X5 C hw hR fl_X5_13 dX5_write_14 ?_
  refine g_iload_n C hl dX5_write_17 rfl ?_
  refine g_iload_n C hl dX5_write_18 rfl ?_
  refine g_iast_w C hw hR hS (by omega) dX5_write_19 (fun H locs hR hS => ?_)
  refine g_vret C hR hS dX5_write_20 ?_
  exact ⟨rfl, rfl⟩
set_option maxRecDepth 100000 in
set_option maxHeartbeats 4000000 in
/-- Row.write, beyond -/
theorem c_X5_write_out (l : Launch) {X : gX} (hI : gInj X) {mem : gM} {k o a n i x : Nat} (hw : gRow k o a n) (hi : n ≤ i) (hi2 : i < 2 ^ 31) : gF l yX5_write cX5_write 3 none 0 0 X [.ref (gAd X k o), .int (nI i), .int (nI x)] mem none mem := by
  refine gMt.of (own := RX5) (by decide) rfl hI (by simp [Value.category]) (Nat.le_of_ble_eq_true rfl) ?_
  intro p e s m args below meth c ls H locs C hnm hl hR hS
  have hn := hw.2.2.1
  refine g_iload_n C hl dX5_write_0 rfl ?_
  refine g_if_lt (tgt := 20) C dX5_write_1 (by decide) (by omega) ?_
  refine g_iload_n C hl dX5_write_4 rfl ?_
  refine g_aload_n C hl dX5_write_5 rfl ?_
  refine gt_X5 C hw hR fl_X5_13 dX5_write_6 ?_
  refine g_alen_w C hw hR dX5_write_9 ?_
  refine g_icmp_ge (tgt := 20) C dX5_write_10 (by decide) (by omega) (by omega) (fun c10 => ?_) (fun z9 => absurd z9 (by omega))
  refine g_vret C hR hS dX5_write_20 ?_
  exact ⟨rfl, rfl⟩
set_option maxRecDepth 100000 in
set_option maxHeartbeats 4000000 in
/-- Row.sum -/
theorem c_X5_sum (l : Launch) {X : gX} (hI : gInj X) {mem : gM} {k o a n : Nat} (hw : gRow k o a n) : gF l yX5_sum cX5_sum 6 (some .int) 0 0 X [.ref (gAd X k o)] mem (some (.int (nI (gSum (mem k a) n)))) mem := by
  refine gMt.of (own := RX5) (by decide) rfl hI (by simp [Value.category]) (Nat.le_of_ble_eq_true rfl) ?_
  intro p e s m args below meth c ls H locs C hnm hl hR hS
  have hn := hw.2.2.1
  have loop : ∀ (d i : Nat), i + d = n → ∀ (ls : Array Slot) (w : Option Value), gL ls [some (.ref (gAd X k o)), some (.int (nI (gSum (mem k a) i))), some (.ref (gAd X k a)), some (.int (nI n)), some (.int (nI i)), w] → W p l e { frames := 0, cells := 0, slots := 0, locals := 0 } s m args below meth c H locs 0 0 (MQ below (gQ X (fun v m => v = some (.int (nI (gSum (mem k a) n))) ∧ m = mem)) args s 0 0 (gA X)) (F0 m 13 ls []) := by
    intro d
    induction d with
    | zero =>
      intro i hi ls w hl
      have hi2 : i = n := by omega
      subst hi2
      refine g_iload C hl dX5_sum_13 rfl ?_
      refine g_iload_n C hl dX5_sum_15 rfl ?_
      refine g_icmp_ge (tgt := 36) C dX5_sum_16 (by decide) (by omega) (by omega) (fun c16 => ?_) (fun z9 => absurd z9 (by omega))
      refine g_iload_n C hl dX5_sum_36 rfl ?_
      refine g_iret C hR hS dX5_sum_37 ?_
      exact ⟨rfl, rfl⟩
    | succ d ih =>
      intro i hi ls w hl
      refine g_iload C hl dX5_sum_13 rfl ?_
      refine g_iload_n C hl dX5_sum_15 rfl ?_
      refine g_icmp_ge (tgt := 36) C dX5_sum_16 (by decide) (by omega) (by omega) (fun z9 => absurd z9 (by omega)) (fun c16 => ?_)
      refine g_aload_n C hl dX5_sum_19 rfl ?_
      refine g_iload C hl dX5_sum_20 rfl ?_
      refine g_iald_w C hw hR (by omega) dX5_sum_22 ?_
      refine g_istore C hl dX5_sum_23 (Nat.le_of_ble_eq_true rfl) (fun ls hl => ?_)
      refine g_iload_n C hl dX5_sum_25 rfl ?_
      refine g_iload C hl dX5_sum_26 rfl ?_
      refine g_iadd C dX5_sum_28 ?_
      refine g_istore_n C hl dX5_sum_29 (Nat.le_of_ble_eq_true rfl) (fun ls hl => ?_)
      refine g_iinc (k := 1) C hl dX5_sum_30 rfl (by decide) (fun ls hl => ?_)
      refine g_goto (tgt := 13) C dX5_sum_33 (by decide) ?_
      exact ih (i + 1) (by omega) _ _ hl
  refine g_iconst 0 C dX5_sum_0 (by decide) ?_
  refine g_istore_n C hl dX5_sum_1 (Nat.le_of_ble_eq_true rfl) (fun ls hl => ?_)
  refine g_aload_n C hl dX5_sum_2 rfl ?_
  refine gt_X5 C hw hR fl_X5_13 dX5_sum_3 ?_
  refine g_astore_n C hl dX5_sum_6 (Nat.le_of_ble_eq_true rfl) (fun ls hl => ?_)
  refine g_aload_n C hl dX5_sum_7 rfl ?_
  refine g_alen_w C hw hR dX5_sum_8 ?_
  refine g_istore_n C hl dX5_sum_9 (Nat.le_of_ble_eq_true rfl) (fun ls hl => ?_)
  refine g_iconst 0 C dX5_sum_10 (by decide) ?_
  refine g_istore C hl dX5_sum_11 (Nat.le_of_ble_eq_true rfl) (fun ls hl => ?_)
  exact loop n 0 (by omega) _ _ hl
set_option maxRecDepth 100000 in
set_option maxHeartbeats 4000000 in
/-- Row.copyFrom, of one length -/
theorem c_X5_copyFrom (l : Launch) {X : gX} (hI : gInj X) {mem : gM} {k o a n k2 o2 a2 : Nat} (hw : gRow k o a n) (hw2 : gRow k2 o2 a2 n) : gF l yX5_copyFrom cX5_copyFrom 2 none 1 48 X [.ref (gAd X k o), .ref (gAd X k2 o2)] mem none (gP mem k a (mem k2 a2)) := by
  refine gMt.of (own := RX5) (by decide) rfl hI (by simp [Value.category]) (Nat.le_of_ble_eq_true rfl) ?_
  intro p e s m args below meth c ls H locs C hnm hl hR hS
  refine g_aload_n C hl dX5_copyFrom_0 rfl ?_
  refine gt_X5 C hw2 hR fl_X5_13 dX5_copyFrom_1 ?_
  refine g_iconst 0 C dX5_copyFrom_4 (by decide) ?_
  refine g_aload_n C hl dX5_copyFrom_5 rfl ?_
  refine gt_X5 C hw hR fl_X5_13 dX5_copyFrom_6 ?_
  refine g_iconst 0 C dX5_copyFrom_9 (by decide) ?_
  refine g_aload_n C hl dX5_copyFrom_10 rfl ?_
  refine gt_X5 C hw hR fl_X5_13 dX5_copyFrom_11 ?_
  refine g_alen_w C hw hR dX5_copyFrom_14 ?_
  refine g_aload_n C hl dX5_copyFrom_15 rfl ?_
  refine gt_X5 C hw2 hR fl_X5_13 dX5_copyFrom_16 ?_
  refine g_alen_w C hw2 hR dX5_copyFrom_19 ?_
  refine g_min C hl.1 ml_X5_23 ⟨Nat.le_refl _, Nat.le_refl _⟩ (Nat.le_of_ble_eq_true rfl) (Nat.le_of_ble_eq_true rfl) dX5_copyFrom_20 ?_
  refine g_acopy C hl.1 ml_X5_26 hR hS hw.2.1 hw2.2.1 (hw.2.2.2.2 X) (hw2.2.2.2.2 X) hw.2.2.1 (Nat.le_of_ble_eq_true rfl) (Nat.le_of_ble_eq_true rfl) dX5_copyFrom_23 (fun H locs hR hS => ?_)
  refine g_vret C hR hS dX5_copyFrom_26 ?_
  exact ⟨rfl, rfl⟩
end
section
section GR8
variable {p : Program} {l : Launch} {e : Env} {R : Room} {s : State} {m : MethodId} {args : Array Value} {below : List Frame} {meth : Method} {c : Code} {H : Heap} {locs : List Loc} {cells slots : Nat} {Q : State → Prop}
variable {cc : ByteArray} {pc : Nat} {ls : Array Slot} {rest : List Value} {X : gX} {own : String} {ret : Option FieldType} {nL : Nat} {mem : gM} {f z a o k t r : Nat → Nat}
end GR8
end
section
/-! ===== the machine as the reference has it: a row of 198 numbers, and what a step does to it ===== -/
def zIx (b c : Nat) : Nat := if c < 12 then 12 * b + c else 84 + c
def zBk (z : Nat → Nat) (a : Nat) : Nat := z (100 + a / 16)
def zAt (z : Nat → Nat) (a : Nat) : Nat := zIx (zBk z a) (a % 16)
def zSm (a b : Nat) : Nat := if a + b ≤ 999 then a + b else a + b - 1000
def zWhy (z : Nat → Nat) (kind n : Nat) : Nat := if (2 ≤ kind ∧ kind ≤ 5 ∧ 64 ≤ n) ∨ (kind = 6 ∧ (4 ≤ n / 10 ∨ 8 ≤ n % 10)) ∨ (kind = 7 ∧ 8 ≤ n / 10) then 3 else if kind = 7 ∧ z 116 = 8 then 4 else if kind = 8 ∧ z 116 = 0 then 5 else 0
def zWr1 (z : Nat → Nat) (b : Nat) : Nat → Nat := fU z 181 (z 181 + 1)
def zWr2 (z : Nat → Nat) (b : Nat) : Nat → Nat := fU (zWr1 z b) (190 + b) (zWr1 z b (190 + b) + 1)
def zWr3 (z : Nat → Nat) (b : Nat) : Nat → Nat := fU (zWr2 z b) 115 (if zWr2 z b 112 = 1 then 2 else 0)
def zWs1 (z : Nat → Nat) (b a : Nat) : Nat → Nat := fU z (zAt z a) (z 113)
def zWs2 (z : Nat → Nat) (b a : Nat) : Nat → Nat := fU (zWs1 z b a) 180 (zWs1 z b a 180 + 1)
def zWs3 (z : Nat → Nat) (b a : Nat) : Nat → Nat := fU (zWs2 z b a) (182 + b) (zWs2 z b a (182 + b) + 1)
def zWr (z : Nat → Nat) (a : Nat) : Nat → Nat := if z (104 + zBk z a) = 1 then zWr3 z (zBk z a) else zWs3 z (zBk z a) a
def zCl1 (z : Nat → Nat) (w : Nat) : Nat → Nat := fU z (117 + 3 * z 116) w
def zCl2 (z : Nat → Nat) (w : Nat) : Nat → Nat := fU (zCl1 z w) (117 + 3 * z 116 + 1) (zCl1 z w (100 + w))
def zCl3 (z : Nat → Nat) (w : Nat) : Nat → Nat := fU (zCl2 z w) (117 + 3 * z 116 + 2) (zCl2 z w 114)
def zCl4 (z : Nat → Nat) (w : Nat) : Nat → Nat := fU (zCl3 z w) 116 (zCl3 z w 116 + 1)
def zCl5 (z : Nat → Nat) (w : Nat) : Nat → Nat := fU (zCl4 z w) 179 (zCl4 z w 179 + 1)
def zCl (z : Nat → Nat) (w n : Nat) : Nat → Nat := fU (fU (zCl5 z w) (100 + w) (n / 10)) 114 (16 * w + n % 10)
def zBc1 (z : Nat → Nat) : Nat → Nat := fU z 116 (z 116 - 1)
def zBc2 (z : Nat → Nat) : Nat → Nat := fU (zBc1 z) (100 + z (117 + 3 * (z 116 - 1))) (zBc1 z (117 + 3 * (z 116 - 1) + 1))
def zBc (z : Nat → Nat) : Nat → Nat := fU (zBc2 z) 114 (zBc2 z (117 + 3 * (z 116 - 1) + 2))
def zOrd (z : Nat → Nat) (kind n w : Nat) : Nat → Nat := match kind with
  | 0 => fU z 115 1
  | 1 => fU z 113 n
  | 2 => fU z 113 (zSm (z 113) (z (zAt z n)))
  | 3 => zWr z n
  | 4 => fU z 114 n
  | 5 => fU z 114 (if z 113 = 0 then n else z 114)
  | 6 => fU z (100 + n / 10) (n % 10)
  | 7 => zCl z w n
  | 8 => zBc z
  | _ => fU z 113 (zSm (z 113) n)
def zKp0 (z : Nat → Nat) : Nat → Nat := if z 141 < 12 then fU z 141 (z 141 + 1) else z
/-- the rows of the latest steps, those beyond place k moved on -/
def zSh (z : Nat → Nat) (k : Nat) : Nat → Nat := fun j => if 142 + k ≤ j ∧ j < 142 + 3 * z 141 then z (j - 3) else z j
def zKp1 (z : Nat → Nat) (a : Nat) : Nat → Nat := fU (zSh (zKp0 z) 3) 142 a
def zKp2 (z : Nat → Nat) (a : Nat) : Nat → Nat := fU (zKp1 z a) 143 (zBk (zKp1 z a) a)
def zKp (z : Nat → Nat) (a num : Nat) : Nat → Nat := fU (zKp2 z a) 144 num
def zSt1 (z : Nat → Nat) : Nat → Nat := zKp z (z 114) (z (zAt z (z 114)))
def zSt2 (z : Nat → Nat) : Nat → Nat := fU (zSt1 z) 178 (zSt1 z 178 + 1)
def zSt3 (z : Nat → Nat) : Nat → Nat := fU (zSt2 z) 114 (zSt2 z 114 + 1)
def zSt4 (z : Nat → Nat) : Nat → Nat := fU (zSt3 z) 115 (zWhy (zSt3 z) (z (zAt z (z 114)) / 100) (z (zAt z (z 114)) % 100))
def zSt5 (z : Nat → Nat) : Nat → Nat := if zSt4 z 115 = 0 then zOrd (zSt4 z) (z (zAt z (z 114)) / 100) (z (zAt z (z 114)) % 100) (z 114 / 16) else zSt4 z
def zStep (z : Nat → Nat) : Nat → Nat := if zSt5 z 115 = 0 ∧ zSt5 z 114 = 64 then fU (zSt5 z) 115 6 else zSt5 z
/-- what always holds of the row -/
def zI (z : Nat → Nat) : Prop := (∀ i, i < 100 → z i ≤ 999) ∧ (∀ w, w < 4 → z (100 + w) < 8) ∧ (∀ b, b < 8 → z (104 + b) < 2) ∧ z 112 < 2 ∧ z 113 ≤ 999 ∧ z 114 ≤ 64 ∧ z 115 ≤ 6 ∧ z 116 ≤ 8 ∧ (∀ q, q < 8 → z (117 + 3 * q) < 4 ∧ z (118 + 3 * q) < 8 ∧ z (119 + 3 * q) ≤ 64) ∧ z 141 ≤ 12
theorem zI.bk {z : Nat → Nat} (h : zI z) {a : Nat} (ha : a < 64) : zBk z a < 8 := h.2.1 (a / 16) (by omega)
theorem zIx_lt {b c : Nat} (hb : b < 8) (hc : c < 16) : zIx b c < 100 := by
  unfold zIx
  by_cases h : c < 12
  · rw [if_pos h]; omega
  · rw [if_neg h]; omega
theorem zI.upd9 {z : Nat → Nat} {i x : Nat} (h : zI z) (h1 : i < 100 → x ≤ 999) (h2 : 100 ≤ i → i < 104 → x < 8) (h3 : 104 ≤ i → i < 112 → x < 2) (h4 : i = 112 → x < 2) (h5 : i = 113 → x ≤ 999) (h6 : i = 114 → x ≤ 64) (h7 : i = 115 → x ≤ 6) (h8 : i = 116 → x ≤ 8) (h9 : ∀ q, q < 8 → (i = 117 + 3 * q → x < 4) ∧ (i = 118 + 3 * q → x < 8) ∧ (i = 119 + 3 * q → x ≤ 64)) (h10 : i = 141 → x ≤ 12) : zI (fU z i x) := by
  obtain ⟨g1, g2, g3, g4, g5, g6, g7, g8, g9, g10⟩ := h
  have key : ∀ j : Nat, (j = i → fU z i x j = x) ∧ (¬ j = i → fU z i x j = z j) := fun j => ⟨fun e => by rw [e]; exact fU_s z i x, fun e => fU_n z x e⟩
  have one : ∀ (j b : Nat), (j = i → x < b) → z j < b → fU z i x j < b := by
    intro j b ha hb
    by_cases e : j = i
    · rw [(key j).1 e]; exact ha e
    · rw [(key j).2 e]; exact hb
  have two : ∀ (j b : Nat), (j = i → x ≤ b) → z j ≤ b → fU z i x j ≤ b := by
    intro j b ha hb
    by_cases e : j = i
    · rw [(key j).1 e]; exact ha e
    · rw [(key j).2 e]; exact hb
  refine ⟨fun j hj => two j _ (fun e => h1 (by omega)) (g1 j hj), fun w hw => one _ _ (fun e => h2 (by omega) (by omega)) (g2 w hw), fun b hb => one _ _ (fun e => h3 (by omega) (by omega)) (g3 b hb), one _ _ (fun e => h4 e.symm) g4, two _ _ (fun e => h5 e.symm) g5, two _ _ (fun e => h6 e.symm) g6, two _ _ (fun e => h7 e.symm) g7, two _ _ (fun e => h8 e.symm) g8, fun q hq => ⟨one _ _ (fun e => (h9 q hq).1 e.symm) (g9 q hq).1, one _ _ (fun e => (h9 q hq).2.1 e.symm) (g9 q hq).2.1, two _ _ (fun e => (h9 q hq).2.2 e.symm) (g9 q hq).2.2⟩, two _ _ (fun e => h10 e.symm) g10⟩
theorem zI.at {z : Nat → Nat} (h : zI z) {a : Nat} (ha : a < 64) : zAt z a < 100 := zIx_lt (h.bk ha) (by omega)
end
section
/-! ===== truth values; the reference's tests ===== -/
def gb (P : Prop) [Decidable P] : Nat := if P then 1 else 0
theorem gb_t {P : Prop} [Decidable P] (h : P) : gb P = 1 := if_pos h
theorem gb_f {P : Prop} [Decidable P] (h : ¬ P) : gb P = 0 := if_neg h
theorem gb_lt (P : Prop) [Decidable P] : gb P < 2 := by
  unfold gb
  by_cases h : P
  · rw [if_pos h]; decide
  · rw [if_neg h]; decide
theorem gb_0 {P : Prop} [Decidable P] : gb P = 0 ↔ ¬ P := by
  unfold gb
  by_cases h : P
  · rw [if_pos h]; simp [h]
  · rw [if_neg h]; simp [h]
/-- an int that lies between two bounds -/
def gIw (v : Int32) (lo hi : Nat) : Bool := decide ((lo : Int) ≤ v.toInt) && decide (v.toInt ≤ (hi : Int))
theorem gIw_iff {v : Int32} {lo hi : Nat} : gIw v lo hi = true ↔ (lo : Int) ≤ v.toInt ∧ v.toInt ≤ (hi : Int) := by
  unfold gIw
  rw [Bool.and_eq_true, decide_eq_true_eq, decide_eq_true_eq]
theorem gIw_n {a lo hi : Nat} (ha : a < 2 ^ 31) : gIw (nI a) lo hi = true ↔ lo ≤ a ∧ a ≤ hi := by
  rw [gIw_iff, nI_toInt ha]
  omega
theorem gIw_t {v : Int32} {lo hi : Nat} (h : gIw v lo hi = true) (hh : hi < 2 ^ 31) : ∃ a : Nat, v = nI a ∧ lo ≤ a ∧ a ≤ hi := by
  rw [gIw_iff] at h
  have h0 : ¬ v < 0 := by
    rw [Int32.lt_iff_toInt_lt]
    have : (0 : Int32).toInt = 0 := rfl
    omega
  obtain ⟨j, hj, rfl⟩ := nI_of h0
  rw [nI_toInt hj] at h
  exact ⟨j, rfl, by omega, by omega⟩
theorem gIw_lt {v : Int32} {a : Nat} (ha : a < 2 ^ 31) : v < nI a ↔ v.toInt < (a : Int) := by
  rw [Int32.lt_iff_toInt_lt, nI_toInt ha]
theorem gIw_gt {v : Int32} {a : Nat} (ha : a < 2 ^ 31) : nI a < v ↔ (a : Int) < v.toInt := by
  rw [Int32.lt_iff_toInt_lt, nI_toInt ha]
section GT
variable {p : Program} {l : Launch} {e : Env} {R : Room} {s : State} {m : MethodId} {args : Array Value} {below : List Frame} {meth : Method} {c : Code} {H : Heap} {locs : List Loc} {cells slots : Nat} {Q : State → Prop}
variable {cc : ByteArray} {pc : Nat} {ls : Array Slot} {rest : List Value} {X : gX} {own : String} {ret : Option FieldType} {nL : Nat} {mem : gM}
theorem g_ifb_eq {P : Prop} [Decidable P] {tgt : Nat} {off : Int} (C : gC X own cc ret nL p s m args meth c) (hdg : decode cc pc = .ok (.ifCond .eq off, 3)) (ht : (pc : Int) + off = (tgt : Int)) (kt : ¬ P → W p l e R s m args below meth c H locs cells slots Q (F0 m tgt ls rest)) (kf : P → W p l e R s m args below meth c H locs cells slots Q (F0 m (pc + 3) ls rest)) : W p l e R s m args below meth c H locs cells slots Q (F0 m pc ls (.int (nI (gb P)) :: rest)) := g_if_eq C hdg ht (Nat.lt_trans (gb_lt P) (by decide)) (fun h => kt (gb_0.mp h)) (fun h => kf (Decidable.byContradiction (fun z => h (gb_0.mpr z))))
theorem g_ifw_eq {a lo hi tgt : Nat} {off : Int} (C : gC X own cc ret nL p s m args meth c) (hdg : decode cc pc = .ok (.ifCond .eq off, 3)) (ht : (pc : Int) + off = (tgt : Int)) (ha : a < 2 ^ 31) (kt : ¬ (lo ≤ a ∧ a ≤ hi) → W p l e R s m args below meth c H locs cells slots Q (F0 m tgt ls rest)) (kf : lo ≤ a ∧ a ≤ hi → W p l e R s m args below meth c H locs cells slots Q (F0 m (pc + 3) ls rest)) : W p l e R s m args below meth c H locs cells slots Q (F0 m pc ls (.int (nI (gb (gIw (nI a) lo hi = true))) :: rest)) := g_ifb_eq C hdg ht (fun h => kt (fun z => h ((gIw_n ha).mpr z))) (fun h => kf ((gIw_n ha).mp h))
theorem g_ifv_eq {v : Int32} {lo hi tgt : Nat} {off : Int} (C : gC X own cc ret nL p s m args meth c) (hdg : decode cc pc = .ok (.ifCond .eq off, 3)) (ht : (pc : Int) + off = (tgt : Int)) (hh : hi < 2 ^ 31) (kt : gIw v lo hi = false → W p l e R s m args below meth c H locs cells slots Q (F0 m tgt ls rest)) (kf : ∀ a : Nat, v = nI a → lo ≤ a → a ≤ hi → W p l e R s m args below meth c H locs cells slots Q (F0 m (pc + 3) ls rest)) : W p l e R s m args below meth c H locs cells slots Q (F0 m pc ls (.int (nI (gb (gIw v lo hi = true))) :: rest)) := g_ifb_eq C hdg ht (fun h => kt (by simpa using h)) (fun h => by obtain ⟨a, h1, h2, h3⟩ := gIw_t h hh; exact kf a h1 h2 h3)
theorem g_ifb_ne {P : Prop} [Decidable P] {tgt : Nat} {off : Int} (C : gC X own cc ret nL p s m args meth c) (hdg : decode cc pc = .ok (.ifCond .ne off, 3)) (ht : (pc : Int) + off = (tgt : Int)) (kt : P → W p l e R s m args below meth c H locs cells slots Q (F0 m tgt ls rest)) (kf : ¬ P → W p l e R s m args below meth c H locs cells slots Q (F0 m (pc + 3) ls rest)) : W p l e R s m args below meth c H locs cells slots Q (F0 m pc ls (.int (nI (gb P)) :: rest)) := g_if_ne C hdg ht (Nat.lt_trans (gb_lt P) (by decide)) (fun h => kt (Decidable.byContradiction (fun z => h (gb_0.mpr z)))) (fun h => kf (gb_0.mp h))
theorem g_ifw_ne {a lo hi tgt : Nat} {off : Int} (C : gC X own cc ret nL p s m args meth c) (hdg : decode cc pc = .ok (.ifCond .ne off, 3)) (ht : (pc : Int) + off = (tgt : Int)) (ha : a < 2 ^ 31) (kt : lo ≤ a ∧ a ≤ hi → W p l e R s m args below meth c H locs cells slots Q (F0 m tgt ls rest)) (kf : ¬ (lo ≤ a ∧ a ≤ hi) → W p l e R s m args below meth c H locs cells slots Q (F0 m (pc + 3) ls rest)) : W p l e R s m args below meth c H locs cells slots Q (F0 m pc ls (.int (nI (gb (gIw (nI a) lo hi = true))) :: rest)) := g_ifb_ne C hdg ht (fun h => kt ((gIw_n ha).mp h)) (fun h => kf (fun z => h ((gIw_n ha).mpr z)))
theorem g_ifv_ne {v : Int32} {lo hi tgt : Nat} {off : Int} (C : gC X own cc ret nL p s m args meth c) (hdg : decode cc pc = .ok (.ifCond .ne off, 3)) (ht : (pc : Int) + off = (tgt : Int)) (hh : hi < 2 ^ 31) (kt : ∀ a : Nat, v = nI a → lo ≤ a → a ≤ hi → W p l e R s m args below meth c H locs cells slots Q (F0 m tgt ls rest)) (kf : gIw v lo hi = false → W p l e R s m args below meth c H locs cells slots Q (F0 m (pc + 3) ls rest)) : W p l e R s m args below meth c H locs cells slots Q (F0 m pc ls (.int (nI (gb (gIw v lo hi = true))) :: rest)) := g_ifb_ne C hdg ht (fun h => by obtain ⟨a, h1, h2, h3⟩ := gIw_t h hh; exact kt a h1 h2 h3) (fun h => kf (by simpa using h))
end GT
end
section
theorem zWhy_0 {z : Nat → Nat} {kind n : Nat} (h : zWhy z kind n = 0) : ¬ ((2 ≤ kind ∧ kind ≤ 5 ∧ 64 ≤ n) ∨ (kind = 6 ∧ (4 ≤ n / 10 ∨ 8 ≤ n % 10)) ∨ (kind = 7 ∧ 8 ≤ n / 10)) ∧ ¬ (kind = 7 ∧ z 116 = 8) ∧ ¬ (kind = 8 ∧ z 116 = 0) := by
  unfold zWhy at h
  by_cases h1 : (2 ≤ kind ∧ kind ≤ 5 ∧ 64 ≤ n) ∨ (kind = 6 ∧ (4 ≤ n / 10 ∨ 8 ≤ n % 10)) ∨ (kind = 7 ∧ 8 ≤ n / 10)
  · rw [if_pos h1] at h; omega
  · rw [if_neg h1] at h
    by_cases h2 : kind = 7 ∧ z 116 = 8
    · rw [if_pos h2] at h; omega
    · rw [if_neg h2] at h
      by_cases h3 : kind = 8 ∧ z 116 = 0
      · rw [if_pos h3] at h; omega
      · exact ⟨h1, h2, h3⟩
theorem zSh_step {z : Nat → Nat} {i : Nat} (h : 2 ≤ i) (hi : i + 1 < 3 * z 141) : zSh z (i + 1) = fU (zSh z (i + 1 + 1)) (142 + (i + 1)) (zSh z (i + 1 + 1) (142 + (i + 1) - 3)) := by
  funext j
  unfold zSh fU
  by_cases e : j = 142 + (i + 1)
  · subst e
    rw [if_pos rfl, if_pos (by omega), if_neg (by omega)]
  · rw [if_neg e]
    dsimp only
    by_cases g : 142 + (i + 1) ≤ j ∧ j < 142 + 3 * z 141
    · rw [if_pos g, if_pos (by omega)]
    · rw [if_neg g, if_neg (by omega)]
theorem zSh_0 (z : Nat → Nat) : zSh z (3 * z 141) = z := by
  funext j
  unfold zSh
  rw [if_neg (by omega)]
theorem zKp0_141 {z : Nat → Nat} (h : z 141 ≤ 12) : 1 ≤ zKp0 z 141 ∧ zKp0 z 141 ≤ 12 := by
  unfold zKp0
  by_cases e : z 141 < 12
  · rw [if_pos e, fU_s]; omega
  · rw [if_neg e]; omega
end
section
/-! ===== what a step keeps ===== -/
theorem zI_congr {z y : Nat → Nat} (h : zI z) (e : ∀ j, j < 142 → y j = z j) : zI y := by
  obtain ⟨g1, g2, g3, g4, g5, g6, g7, g8, g9, g10⟩ := h
  refine ⟨fun i hi => by rw [e i (by omega)]; exact g1 i hi, fun i hi => by rw [e _ (by omega)]; exact g2 i hi, fun i hi => by rw [e _ (by omega)]; exact g3 i hi, by rw [e _ (by omega)]; exact g4, by rw [e _ (by omega)]; exact g5, by rw [e _ (by omega)]; exact g6, by rw [e _ (by omega)]; exact g7, by rw [e _ (by omega)]; exact g8, fun q hq => by rw [e _ (by omega), e _ (by omega), e _ (by omega)]; exact g9 q hq, by rw [e _ (by omega)]; exact g10⟩
theorem zSm_le {x y : Nat} (hx : x ≤ 999) (hy : y ≤ 999) : zSm x y ≤ 999 := by
  unfold zSm
  by_cases h : x + y ≤ 999
  · rw [if_pos h]; exact h
  · rw [if_neg h]; omega
theorem zI_wr {z : Nat → Nat} {i : Nat} (hz : zI z) (hi : i < 64) : zI (zWr z i) := by
  have hb := hz.bk hi
  have hat := hz.at hi
  have h113 := hz.2.2.2.2.1
  unfold zWr
  by_cases c : z (104 + zBk z i) = 1
  · rw [if_pos c]
    have h1 : zI (zWr1 z (zBk z i)) := (hz).upd9 (by omega) (by omega) (by omega) (by omega) (by omega) (by omega) (by omega) (by omega) (fun q hq => by omega) (by omega)
    have h2 : zI (zWr2 z (zBk z i)) := (h1).upd9 (by omega) (by omega) (by omega) (by omega) (by omega) (by omega) (by omega) (by omega) (fun q hq => by omega) (by omega)
    have hx : (if zWr2 z (zBk z i) 112 = 1 then 2 else 0) ≤ 2 := by split <;> omega
    unfold zWr3
    generalize (if zWr2 z (zBk z i) 112 = 1 then 2 else 0) = x at hx
    exact (h2).upd9 (by omega) (by omega) (by omega) (by omega) (by omega) (by omega) (by omega) (by omega) (fun q hq => by omega) (by omega)
  · rw [if_neg c]
    have h1 : zI (zWs1 z (zBk z i) i) := (hz).upd9 (by omega) (by omega) (by omega) (by omega) (by omega) (by omega) (by omega) (by omega) (fun q hq => by omega) (by omega)
    have h2 : zI (zWs2 z (zBk z i) i) := (h1).upd9 (by omega) (by omega) (by omega) (by omega) (by omega) (by omega) (by omega) (by omega) (fun q hq => by omega) (by omega)
    exact (h2).upd9 (by omega) (by omega) (by omega) (by omega) (by omega) (by omega) (by omega) (by omega) (fun q hq => by omega) (by omega)
theorem zI_cl {z : Nat → Nat} {w n : Nat} (hz : zI z) (hw : w < 4) (hn : n / 10 < 8) (h8 : z 116 < 8) : zI (zCl z w n) := by
  have h1 : zI (zCl1 z w) := (hz).upd9 (by omega) (by omega) (by omega) (by omega) (by omega) (by omega) (by omega) (by omega) (fun q hq => by omega) (by omega)
  have v1 : zCl1 z w (100 + w) < 8 := h1.2.1 w hw
  have h2 : zI (zCl2 z w) := (h1).upd9 (by omega) (by omega) (by omega) (by omega) (by omega) (by omega) (by omega) (by omega) (fun q hq => by omega) (by omega)
  have v2 : zCl2 z w 114 ≤ 64 := h2.2.2.2.2.2.1
  have h3 : zI (zCl3 z w) := (h2).upd9 (by omega) (by omega) (by omega) (by omega) (by omega) (by omega) (by omega) (by omega) (fun q hq => by omega) (by omega)
  have v3 : zCl3 z w 116 = z 116 := by
    unfold zCl3 zCl2 zCl1
    rw [fU_n _ _ (by omega), fU_n _ _ (by omega), fU_n _ _ (by omega)]
  have h4 : zI (zCl4 z w) := (h3).upd9 (by omega) (by omega) (by omega) (by omega) (by omega) (by omega) (by omega) (by omega) (fun q hq => by omega) (by omega)
  have h5 : zI (zCl5 z w) := (h4).upd9 (by omega) (by omega) (by omega) (by omega) (by omega) (by omega) (by omega) (by omega) (fun q hq => by omega) (by omega)
  have h6 : zI (fU (zCl5 z w) (100 + w) (n / 10)) := (h5).upd9 (by omega) (by omega) (by omega) (by omega) (by omega) (by omega) (by omega) (by omega) (fun q hq => by omega) (by omega)
  exact (h6).upd9 (by omega) (by omega) (by omega) (by omega) (by omega) (by omega) (by omega) (by omega) (fun q hq => by omega) (by omega)
theorem zI_bc {z : Nat → Nat} (hz : zI z) (h8 : 0 < z 116) : zI (zBc z) := by
  have h116 := hz.2.2.2.2.2.2.2.1
  obtain ⟨q1, q2, q3⟩ := hz.2.2.2.2.2.2.2.2.1 (z 116 - 1) (by omega)
  have h1 : zI (zBc1 z) := (hz).upd9 (by omega) (by omega) (by omega) (by omega) (by omega) (by omega) (by omega) (by omega) (fun q hq => by omega) (by omega)
  obtain ⟨r1, r2, r3⟩ := h1.2.2.2.2.2.2.2.2.1 (z 116 - 1) (by omega)
  have e2 : 118 + 3 * (z 116 - 1) = 117 + 3 * (z 116 - 1) + 1 := by omega
  rw [e2] at r2
  have h2 : zI (zBc2 z) := (h1).upd9 (by omega) (by omega) (by omega) (by omega) (by omega) (by omega) (by omega) (by omega) (fun q hq => by omega) (by omega)
  obtain ⟨s1, s2, s3⟩ := h2.2.2.2.2.2.2.2.2.1 (z 116 - 1) (by omega)
  have e3 : 119 + 3 * (z 116 - 1) = 117 + 3 * (z 116 - 1) + 2 := by omega
  rw [e3] at s3
  exact (h2).upd9 (by omega) (by omega) (by omega) (by omega) (by omega) (by omega) (by omega) (by omega) (fun q hq => by omega) (by omega)
theorem zI_ord {z : Nat → Nat} {kind n w : Nat} (hz : zI z) (hk : kind < 10) (hn : n < 100) (hw : w < 4) (hy : zWhy z kind n = 0) : zI (zOrd z kind n w) := by
  have h113 := hz.2.2.2.2.1
  have h114 := hz.2.2.2.2.2.1
  have h116 := hz.2.2.2.2.2.2.2.1
  obtain ⟨y1, y2, y3⟩ := zWhy_0 hy
  match kind, hk with
  | 0, _ => exact (hz).upd9 (by omega) (by omega) (by omega) (by omega) (by omega) (by omega) (by omega) (by omega) (fun q hq => by omega) (by omega)
  | 1, _ => exact (hz).upd9 (by omega) (by omega) (by omega) (by omega) (by omega) (by omega) (by omega) (by omega) (fun q hq => by omega) (by omega)
  | 2, _ =>
    have hx := zSm_le h113 (hz.1 _ (hz.at (show n < 64 by omega)))
    show zI (fU z 113 (zSm (z 113) (z (zAt z n))))
    exact (hz).upd9 (by omega) (by omega) (by omega) (by omega) (by omega) (by omega) (by omega) (by omega) (fun q hq => by omega) (by omega)
  | 3, _ => exact zI_wr hz (by omega)
  | 4, _ => exact (hz).upd9 (by omega) (by omega) (by omega) (by omega) (by omega) (by omega) (by omega) (by omega) (fun q hq => by omega) (by omega)
  | 5, _ =>
    have hx : (if z 113 = 0 then n else z 114) ≤ 64 := by split <;> omega
    show zI (fU z 114 (if z 113 = 0 then n else z 114))
    generalize (if z 113 = 0 then n else z 114) = x at hx
    exact (hz).upd9 (by omega) (by omega) (by omega) (by omega) (by omega) (by omega) (by omega) (by omega) (fun q hq => by omega) (by omega)
  | 6, _ => exact (hz).upd9 (by omega) (by omega) (by omega) (by omega) (by omega) (by omega) (by omega) (by omega) (fun q hq => by omega) (by omega)
  | 7, _ => exact zI_cl hz hw (by omega) (by omega)
  | 8, _ => exact zI_bc hz (by omega)
  | 9, _ =>
    have hx := zSm_le h113 (show n ≤ 999 by omega)
    show zI (fU z 113 (zSm (z 113) n))
    exact (hz).upd9 (by omega) (by omega) (by omega) (by omega) (by omega) (by omega) (by omega) (by omega) (fun q hq => by omega) (by omega)
  | k + 10, h => exact absurd h (by omega)
theorem zKp0_lo {z : Nat → Nat} {j : Nat} (h : j < 141) : zKp0 z j = z j := by
  unfold zKp0
  by_cases e : z 141 < 12
  · rw [if_pos e, fU_n _ _ (by omega)]
  · rw [if_neg e]
theorem zKp_lo {z : Nat → Nat} {ad num j : Nat} (h : j < 142) : zKp z ad num j = zKp0 z j := by
  unfold zKp zKp2 zKp1 zSh
  rw [fU_n _ _ (by omega), fU_n _ _ (by omega), fU_n _ _ (by omega)]
  rw [if_neg (by omega)]
theorem zI_kp {z : Nat → Nat} {ad num : Nat} (hz : zI z) : zI (zKp z ad num) := by
  have h0 : zI (zKp0 z) := by
    unfold zKp0
    by_cases e : z 141 < 12
    · rw [if_pos e]
      exact (hz).upd9 (by omega) (by omega) (by omega) (by omega) (by omega) (by omega) (by omega) (by omega) (fun q hq => by omega) (by omega)
    · rw [if_neg e]
      exact hz
  exact zI_congr h0 (fun j hj => zKp_lo hj)
theorem zWhy_le (z : Nat → Nat) (kind n : Nat) : zWhy z kind n ≤ 5 := by
  unfold zWhy
  split
  · decide
  · split
    · decide
    · split <;> decide
theorem zWhy_eq {z y : Nat → Nat} (h : y 116 = z 116) (kind n : Nat) : zWhy y kind n = zWhy z kind n := by
  unfold zWhy
  rw [h]
theorem zI_st1 {z : Nat → Nat} (hz : zI z) : zI (zSt1 z) := zI_kp hz
theorem zSt1_lo {z : Nat → Nat} {j : Nat} (h : j < 141) : zSt1 z j = z j := by
  unfold zSt1
  rw [zKp_lo (by omega), zKp0_lo h]
theorem zI_st2 {z : Nat → Nat} (hz : zI z) : zI (zSt2 z) := ((zI_st1 hz)).upd9 (by omega) (by omega) (by omega) (by omega) (by omega) (by omega) (by omega) (by omega) (fun q hq => by omega) (by omega)
theorem zSt2_lo {z : Nat → Nat} {j : Nat} (h : j < 141) : zSt2 z j = z j := by
  unfold zSt2
  rw [fU_n _ _ (by omega), zSt1_lo h]
theorem zI_st3 {z : Nat → Nat} (hz : zI z) (had : z 114 < 64) : zI (zSt3 z) := by
  have e := zSt2_lo (z := z) (j := 114) (by decide)
  have h2 := zI_st2 hz
  exact (h2).upd9 (by omega) (by omega) (by omega) (by omega) (by omega) (by omega) (by omega) (by omega) (fun q hq => by omega) (by omega)
theorem zI_st4 {z : Nat → Nat} (hz : zI z) (had : z 114 < 64) : zI (zSt4 z) := by
  have h3 := zI_st3 hz had
  have hy := zWhy_le (zSt3 z) (z (zAt z (z 114)) / 100) (z (zAt z (z 114)) % 100)
  exact (h3).upd9 (by omega) (by omega) (by omega) (by omega) (by omega) (by omega) (by omega) (by omega) (fun q hq => by omega) (by omega)
theorem zSt4_115 (z : Nat → Nat) : zSt4 z 115 = zWhy (zSt3 z) (z (zAt z (z 114)) / 100) (z (zAt z (z 114)) % 100) := by
  unfold zSt4
  rw [fU_s]
theorem zSt4_why {z : Nat → Nat} (h : zSt4 z 115 = 0) : zWhy (zSt4 z) (z (zAt z (z 114)) / 100) (z (zAt z (z 114)) % 100) = 0 := by
  rw [zSt4_115] at h
  rw [zWhy_eq (z := zSt3 z) (by unfold zSt4; rw [fU_n _ _ (by omega)]), h]
theorem zI_num {z : Nat → Nat} (hz : zI z) (had : z 114 < 64) : z (zAt z (z 114)) ≤ 999 := hz.1 _ (hz.at had)
theorem zI_st5 {z : Nat → Nat} (hz : zI z) (had : z 114 < 64) : zI (zSt5 z) := by
  have h4 := zI_st4 hz had
  have hn := zI_num hz had
  unfold zSt5
  by_cases c : zSt4 z 115 = 0
  · rw [if_pos c]
    exact zI_ord h4 (by omega) (by omega) (by omega) (zSt4_why c)
  · rw [if_neg c]
    exact h4
theorem zI_step {z : Nat → Nat} (hz : zI z) (had : z 114 < 64) : zI (zStep z) := by
  have h5 := zI_st5 hz had
  unfold zStep
  by_cases c : zSt5 z 115 = 0 ∧ zSt5 z 114 = 64
  · rw [if_pos c]
    exact (h5).upd9 (by omega) (by omega) (by omega) (by omega) (by omega) (by omega) (by omega) (by omega) (fun q hq => by omega) (by omega)
  · rw [if_neg c]
    exact h5
/-- a machine that runs stands in the windows -/
def zG (z : Nat → Nat) : Prop := z 115 = 0 → z 114 < 64
theorem zG_step {z : Nat → Nat} (hz : zI z) (had : z 114 < 64) : zG (zStep z) := by
  have h5 := (zI_st5 hz had).2.2.2.2.2.1
  unfold zG zStep
  by_cases c : zSt5 z 115 = 0 ∧ zSt5 z 114 = 64
  · rw [if_pos c, fU_s]
    intro h
    cases h
  · rw [if_neg c]
    intro h
    omega
/-- some steps, as long as it runs; and how many -/
def zRun (z : Nat → Nat) : Nat → (Nat → Nat)
  | 0 => z
  | n + 1 => if zRun z n 115 = 0 then zStep (zRun z n) else zRun z n
def zTk (z : Nat → Nat) : Nat → Nat
  | 0 => 0
  | n + 1 => if zRun z n 115 = 0 then n + 1 else zTk z n
theorem zRun_I {z : Nat → Nat} (hz : zI z) (hg : zG z) : ∀ n, zI (zRun z n) ∧ zG (zRun z n)
  | 0 => ⟨hz, hg⟩
  | n + 1 => by
    obtain ⟨h1, h2⟩ := zRun_I hz hg n
    show zI (if zRun z n 115 = 0 then zStep (zRun z n) else zRun z n) ∧ zG (if zRun z n 115 = 0 then zStep (zRun z n) else zRun z n)
    by_cases c : zRun z n 115 = 0
    · rw [if_pos c]
      exact ⟨zI_step h1 (h2 c), zG_step h1 (h2 c)⟩
    · rw [if_neg c]
      exact ⟨h1, h2⟩
theorem zRun_stop {z : Nat → Nat} {i : Nat} (h : ¬ zRun z i 115 = 0) : ∀ d, zRun z (i + d) = zRun z i ∧ zTk z (i + d) = zTk z i
  | 0 => ⟨rfl, rfl⟩
  | d + 1 => by
    obtain ⟨h1, h2⟩ := zRun_stop h d
    show (if zRun z (i + d) 115 = 0 then zStep (zRun z (i + d)) else zRun z (i + d)) = zRun z i ∧ (if zRun z (i + d) 115 = 0 then i + d + 1 else zTk z (i + d)) = zTk z i
    rw [h1, if_neg h, if_neg h]
    exact ⟨rfl, h2⟩
theorem zTk_run {z : Nat → Nat} : ∀ i, zRun z i 115 = 0 → zTk z i = i
  | 0, _ => rfl
  | i + 1, h => by
    show (if zRun z i 115 = 0 then i + 1 else zTk z i) = i + 1
    by_cases c : zRun z i 115 = 0
    · rw [if_pos c]
    · have e : zRun z (i + 1) = zRun z i := (zRun_stop c 1).1
      rw [e] at h
      exact absurd h c
theorem zTk_le {z : Nat → Nat} : ∀ i, zTk z i ≤ i
  | 0 => Nat.le_refl _
  | i + 1 => by
    have h := zTk_le (z := z) i
    show (if zRun z i 115 = 0 then i + 1 else zTk z i) ≤ i + 1
    split <;> omega
end
section
/-! ===== the reference: rows copied, records, what is told ===== -/
def cpF (src dst : Nat → Nat) (s d n : Nat) : Nat → Nat := fun j => if d ≤ j ∧ j < d + n then src (s + (j - d)) else dst j
theorem cpF_0 (src dst : Nat → Nat) (s d : Nat) : cpF src dst s d 0 = dst := by
  funext j
  unfold cpF
  rw [if_neg (by omega)]
theorem cpF_s (src dst : Nat → Nat) (s d i : Nat) : fU (cpF src dst s d i) (d + i) (src (s + i)) = cpF src dst s d (i + 1) := by
  funext j
  unfold cpF fU
  by_cases e : j = d + i
  · rw [if_pos e, if_pos (by omega), e, show d + i - d = i by omega]
  · rw [if_neg e]
    dsimp only
    by_cases g : d ≤ j ∧ j < d + i
    · rw [if_pos g, if_pos (by omega)]
    · rw [if_neg g, if_neg (by omega)]
theorem cpF_in {src dst : Nat → Nat} {s d n j : Nat} (h : d ≤ j) (h2 : j < d + n) : cpF src dst s d n j = src (s + (j - d)) := by
  unfold cpF
  rw [if_pos ⟨h, h2⟩]
theorem cpF_out {src dst : Nat → Nat} {s d n j : Nat} (h : ¬ (d ≤ j ∧ j < d + n)) : cpF src dst s d n j = dst j := by
  unfold cpF
  rw [if_neg h]
def shF (o : Nat → Nat) (i : Nat) : Nat → Nat := fun j => if j < i then o (198 + j) else o j
theorem shF_0 (o : Nat → Nat) : shF o 0 = o := by
  funext j
  unfold shF
  rw [if_neg (by omega)]
theorem shF_s (o : Nat → Nat) (i : Nat) : fU (shF o i) i (shF o i (198 + i)) = shF o (i + 1) := by
  funext j
  unfold shF fU
  by_cases e : j = i
  · rw [if_pos e, if_neg (show ¬ 198 + i < i by omega), if_pos (by omega), e]
  · rw [if_neg e]
    dsimp only
    by_cases g : j < i
    · rw [if_pos g, if_pos (by omega)]
    · rw [if_neg g, if_neg (by omega)]
def rN (n : Nat) : Nat := if n = 4 then 4 else n + 1
def oRec (n : Nat) (o z : Nat → Nat) : Nat → Nat := if n = 4 then cpF z (shF o 594) 0 594 198 else cpF z o 0 (198 * n) 198
theorem gIw_ok {j lo hi : Nat} (h1 : lo ≤ j) (h2 : j ≤ hi) (hh : hi < 2 ^ 31) : gIw (nI j) lo hi = true := (gIw_n (Nat.lt_of_le_of_lt h2 hh)).mpr ⟨h1, h2⟩
def oSl (o : Nat → Nat) (i : Nat) : Nat → Nat := fun j => o (198 * i + j)
end
section
/-! ===== the state that both sides stand for: how many states are recorded, they, the machine, whether there is a snapshot, it, the text's length, it ===== -/
abbrev aS : Type := Nat × (Nat → Nat → Nat) × (Nat → Nat) × Nat × (Nat → Nat) × Nat × (Nat → Nat)
def aN (S : aS) : Nat := S.1
def aH (S : aS) : Nat → Nat → Nat := S.2.1
def aZ (S : aS) : Nat → Nat := S.2.2.1
def aK (S : aS) : Nat := S.2.2.2.1
def aKz (S : aS) : Nat → Nat := S.2.2.2.2.1
def aL (S : aS) : Nat := S.2.2.2.2.2.1
def aT (S : aS) : Nat → Nat := S.2.2.2.2.2.2
def aPz (S : aS) (z : Nat → Nat) : aS := (aN S, aH S, z, aK S, aKz S, aL S, aT S)
def aHr (n : Nat) (h : Nat → Nat → Nat) (z : Nat → Nat) : Nat → Nat → Nat := if n = 4 then fun i => if i = 3 then z else h (i + 1) else fU h n z
def aRec (S : aS) : aS := (rN (aN S), aHr (aN S) (aH S) (aZ S), aZ S, aK S, aKz S, aL S, aT S)
/-- what always holds of it -/
def zB (z : Nat → Nat) : Prop := z 178 ≤ 999999
def zT (z : Nat → Nat) : Prop := z 141 = min (z 178) 12 ∧ z 180 = gSum (fun b => z (182 + b)) 8 ∧ z 181 = gSum (fun b => z (190 + b)) 8
def zV (z : Nat → Nat) : Prop := zI z ∧ zG z ∧ zB z ∧ zT z
def aI (S : aS) : Prop := zV (aZ S) ∧ (∀ i, i < aN S → zV (aH S i)) ∧ (aK S = 1 → zV (aKz S)) ∧ ∀ j, j < aL S → aT S j < 65536
/-! the calls' answers and what they leave -/
def aPut (S : aS) (b c9 n : Int32) : Int32 × aS := if gIw b 0 7 = true then if gIw c9 0 15 = true then if gIw n 0 999 = true then
  (if aZ S (zIx b.toNatClampNeg c9.toNatClampNeg) = n.toNatClampNeg then (-5, S) else (nI (aZ S (zIx b.toNatClampNeg c9.toNatClampNeg)), aPz (aRec S) (fU (aZ S) (zIx b.toNatClampNeg c9.toNatClampNeg) n.toNatClampNeg)))
  else (-2, S) else (-1, S) else (-1, S)
theorem aPut_1 {S : aS} {b c9 n : Int32} (h : gIw b 0 7 = false) : aPut S b c9 n = (-1, S) := by
  unfold aPut
  rw [if_neg (by rw [h]; decide)]
theorem aPut_2 {S : aS} {b c9 n : Int32} (h : gIw c9 0 15 = false) : aPut S b c9 n = (-1, S) := by
  unfold aPut
  rw [if_neg (show ¬ gIw c9 0 15 = true by rw [h]; decide), ite_self]
theorem aPut_3 {S : aS} {b c9 : Nat} {n : Int32} (hb : b ≤ 7) (hc : c9 ≤ 15) (h : gIw n 0 999 = false) : aPut S (nI b) (nI c9) n = (-2, S) := by
  unfold aPut
  rw [if_pos (gIw_ok (by omega) hb (by decide)), if_pos (gIw_ok (by omega) hc (by decide)), if_neg (by rw [h]; decide)]
theorem aPut_4 {S : aS} {b c9 n : Nat} (hb : b ≤ 7) (hc : c9 ≤ 15) (hn : n ≤ 999) (h : aZ S (zIx b c9) = n) : aPut S (nI b) (nI c9) (nI n) = (-5, S) := by
  unfold aPut
  rw [if_pos (gIw_ok (by omega) hb (by decide)), if_pos (gIw_ok (by omega) hc (by decide)), if_pos (gIw_ok (by omega) hn (by decide)), nI_clamp (by omega), nI_clamp (by omega), nI_clamp (by omega), if_pos h]
theorem aPut_5 {S : aS} {b c9 n : Nat} (hb : b ≤ 7) (hc : c9 ≤ 15) (hn : n ≤ 999) (h : ¬ aZ S (zIx b c9) = n) : aPut S (nI b) (nI c9) (nI n) = (nI (aZ S (zIx b c9)), aPz (aRec S) (fU (aZ S) (zIx b c9) n)) := by
  unfold aPut
  rw [if_pos (gIw_ok (by omega) hb (by decide)), if_pos (gIw_ok (by omega) hc (by decide)), if_pos (gIw_ok (by omega) hn (by decide)), nI_clamp (by omega), nI_clamp (by omega), nI_clamp (by omega), if_neg h]
def aLock (S : aS) (b : Int32) (v : Nat) : Int32 × aS := if gIw b 0 7 = true then
  (if aZ S (104 + b.toNatClampNeg) = v then (-5, S) else (nI (gSum (fun q => fU (aZ S) (104 + b.toNatClampNeg) v (104 + q)) 8), aPz (aRec S) (fU (aZ S) (104 + b.toNatClampNeg) v)))
  else (-1, S)
theorem aLock_1 {S : aS} {b : Int32} {v : Nat} (h : gIw b 0 7 = false) : aLock S b v = (-1, S) := by
  unfold aLock
  rw [if_neg (by rw [h]; decide)]
theorem aLock_2 {S : aS} {b v : Nat} (hb : b ≤ 7) (h : aZ S (104 + b) = v) : aLock S (nI b) v = (-5, S) := by
  unfold aLock
  rw [if_pos (gIw_ok (by omega) hb (by decide)), nI_clamp (by omega), if_pos h]
theorem aLock_3 {S : aS} {b v : Nat} (hb : b ≤ 7) (h : ¬ aZ S (104 + b) = v) : aLock S (nI b) v = (nI (gSum (fun q => fU (aZ S) (104 + b) v (104 + q)) 8), aPz (aRec S) (fU (aZ S) (104 + b) v)) := by
  unfold aLock
  rw [if_pos (gIw_ok (by omega) hb (by decide)), nI_clamp (by omega), if_neg h]
def aShow (S : aS) (w b : Int32) : Int32 × aS := if gIw w 0 3 = true then if gIw b 0 7 = true then
  (if aZ S (100 + w.toNatClampNeg) = b.toNatClampNeg then (-5, S) else (nI (aZ S (100 + w.toNatClampNeg)), aPz (aRec S) (fU (aZ S) (100 + w.toNatClampNeg) b.toNatClampNeg)))
  else (-1, S) else (-1, S)
theorem aShow_1 {S : aS} {w b : Int32} (h : gIw w 0 3 = false) : aShow S w b = (-1, S) := by
  unfold aShow
  rw [if_neg (by rw [h]; decide)]
theorem aShow_2 {S : aS} {w b : Int32} (h : gIw b 0 7 = false) : aShow S w b = (-1, S) := by
  unfold aShow
  rw [if_neg (show ¬ gIw b 0 7 = true by rw [h]; decide), ite_self]
theorem aShow_3 {S : aS} {w b : Nat} (hw : w ≤ 3) (hb : b ≤ 7) (h : aZ S (100 + w) = b) : aShow S (nI w) (nI b) = (-5, S) := by
  unfold aShow
  rw [if_pos (gIw_ok (by omega) hw (by decide)), if_pos (gIw_ok (by omega) hb (by decide)), nI_clamp (by omega), nI_clamp (by omega), if_pos h]
theorem aShow_4 {S : aS} {w b : Nat} (hw : w ≤ 3) (hb : b ≤ 7) (h : ¬ aZ S (100 + w) = b) : aShow S (nI w) (nI b) = (nI (aZ S (100 + w)), aPz (aRec S) (fU (aZ S) (100 + w) b)) := by
  unfold aShow
  rw [if_pos (gIw_ok (by omega) hw (by decide)), if_pos (gIw_ok (by omega) hb (by decide)), nI_clamp (by omega), nI_clamp (by omega), if_neg h]
def zUn (z : Nat → Nat) (fr to : Nat) : Nat → Nat := gSum (fun c9 => if z (zIx fr c9) = z (zIx to c9) then 0 else 1)
def zCp (z : Nat → Nat) (fr to : Nat) : Nat → (Nat → Nat)
  | 0 => z
  | n + 1 => fU (zCp z fr to n) (zIx to n) (zCp z fr to n (zIx fr n))
def aCopy (S : aS) (fr to : Int32) : Int32 × aS := if gIw fr 0 7 = true then if gIw to 0 7 = true then
  (if zUn (aZ S) fr.toNatClampNeg to.toNatClampNeg 12 = 0 then (-5, S) else (nI (zUn (aZ S) fr.toNatClampNeg to.toNatClampNeg 12), aPz (aRec S) (zCp (aZ S) fr.toNatClampNeg to.toNatClampNeg 12)))
  else (-1, S) else (-1, S)
theorem aCopy_1 {S : aS} {w b : Int32} (h : gIw w 0 7 = false) : aCopy S w b = (-1, S) := by
  unfold aCopy
  rw [if_neg (by rw [h]; decide)]
theorem aCopy_2 {S : aS} {w b : Int32} (h : gIw b 0 7 = false) : aCopy S w b = (-1, S) := by
  unfold aCopy
  rw [if_neg (show ¬ gIw b 0 7 = true by rw [h]; decide), ite_self]
theorem aCopy_3 {S : aS} {w b : Nat} (hw : w ≤ 7) (hb : b ≤ 7) (h : zUn (aZ S) w b 12 = 0) : aCopy S (nI w) (nI b) = (-5, S) := by
  unfold aCopy
  rw [if_pos (gIw_ok (by omega) hw (by decide)), if_pos (gIw_ok (by omega) hb (by decide)), nI_clamp (by omega), nI_clamp (by omega), if_pos h]
theorem aCopy_4 {S : aS} {w b : Nat} (hw : w ≤ 7) (hb : b ≤ 7) (h : ¬ zUn (aZ S) w b 12 = 0) : aCopy S (nI w) (nI b) = (nI (zUn (aZ S) w b 12), aPz (aRec S) (zCp (aZ S) w b 12)) := by
  unfold aCopy
  rw [if_pos (gIw_ok (by omega) hw (by decide)), if_pos (gIw_ok (by omega) hb (by decide)), nI_clamp (by omega), nI_clamp (by omega), if_neg h]
def aSet (S : aS) (v : Int32) : Int32 × aS := if gIw v 0 1 = true then
  (if aZ S 112 = v.toNatClampNeg then (-5, S) else (nI (aZ S 112), aPz (aRec S) (fU (aZ S) 112 v.toNatClampNeg))) else (-2, S)
theorem aSet_1 {S : aS} {v : Int32} (h : gIw v 0 1 = false) : aSet S v = (-2, S) := by
  unfold aSet
  rw [if_neg (by rw [h]; decide)]
theorem aSet_2 {S : aS} {v : Nat} (hv : v ≤ 1) (h : aZ S 112 = v) : aSet S (nI v) = (-5, S) := by
  unfold aSet
  rw [if_pos (gIw_ok (by omega) hv (by decide)), nI_clamp (by omega), if_pos h]
theorem aSet_3 {S : aS} {v : Nat} (hv : v ≤ 1) (h : ¬ aZ S 112 = v) : aSet S (nI v) = (nI (aZ S 112), aPz (aRec S) (fU (aZ S) 112 v)) := by
  unfold aSet
  rw [if_pos (gIw_ok (by omega) hv (by decide)), nI_clamp (by omega), if_neg h]
def zBg (z : Nat → Nat) (p9 : Nat) : Nat → Nat := fU (fU (fU (fU z 114 p9) 113 0) 115 0) 116 0
def aBegin (S : aS) (p9 : Int32) : Int32 × aS := if gIw p9 0 63 = true then (nI (aZ S 114), aPz (aRec S) (zBg (aZ S) p9.toNatClampNeg)) else (-1, S)
theorem aBegin_1 {S : aS} {v : Int32} (h : gIw v 0 63 = false) : aBegin S v = (-1, S) := by
  unfold aBegin
  rw [if_neg (by rw [h]; decide)]
theorem aBegin_2 {S : aS} {v : Nat} (hv : v ≤ 63) : aBegin S (nI v) = (nI (aZ S 114), aPz (aRec S) (zBg (aZ S) v)) := by
  unfold aBegin
  rw [if_pos (gIw_ok (by omega) hv (by decide)), nI_clamp (by omega)]
def aRun (S : aS) (n : Int32) : Int32 × aS := if gIw n 1 999 = true then
  (if 0 < aZ S 115 then (-4, S) else if 999999 < aZ S 178 + n.toNatClampNeg then (-3, S) else (nI (zTk (aZ S) n.toNatClampNeg), aPz (aRec S) (zRun (aZ S) n.toNatClampNeg))) else (-2, S)
theorem aRun_1 {S : aS} {v : Int32} (h : gIw v 1 999 = false) : aRun S v = (-2, S) := by
  unfold aRun
  rw [if_neg (by rw [h]; decide)]
theorem aRun_2 {S : aS} {v : Nat} (h1 : 1 ≤ v) (hv : v ≤ 999) (h : 0 < aZ S 115) : aRun S (nI v) = (-4, S) := by
  unfold aRun
  rw [if_pos (gIw_ok h1 hv (by decide)), if_pos h]
theorem aRun_3 {S : aS} {v : Nat} (h1 : 1 ≤ v) (hv : v ≤ 999) (h : aZ S 115 = 0) (h2 : 999999 < aZ S 178 + v) : aRun S (nI v) = (-3, S) := by
  unfold aRun
  rw [if_pos (gIw_ok h1 hv (by decide)), if_neg (by omega), nI_clamp (by omega), if_pos h2]
theorem aRun_4 {S : aS} {v : Nat} (h1 : 1 ≤ v) (hv : v ≤ 999) (h : aZ S 115 = 0) (h2 : aZ S 178 + v ≤ 999999) : aRun S (nI v) = (nI (zTk (aZ S) v), aPz (aRec S) (zRun (aZ S) v)) := by
  unfold aRun
  rw [if_pos (gIw_ok h1 hv (by decide)), if_neg (by omega), nI_clamp (by omega), if_neg (by omega)]
def aType (S : aS) (ch : Nat) : Int32 × aS := if aL S = 80 then (-3, S) else (nI (aL S + 1), (aN S, aH S, aZ S, aK S, aKz S, aL S + 1, fU (aT S) (aL S) ch))
def aClear (S : aS) : Int32 × aS := (nI (aL S), (aN S, aH S, aZ S, aK S, aKz S, 0, aT S))
def aUndo (S : aS) : Int32 × aS := if aN S = 0 then (-5, S) else (nI (aN S - 1), (aN S - 1, aH S, aH S (aN S - 1), aK S, aKz S, aL S, aT S))
def aKeep (S : aS) : Int32 × aS := (nI (aZ S 114), (aN S, aH S, aZ S, 1, aZ S, aL S, aT S))
def aRest (S : aS) : Int32 × aS := if aK S = 0 then (-5, S) else (nI (aKz S 114), aPz (aRec S) (aKz S))
/-! what is told -/
def sCell (z : Nat → Nat) (b c9 : Int32) : Int32 := if gIw b 0 7 = true then if gIw c9 0 15 = true then nI (z (zIx b.toNatClampNeg c9.toNatClampNeg)) else -1 else -1
def zSame (z : Nat → Nat) (ad : Nat) : Nat → Int32
  | 0 => -5
  | d + 1 => if ¬ (63 - d = ad) ∧ zAt z (63 - d) = zAt z ad then nI (63 - d) else zSame z ad d
def sAddr (z : Nat → Nat) (ad w : Int32) : Int32 := if gIw ad 0 63 = true then if gIw w 0 3 = true then (match w.toNatClampNeg with
  | 0 => nI (z (zAt z ad.toNatClampNeg))
  | 1 => nI (zBk z ad.toNatClampNeg)
  | 2 => nI (ad.toNatClampNeg % 16)
  | _ => zSame z ad.toNatClampNeg 64) else -2 else -1
def zWin (z : Nat → Nat) (b : Nat) : Nat → Nat := gSum (fun w => if z (100 + w) = b then 2 ^ w else 0)
def zFil (z : Nat → Nat) (b : Nat) : Nat → Nat := gSum (fun c9 => if z (zIx b c9) = 0 then 0 else 1)
def zFrm (z : Nat → Nat) (b : Nat) : Nat → Nat := gSum (fun q => if z (118 + 3 * q) = b then 1 else 0)
def sBank (z : Nat → Nat) (b w : Int32) : Int32 := if gIw b 0 7 = true then if gIw w 0 5 = true then (match w.toNatClampNeg with
  | 0 => nI (z (104 + b.toNatClampNeg))
  | 1 => nI (zWin z b.toNatClampNeg 4)
  | 2 => nI (zFil z b.toNatClampNeg 12)
  | 3 => nI (zFrm z b.toNatClampNeg (z 116))
  | 4 => nI (z (182 + b.toNatClampNeg))
  | _ => nI (z (190 + b.toNatClampNeg))) else -2 else -1
def sWin (z : Nat → Nat) (w : Int32) : Int32 := if gIw w 0 3 = true then nI (z (100 + w.toNatClampNeg)) else -1
def sFrame (z : Nat → Nat) (r w : Int32) : Int32 := if r < 0 then -2 else if gIw w 0 2 = true then (if r.toNatClampNeg < z 116 then nI (z (117 + 3 * (z 116 - 1 - r.toNatClampNeg) + w.toNatClampNeg)) else -5) else -2
def sLate (z : Nat → Nat) (r w : Int32) : Int32 := if r < 0 then -2 else if gIw w 0 2 = true then (if r.toNatClampNeg < z 141 then nI (z (142 + 3 * r.toNatClampNeg + w.toNatClampNeg)) else -5) else -2
def sNext (z : Nat → Nat) (w : Int32) : Int32 := if gIw w 0 2 = true then (if 0 < z 115 then -5 else match w.toNatClampNeg with
  | 0 => nI (z (zAt z (z 114)))
  | 1 => nI (zStep z 115)
  | _ => nI (zStep z 114)) else -2
def zDif (y z : Nat → Nat) : Nat → Nat := gSum (fun j => if y j = z j then 0 else 1)
def sIf (z : Nat → Nat) (n w : Int32) : Int32 := if gIw n 1 999 = true then if gIw w 0 4 = true then (if 0 < z 115 then -4 else match w.toNatClampNeg with
  | 0 => nI (zTk z n.toNatClampNeg)
  | 1 => nI (zRun z n.toNatClampNeg 115)
  | 2 => nI (zRun z n.toNatClampNeg 113)
  | 3 => nI (zRun z n.toNatClampNeg 116)
  | _ => nI (zDif (zRun z n.toNatClampNeg) z 100)) else -2 else -2
/-- the first step, of at most some, behind which there are fewer frames; 0 if none -/
def zBack (z : Nat → Nat) : Nat → Nat
  | 0 => 0
  | n + 1 => if zBack z n = 0 ∧ zRun z n 115 = 0 ∧ zRun z (n + 1) 116 < z 116 then n + 1 else zBack z n
def sBack (z : Nat → Nat) : Int32 := if zBack z 500 = 0 then -5 else nI (zBack z 500)
def sCount (S : aS) (w : Int32) : Int32 := if gIw w 0 11 = true then (match w.toNatClampNeg with
  | 0 => nI (aZ S 113)
  | 1 => nI (aZ S 114)
  | 2 => nI (aZ S 116)
  | 3 => nI (aZ S 115)
  | 4 => nI (aZ S 178)
  | 5 => nI (aZ S 179)
  | 6 => nI (aZ S 180)
  | 7 => nI (aZ S 181)
  | 8 => nI (gSum (fun b => aZ S (104 + b)) 8)
  | 9 => nI (aZ S 112)
  | 10 => nI (aN S)
  | _ => nI (aL S)) else -2
end
section
/-! ===== the reference's calls ===== -/
theorem nI_nm5 {x : Nat} (h : x < 2 ^ 31) : ¬ nI x = -5 := by
  intro z
  have h1 := congrArg Int32.toInt z
  rw [nI_toInt h] at h1
  have h2 : (-5 : Int32).toInt = -5 := rfl
  omega
theorem gIw_out {v : Int32} {lo hi : Nat} (h : gIw v lo hi = false) : v.toInt < (lo : Int) ∨ (hi : Int) < v.toInt := by
  have h1 : ¬ ((lo : Int) ≤ v.toInt ∧ v.toInt ≤ (hi : Int)) := fun z => by rw [gIw_iff.mpr z] at h; cases h
  omega
end
section
/-! ===== the reference's calls, on ===== -/
theorem gMt.mono {l : Launch} {y : MethodName} {cc : ByteArray} {nL fr lo : Nat} {ret : Option FieldType} {X : gX} {av : List Value} {mem : gM} {post post' : Option Value → gM → Prop} (h : gMt l y cc nL ret fr lo X av mem post) (hp : ∀ v m, post v m → post' v m) : gMt l y cc nL ret fr lo X av mem post' := by
  intro p e ha hc hk s m args below hf happ hP hK
  obtain ⟨n, o, h1, h2, h3, h4, h5⟩ := h p e ha hc hk s m args below hf happ hP hK
  obtain ⟨⟨v, mem', q1, q2, q3⟩, q4⟩ := h4
  exact ⟨n, o, h1, h2, h3, ⟨⟨v, mem', q1, hp v mem' q2, q3⟩, q4⟩, h5⟩
theorem gSum_le {f : Nat → Nat} (h : ∀ i, f i ≤ 1) : ∀ n, gSum f n ≤ n
  | 0 => Nat.le_refl _
  | n + 1 => Nat.add_le_add (gSum_le h n) (h n)
theorem zUn_le {z : Nat → Nat} {a b : Nat} (n : Nat) : zUn z a b n ≤ n := gSum_le (fun i => by split <;> omega) n
theorem zCp_le {z : Nat → Nat} {a b : Nat} (hz : zI z) (ha : a < 8) (hb : b < 8) : ∀ n, n ≤ 12 → zI (zCp z a b n)
  | 0, _ => hz
  | n + 1, hn => by
    have h := zCp_le hz ha hb n (by omega)
    have h1 := h.1 _ (zIx_lt ha (show n < 16 by omega))
    have h2 := zIx_lt hb (show n < 16 by omega)
    exact h.upd9 (by omega) (by omega) (by omega) (by omega) (by omega) (by omega) (by omega) (by omega) (fun q hq => by omega) (by omega)
theorem g_iincI {p : Program} {l : Launch} {e : Env} {R : Room} {s : State} {m : MethodId} {args : Array Value} {below : List Frame} {meth : Method} {c : Code} {H : Heap} {locs : List Loc} {cells slots : Nat} {Q : State → Prop} {cc : ByteArray} {pc : Nat} {ls : Array Slot} {rest : List Value} {X : gX} {own : String} {ret : Option FieldType} {nL : Nat} {vs : List (Option Value)} {i : Nat} {n : Int} {x : Int32} (v : Int32) (C : gC X own cc ret nL p s m args meth c) (hl : gL ls vs) (hdg : decode cc pc = .ok (.iinc i n, 3)) (hi : vs[i]? = some (some (.int x))) (hv : x + Int32.ofInt n = v) (kk : ∀ ls' : Array Slot, gL ls' (vs.set i (some (.int v))) → W p l e R s m args below meth c H locs cells slots Q (F0 m (pc + 3) ls' rest)) : W p l e R s m args below meth c H locs cells slots Q (F0 m pc ls rest) := by
  have hlt := (List.getElem?_eq_some_iff.mp hi).1
  obtain ⟨q, hq⟩ := List.getElem?_of_mem (gLs_mem (q := (i, .int x)).mpr hi)
  exact lv_iinc (v := v) C.1 C.2.1 hdg hl.has hq hv hlt rfl (fun ls' h' => kk ls' (hl.set hlt rfl h'))
theorem zWin_lt {z : Nat → Nat} {b : Nat} : ∀ i, zWin z b i < 2 ^ i
  | 0 => Nat.lt_of_lt_of_eq (by decide : 0 < 1) rfl
  | i + 1 => by
    have h := zWin_lt (z := z) (b := b) i
    have e : zWin z b (i + 1) = zWin z b i + (if z (100 + i) = b then 2 ^ i else 0) := rfl
    rw [e, Nat.pow_succ]
    split <;> omega
theorem w_shl : ∀ i, i < 4 → nI 1 <<< (nI i &&& 31) = nI (2 ^ i) := by decide +kernel
theorem w_or0 : ∀ i, i < 4 → ∀ x, x < 16 → x < 2 ^ i → nI x ||| nI (2 ^ i) = nI (x + 2 ^ i) := by decide +kernel
theorem w_or {x i : Nat} (hi : i < 4) (h : x < 2 ^ i) : nI x ||| nI (2 ^ i) = nI (x + 2 ^ i) := by
  refine w_or0 i hi x ?_ h
  have h1 : 2 ^ i ≤ 2 ^ 3 := Nat.pow_le_pow_right (by decide) (by omega)
  omega
theorem w_orz0 : ∀ x, x < 16 → nI x ||| nI 0 = nI (x + 0) := by decide +kernel
theorem w_orz {x i : Nat} (hi : i < 4) (h : x < 2 ^ i) : nI x ||| nI 0 = nI (x + 0) := by
  refine w_orz0 x ?_
  have h1 : 2 ^ i ≤ 2 ^ 3 := Nat.pow_le_pow_right (by decide) (by omega)
  omega
end
section
/-! ===== the reference's calls: what is told ===== -/
theorem zAt_hz {z : Nat → Nat} (hz : zI z) {i : Nat} (hi : i < 64) : zAt z i < 2 ^ 31 := by have := hz.at hi; omega
theorem i_m1 : nI 0 + Int32.ofInt (-1) = -1 := by decide
theorem gFrame_q (z : Nat → Nat) (hz : zI z) {q w : Nat} (hq : q < 8) (hw : w ≤ 2) : 117 + 3 * q + w < 198 := by omega
theorem zBack_0 {z : Nat → Nat} {n : Nat} (h : zBack z n = 0) (h1 : zRun z n 115 = 0) (h2 : ¬ zRun z (n + 1) 116 < z 116) : zBack z (n + 1) = 0 := by
  show (if zBack z n = 0 ∧ zRun z n 115 = 0 ∧ zRun z (n + 1) 116 < z 116 then n + 1 else zBack z n) = 0
  rw [if_neg (fun q => h2 q.2.2), h]
theorem zBack_1 {z : Nat → Nat} {n : Nat} (h : zBack z n = 0) (h1 : zRun z n 115 = 0) (h2 : zRun z (n + 1) 116 < z 116) : ∀ d, zBack z (n + 1 + d) = n + 1
  | 0 => if_pos ⟨h, h1, h2⟩
  | d + 1 => by
    have e := zBack_1 h h1 h2 d
    show (if zBack z (n + 1 + d) = 0 ∧ _ then _ else zBack z (n + 1 + d)) = n + 1
    rw [if_neg (fun q => by have := q.1; rw [e] at this; omega), e]
theorem zBack_st {z : Nat → Nat} {n : Nat} (h : zBack z n = 0) (h1 : ¬ zRun z n 115 = 0) : ∀ d, zBack z (n + d) = 0
  | 0 => h
  | d + 1 => by
    have e := zBack_st h h1 d
    show (if zBack z (n + d) = 0 ∧ zRun z (n + d) 115 = 0 ∧ _ then _ else zBack z (n + d)) = 0
    rw [if_neg (fun q => h1 (by have := q.2.1; rw [(zRun_stop h1 d).1] at this; exact this)), e]
theorem zBack_no {z : Nat → Nat} (h : z 116 = 0) : ∀ n, zBack z n = 0
  | 0 => rfl
  | n + 1 => by
    show (if zBack z n = 0 ∧ zRun z n 115 = 0 ∧ zRun z (n + 1) 116 < z 116 then n + 1 else zBack z n) = 0
    rw [if_neg (fun q => absurd q.2.2 (by omega)), zBack_no h n]
end
section
/-! ===== a Machine of the class beside the reference's row ===== -/
def mO (j : Nat) : Nat := if j < 100 then 3 else if j < 104 then 7 else if j < 112 then 5 else if j < 116 then 0 else if j < 117 then 12 else if j < 141 then 14 else if j < 179 then 15 else if j < 180 then 0 else if j < 190 then 9 else 11
def mI (j : Nat) : Nat := if j < 100 then j else if j < 104 then j - 100 else if j < 112 then j - 104 else if j < 113 then 6 else if j < 114 then 3 else if j < 115 then 4 else if j < 116 then 5 else if j < 117 then 1 else if j < 141 then j - 117 else if j < 179 then 1 else if j < 180 then 7 else if j < 190 then j - 182 else j - 190
def mK (j : Nat) : Bool := Nat.ble j 140 || j == 178 || j == 179 || (Nat.ble 182 j && Nat.ble j 197)
theorem mK_cases {j : Nat} (h : mK j = true) : j ≤ 140 ∨ j = 178 ∨ j = 179 ∨ (182 ≤ j ∧ j ≤ 197) := by
  unfold mK at h
  simp only [Bool.or_eq_true, Bool.and_eq_true, Nat.ble_eq, beq_iff_eq] at h
  omega
theorem mK_of {j : Nat} (h : j ≤ 140 ∨ j = 178 ∨ j = 179 ∨ (182 ≤ j ∧ j ≤ 197)) : mK j = true := by
  unfold mK
  simp only [Bool.or_eq_true, Bool.and_eq_true, Nat.ble_eq, beq_iff_eq]
  omega
theorem mOI0 : ∀ i, i < 198 → ∀ j, j < 198 → (mK i && mK j && mO i == mO j && mI i == mI j) = true → i = j := by decide +kernel
theorem mOI {i j : Nat} (hi : mK i = true) (hj : mK j = true) (h1 : mO i = mO j) (h2 : mI i = mI j) : i = j := mOI0 i (by have := mK_cases hi; omega) j (by have := mK_cases hj; omega) (by simp [hi, hj, h1, h2])
theorem mO_17a : ∀ i, i < 198 → ¬ 17 = mO i := by decide +kernel
theorem mO_17 {i : Nat} (hi : mK i = true) : ¬ 17 = mO i := mO_17a i (by have := mK_cases hi; omega)
def mR (g : Nat → Nat → Nat) (z : Nat → Nat) : Prop := (∀ j, mK j = true → g (mO j) (mI j) = z j) ∧ z 141 = min (z 178) 12 ∧ ∀ r q, r < z 141 → q < 3 → g 17 ((z 178 - 1 - r) % 12 * 3 + q) = z (142 + 3 * r + q)
theorem mR_set {g : Nat → Nat → Nat} {z : Nat → Nat} {j x : Nat} (h : mR g z) (hj : mK j = true) (h8 : ¬ j = 178) : mR (fU g (mO j) (fU (g (mO j)) (mI j) x)) (fU z j x) := by
  have hc := mK_cases hj
  obtain ⟨h1, h2, h3⟩ := h
  refine ⟨fun i hi => ?_, ?_, fun r q hr hq => ?_⟩
  · by_cases e : i = j
    · subst e
      rw [fU_s, fU_s, fU_s]
    · rw [fU_n z _ e]
      by_cases e1 : mO i = mO j
      · rw [e1, fU_s, fU_n _ _ (fun e2 => e (mOI hi hj e1 e2)), ← e1]
        exact h1 i hi
      · rw [fU_n _ _ e1]
        exact h1 i hi
  · rw [fU_n z _ (by omega), fU_n z _ (by omega)]
    exact h2
  · rw [fU_n z _ (by omega)] at hr
    rw [fU_n z _ (by omega), fU_n z _ (by omega), fU_n _ _ (mO_17 hj)]
    exact h3 r q hr hq
theorem mR_congr {g : Nat → Nat → Nat} {z y : Nat → Nat} (h : mR g z) (e : ∀ j, j < 180 ∨ 182 ≤ j → y j = z j) : mR g y := by
  obtain ⟨h1, h2, h3⟩ := h
  refine ⟨fun j hj => ?_, ?_, fun r q hr hq => ?_⟩
  · rw [e j (by have := mK_cases hj; omega)]
    exact h1 j hj
  · rw [e _ (by omega), e _ (by omega)]
    exact h2
  · rw [e _ (by omega)] at hr
    rw [e _ (by omega), e _ (by omega)]
    exact h3 r q hr hq
theorem mR_180 {g : Nat → Nat → Nat} {z : Nat → Nat} {x i : Nat} (h : mR g z) (hi : i = 180 ∨ i = 181) : mR g (fU z i x) := mR_congr h (fun j hj => fU_n z _ (by omega))
theorem fU_c (z : Nat → Nat) {i j : Nat} (x y : Nat) (h : ¬ i = j) : fU (fU z i x) j y = fU (fU z j y) i x := by
  funext q
  unfold fU
  by_cases e : q = j
  · rw [if_pos e, if_neg (by omega), if_pos e]
  · rw [if_neg e]
    by_cases e2 : q = i
    · rw [if_pos e2, if_pos e2]
    · rw [if_neg e2, if_neg e2, if_neg e]
/-- a row of ints of a Machine is a piece of the reference's row -/
def mB (a n b : Nat) : Prop := ∀ i, i < n → mK (b + i) = true ∧ mO (b + i) = a ∧ mI (b + i) = i ∧ ¬ b + i = 178
theorem mB_3 : mB 3 100 0 := by
  have h : ∀ i, i < 100 → mK (0 + i) = true ∧ mO (0 + i) = 3 ∧ mI (0 + i) = i ∧ ¬ 0 + i = 178 := by decide +kernel
  exact h
theorem mB_5 : mB 5 8 104 := by
  have h : ∀ i, i < 8 → mK (104 + i) = true ∧ mO (104 + i) = 5 ∧ mI (104 + i) = i ∧ ¬ 104 + i = 178 := by decide +kernel
  exact h
theorem mB_7 : mB 7 4 100 := by
  have h : ∀ i, i < 4 → mK (100 + i) = true ∧ mO (100 + i) = 7 ∧ mI (100 + i) = i ∧ ¬ 100 + i = 178 := by decide +kernel
  exact h
theorem mB_9 : mB 9 8 182 := by
  have h : ∀ i, i < 8 → mK (182 + i) = true ∧ mO (182 + i) = 9 ∧ mI (182 + i) = i ∧ ¬ 182 + i = 178 := by decide +kernel
  exact h
theorem mB_11 : mB 11 8 190 := by
  have h : ∀ i, i < 8 → mK (190 + i) = true ∧ mO (190 + i) = 11 ∧ mI (190 + i) = i ∧ ¬ 190 + i = 178 := by decide +kernel
  exact h
theorem mB_14 : mB 14 24 117 := by
  have h : ∀ i, i < 24 → mK (117 + i) = true ∧ mO (117 + i) = 14 ∧ mI (117 + i) = i ∧ ¬ 117 + i = 178 := by decide +kernel
  exact h
theorem mR_arr {g : Nat → Nat → Nat} {z : Nat → Nat} {a n b i : Nat} (h : mR g z) (hb : mB a n b) (hi : i < n) : g a i = z (b + i) := by
  obtain ⟨h1, h2, h3, -⟩ := hb i hi
  have := h.1 (b + i) h1
  rw [h2, h3] at this
  exact this
theorem mR_put {g : Nat → Nat → Nat} {z : Nat → Nat} {a n b i x : Nat} (h : mR g z) (hb : mB a n b) (hi : i < n) : mR (fU g a (fU (g a) i x)) (fU z (b + i) x) := by
  obtain ⟨h1, h2, h3, h4⟩ := hb i hi
  have := mR_set (x := x) h h1 h4
  rw [h2, h3] at this
  exact this
theorem gP_fU (mem : gM) (k : Nat) (g : Nat → Nat → Nat) (o i x : Nat) : gP (fU mem k g) k o (fU ((fU mem k g) k o) i x) = fU mem k (fU g o (fU (g o) i x)) := by
  unfold gP
  rw [fU_s, fU_u]
/-- the end of what changes one Machine -/
def mP (mem : gM) (k : Nat) (z : Nat → Nat) (r : Option Value) : Option Value → gM → Prop := fun v m => v = r ∧ ∃ g, m = fU mem k g ∧ mR g z
section GM
variable {p : Program} {l : Launch} {e : Env} {R : Room} {s : State} {m : MethodId} {args : Array Value} {below : List Frame} {meth : Method} {c : Code} {H : Heap} {locs : List Loc} {cells slots : Nat} {Q : State → Prop}
variable {cc : ByteArray} {pc : Nat} {ls : Array Slot} {rest : List Value} {X : gX} {own : String} {ret : Option FieldType} {nL : Nat} {mem : gM} {g : Nat → Nat → Nat} {z : Nat → Nat}

theorem zgt_X4_3 {k index : Nat} (C : gC X own cc ret nL p s m args meth c) (hk : k < 7) (hM : mR g z) (hR : gRep X (fU mem k g) H) (hlink : Cond.fieldLink own index "FarBanks$Machine" "number" "I" ∈ wA) (hdg : decode cc pc = .ok (.getfield index, 3)) (kk : W p l e R s m args below meth c H locs cells slots Q (F0 m (pc + 3) ls (.int (nI (z 113)) :: rest))) : W p l e R s m args below meth c H locs cells slots Q (F0 m pc ls (.ref (gAd X k 0) :: rest)) := gt_X4_3 C hk hR hlink hdg (by rw [fU_s, show g 0 3 = z 113 from hM.1 113 rfl]; exact kk)
theorem zpt_X4_3 {k index x : Nat} (C : gC X own cc ret nL p s m args meth c) (hk : k < 7) (hM : mR g z) (hR : gRep X (fU mem k g) H) (hS : va_S (gA X) s.heap H locs) (hlink : Cond.fieldLink own index "FarBanks$Machine" "number" "I" ∈ wA) (hdg : decode cc pc = .ok (.putfield index, 3)) (kk : ∀ (g1 : Nat → Nat → Nat), mR g1 (fU z 113 x) → ∀ (H1 : Heap) (locs1 : List Loc), gRep X (fU mem k g1) H1 → va_S (gA X) s.heap H1 locs1 → W p l e R s m args below meth c H1 locs1 cells slots Q (F0 m (pc + 3) ls rest)) : W p l e R s m args below meth c H locs cells slots Q (F0 m pc ls (.int (nI x) :: .ref (gAd X k 0) :: rest)) := pt_X4_3 C hk hR hS hlink hdg (fun H1 locs1 hR1 hS1 => kk _ (show mR (fU g 0 (fU (g 0) 3 x)) (fU z 113 x) from mR_set (j := 113) hM rfl (by decide)) H1 locs1 (by rw [gP_fU] at hR1; exact hR1) hS1)
theorem zgn_X4_3 {k index : Nat} {host : String} (C : gC X own cc ret nL p s m args meth c) (hk : k < 7) (hM : mR g z) (hR : gRep X (fU mem k g) H) (hlink : (own, index, "FarBanks$Machine", "number", "I", host) ∈ gNf) (hdg : decode cc pc = .ok (.getfield index, 3)) (kk : W p l e R s m args below meth c H locs cells slots Q (F0 m (pc + 3) ls (.int (nI (z 113)) :: rest))) : W p l e R s m args below meth c H locs cells slots Q (F0 m pc ls (.ref (gAd X k 0) :: rest)) := gn_X4_3 C hk hR hlink hdg (by rw [fU_s, show g 0 3 = z 113 from hM.1 113 rfl]; exact kk)
theorem zpn_X4_3 {k index x : Nat} {host : String} (C : gC X own cc ret nL p s m args meth c) (hk : k < 7) (hM : mR g z) (hR : gRep X (fU mem k g) H) (hS : va_S (gA X) s.heap H locs) (hlink : (own, index, "FarBanks$Machine", "number", "I", host) ∈ gNf) (hdg : decode cc pc = .ok (.putfield index, 3)) (kk : ∀ (g1 : Nat → Nat → Nat), mR g1 (fU z 113 x) → ∀ (H1 : Heap) (locs1 : List Loc), gRep X (fU mem k g1) H1 → va_S (gA X) s.heap H1 locs1 → W p l e R s m args below meth c H1 locs1 cells slots Q (F0 m (pc + 3) ls rest)) : W p l e R s m args below meth c H locs cells slots Q (F0 m pc ls (.int (nI x) :: .ref (gAd X k 0) :: rest)) := pn_X4_3 C hk hR hS hlink hdg (fun H1 locs1 hR1 hS1 => kk _ (show mR (fU g 0 (fU (g 0) 3 x)) (fU z 113 x) from mR_set (j := 113) hM rfl (by decide)) H1 locs1 (by rw [gP_fU] at hR1; exact hR1) hS1)
theorem zgt_X4_4 {k index : Nat} (C : gC X own cc ret nL p s m args meth c) (hk : k < 7) (hM : mR g z) (hR : gRep X (fU mem k g) H) (hlink : Cond.fieldLink own index "FarBanks$Machine" "place" "I" ∈ wA) (hdg : decode cc pc = .ok (.getfield index, 3)) (kk : W p l e R s m args below meth c H locs cells slots Q (F0 m (pc + 3) ls (.int (nI (z 114)) :: rest))) : W p l e R s m args below meth c H locs cells slots Q (F0 m pc ls (.ref (gAd X k 0) :: rest)) := gt_X4_4 C hk hR hlink hdg (by rw [fU_s, show g 0 4 = z 114 from hM.1 114 rfl]; exact kk)
theorem zpt_X4_4 {k index x : Nat} (C : gC X own cc ret nL p s m args meth c) (hk : k < 7) (hM : mR g z) (hR : gRep X (fU mem k g) H) (hS : va_S (gA X) s.heap H locs) (hlink : Cond.fieldLink own index "FarBanks$Machine" "place" "I" ∈ wA) (hdg : decode cc pc = .ok (.putfield index, 3)) (kk : ∀ (g1 : Nat → Nat → Nat), mR g1 (fU z 114 x) → ∀ (H1 : Heap) (locs1 : List Loc), gRep X (fU mem k g1) H1 → va_S (gA X) s.heap H1 locs1 → W p l e R s m args below meth c H1 locs1 cells slots Q (F0 m (pc + 3) ls rest)) : W p l e R s m args below meth c H locs cells slots Q (F0 m pc ls (.int (nI x) :: .ref (gAd X k 0) :: rest)) := pt_X4_4 C hk hR hS hlink hdg (fun H1 locs1 hR1 hS1 => kk _ (show mR (fU g 0 (fU (g 0) 4 x)) (fU z 114 x) from mR_set (j := 114) hM rfl (by decide)) H1 locs1 (by rw [gP_fU] at hR1; exact hR1) hS1)
theorem zgn_X4_4 {k index : Nat} {host : String} (C : gC X own cc ret nL p s m args meth c) (hk : k < 7) (hM : mR g z) (hR : gRep X (fU mem k g) H) (hlink : (own, index, "FarBanks$Machine", "place", "I", host) ∈ gNf) (hdg : decode cc pc = .ok (.getfield index, 3)) (kk : W p l e R s m args below meth c H locs cells slots Q (F0 m (pc + 3) ls (.int (nI (z 114)) :: rest))) : W p l e R s m args below meth c H locs cells slots Q (F0 m pc ls (.ref (gAd X k 0) :: rest)) := gn_X4_4 C hk hR hlink hdg (by rw [fU_s, show g 0 4 = z 114 from hM.1 114 rfl]; exact kk)
theorem zpn_X4_4 {k index x : Nat} {host : String} (C : gC X own cc ret nL p s m args meth c) (hk : k < 7) (hM : mR g z) (hR : gRep X (fU mem k g) H) (hS : va_S (gA X) s.heap H locs) (hlink : (own, index, "FarBanks$Machine", "place", "I", host) ∈ gNf) (hdg : decode cc pc = .ok (.putfield index, 3)) (kk : ∀ (g1 : Nat → Nat → Nat), mR g1 (fU z 114 x) → ∀ (H1 : Heap) (locs1 : List Loc), gRep X (fU mem k g1) H1 → va_S (gA X) s.heap H1 locs1 → W p l e R s m args below meth c H1 locs1 cells slots Q (F0 m (pc + 3) ls rest)) : W p l e R s m args below meth c H locs cells slots Q (F0 m pc ls (.int (nI x) :: .ref (gAd X k 0) :: rest)) := pn_X4_4 C hk hR hS hlink hdg (fun H1 locs1 hR1 hS1 => kk _ (show mR (fU g 0 (fU (g 0) 4 x)) (fU z 114 x) from mR_set (j := 114) hM rfl (by decide)) H1 locs1 (by rw [gP_fU] at hR1; exact hR1) hS1)
theorem zgt_X4_5 {k index : Nat} (C : gC X own cc ret nL p s m args meth c) (hk : k < 7) (hM : mR g z) (hR : gRep X (fU mem k g) H) (hlink : Cond.fieldLink own index "FarBanks$Machine" "reason" "I" ∈ wA) (hdg : decode cc pc = .ok (.getfield index, 3)) (kk : W p l e R s m args below meth c H locs cells slots Q (F0 m (pc + 3) ls (.int (nI (z 115)) :: rest))) : W p l e R s m args below meth c H locs cells slots Q (F0 m pc ls (.ref (gAd X k 0) :: rest)) := gt_X4_5 C hk hR hlink hdg (by rw [fU_s, show g 0 5 = z 115 from hM.1 115 rfl]; exact kk)
theorem zpt_X4_5 {k index x : Nat} (C : gC X own cc ret nL p s m args meth c) (hk : k < 7) (hM : mR g z) (hR : gRep X (fU mem k g) H) (hS : va_S (gA X) s.heap H locs) (hlink : Cond.fieldLink own index "FarBanks$Machine" "reason" "I" ∈ wA) (hdg : decode cc pc = .ok (.putfield index, 3)) (kk : ∀ (g1 : Nat → Nat → Nat), mR g1 (fU z 115 x) → ∀ (H1 : Heap) (locs1 : List Loc), gRep X (fU mem k g1) H1 → va_S (gA X) s.heap H1 locs1 → W p l e R s m args below meth c H1 locs1 cells slots Q (F0 m (pc + 3) ls rest)) : W p l e R s m args below meth c H locs cells slots Q (F0 m pc ls (.int (nI x) :: .ref (gAd X k 0) :: rest)) := pt_X4_5 C hk hR hS hlink hdg (fun H1 locs1 hR1 hS1 => kk _ (show mR (fU g 0 (fU (g 0) 5 x)) (fU z 115 x) from mR_set (j := 115) hM rfl (by decide)) H1 locs1 (by rw [gP_fU] at hR1; exact hR1) hS1)
theorem zgn_X4_5 {k index : Nat} {host : String} (C : gC X own cc ret nL p s m args meth c) (hk : k < 7) (hM : mR g z) (hR : gRep X (fU mem k g) H) (hlink : (own, index, "FarBanks$Machine", "reason", "I", host) ∈ gNf) (hdg : decode cc pc = .ok (.getfield index, 3)) (kk : W p l e R s m args below meth c H locs cells slots Q (F0 m (pc + 3) ls (.int (nI (z 115)) :: rest))) : W p l e R s m args below meth c H locs cells slots Q (F0 m pc ls (.ref (gAd X k 0) :: rest)) := gn_X4_5 C hk hR hlink hdg (by rw [fU_s, show g 0 5 = z 115 from hM.1 115 rfl]; exact kk)
theorem zpn_X4_5 {k index x : Nat} {host : String} (C : gC X own cc ret nL p s m args meth c) (hk : k < 7) (hM : mR g z) (hR : gRep X (fU mem k g) H) (hS : va_S (gA X) s.heap H locs) (hlink : (own, index, "FarBanks$Machine", "reason", "I", host) ∈ gNf) (hdg : decode cc pc = .ok (.putfield index, 3)) (kk : ∀ (g1 : Nat → Nat → Nat), mR g1 (fU z 115 x) → ∀ (H1 : Heap) (locs1 : List Loc), gRep X (fU mem k g1) H1 → va_S (gA X) s.heap H1 locs1 → W p l e R s m args below meth c H1 locs1 cells slots Q (F0 m (pc + 3) ls rest)) : W p l e R s m args below meth c H locs cells slots Q (F0 m pc ls (.int (nI x) :: .ref (gAd X k 0) :: rest)) := pn_X4_5 C hk hR hS hlink hdg (fun H1 locs1 hR1 hS1 => kk _ (show mR (fU g 0 (fU (g 0) 5 x)) (fU z 115 x) from mR_set (j := 115) hM rfl (by decide)) H1 locs1 (by rw [gP_fU] at hR1; exact hR1) hS1)
theorem zgt_X4_6 {k index : Nat} (C : gC X own cc ret nL p s m args meth c) (hk : k < 7) (hM : mR g z) (hR : gRep X (fU mem k g) H) (hlink : Cond.fieldLink own index "FarBanks$Machine" "strict" "I" ∈ wA) (hdg : decode cc pc = .ok (.getfield index, 3)) (kk : W p l e R s m args below meth c H locs cells slots Q (F0 m (pc + 3) ls (.int (nI (z 112)) :: rest))) : W p l e R s m args below meth c H locs cells slots Q (F0 m pc ls (.ref (gAd X k 0) :: rest)) := gt_X4_6 C hk hR hlink hdg (by rw [fU_s, show g 0 6 = z 112 from hM.1 112 rfl]; exact kk)
theorem zpt_X4_6 {k index x : Nat} (C : gC X own cc ret nL p s m args meth c) (hk : k < 7) (hM : mR g z) (hR : gRep X (fU mem k g) H) (hS : va_S (gA X) s.heap H locs) (hlink : Cond.fieldLink own index "FarBanks$Machine" "strict" "I" ∈ wA) (hdg : decode cc pc = .ok (.putfield index, 3)) (kk : ∀ (g1 : Nat → Nat → Nat), mR g1 (fU z 112 x) → ∀ (H1 : Heap) (locs1 : List Loc), gRep X (fU mem k g1) H1 → va_S (gA X) s.heap H1 locs1 → W p l e R s m args below meth c H1 locs1 cells slots Q (F0 m (pc + 3) ls rest)) : W p l e R s m args below meth c H locs cells slots Q (F0 m pc ls (.int (nI x) :: .ref (gAd X k 0) :: rest)) := pt_X4_6 C hk hR hS hlink hdg (fun H1 locs1 hR1 hS1 => kk _ (show mR (fU g 0 (fU (g 0) 6 x)) (fU z 112 x) from mR_set (j := 112) hM rfl (by decide)) H1 locs1 (by rw [gP_fU] at hR1; exact hR1) hS1)
theorem zgn_X4_6 {k index : Nat} {host : String} (C : gC X own cc ret nL p s m args meth c) (hk : k < 7) (hM : mR g z) (hR : gRep X (fU mem k g) H) (hlink : (own, index, "FarBanks$Machine", "strict", "I", host) ∈ gNf) (hdg : decode cc pc = .ok (.getfield index, 3)) (kk : W p l e R s m args below meth c H locs cells slots Q (F0 m (pc + 3) ls (.int (nI (z 112)) :: rest))) : W p l e R s m args below meth c H locs cells slots Q (F0 m pc ls (.ref (gAd X k 0) :: rest)) := gn_X4_6 C hk hR hlink hdg (by rw [fU_s, show g 0 6 = z 112 from hM.1 112 rfl]; exact kk)
theorem zpn_X4_6 {k index x : Nat} {host : String} (C : gC X own cc ret nL p s m args meth c) (hk : k < 7) (hM : mR g z) (hR : gRep X (fU mem k g) H) (hS : va_S (gA X) s.heap H locs) (hlink : (own, index, "FarBanks$Machine", "strict", "I", host) ∈ gNf) (hdg : decode cc pc = .ok (.putfield index, 3)) (kk : ∀ (g1 : Nat → Nat → Nat), mR g1 (fU z 112 x) → ∀ (H1 : Heap) (locs1 : List Loc), gRep X (fU mem k g1) H1 → va_S (gA X) s.heap H1 locs1 → W p l e R s m args below meth c H1 locs1 cells slots Q (F0 m (pc + 3) ls rest)) : W p l e R s m args below meth c H locs cells slots Q (F0 m pc ls (.int (nI x) :: .ref (gAd X k 0) :: rest)) := pn_X4_6 C hk hR hS hlink hdg (fun H1 locs1 hR1 hS1 => kk _ (show mR (fU g 0 (fU (g 0) 6 x)) (fU z 112 x) from mR_set (j := 112) hM rfl (by decide)) H1 locs1 (by rw [gP_fU] at hR1; exact hR1) hS1)
theorem zgt_X4_7 {k index : Nat} (C : gC X own cc ret nL p s m args meth c) (hk : k < 7) (hM : mR g z) (hR : gRep X (fU mem k g) H) (hlink : Cond.fieldLink own index "FarBanks$Machine" "calls" "I" ∈ wA) (hdg : decode cc pc = .ok (.getfield index, 3)) (kk : W p l e R s m args below meth c H locs cells slots Q (F0 m (pc + 3) ls (.int (nI (z 179)) :: rest))) : W p l e R s m args below meth c H locs cells slots Q (F0 m pc ls (.ref (gAd X k 0) :: rest)) := gt_X4_7 C hk hR hlink hdg (by rw [fU_s, show g 0 7 = z 179 from hM.1 179 rfl]; exact kk)
theorem zpt_X4_7 {k index x : Nat} (C : gC X own cc ret nL p s m args meth c) (hk : k < 7) (hM : mR g z) (hR : gRep X (fU mem k g) H) (hS : va_S (gA X) s.heap H locs) (hlink : Cond.fieldLink own index "FarBanks$Machine" "calls" "I" ∈ wA) (hdg : decode cc pc = .ok (.putfield index, 3)) (kk : ∀ (g1 : Nat → Nat → Nat), mR g1 (fU z 179 x) → ∀ (H1 : Heap) (locs1 : List Loc), gRep X (fU mem k g1) H1 → va_S (gA X) s.heap H1 locs1 → W p l e R s m args below meth c H1 locs1 cells slots Q (F0 m (pc + 3) ls rest)) : W p l e R s m args below meth c H locs cells slots Q (F0 m pc ls (.int (nI x) :: .ref (gAd X k 0) :: rest)) := pt_X4_7 C hk hR hS hlink hdg (fun H1 locs1 hR1 hS1 => kk _ (show mR (fU g 0 (fU (g 0) 7 x)) (fU z 179 x) from mR_set (j := 179) hM rfl (by decide)) H1 locs1 (by rw [gP_fU] at hR1; exact hR1) hS1)
theorem zgn_X4_7 {k index : Nat} {host : String} (C : gC X own cc ret nL p s m args meth c) (hk : k < 7) (hM : mR g z) (hR : gRep X (fU mem k g) H) (hlink : (own, index, "FarBanks$Machine", "calls", "I", host) ∈ gNf) (hdg : decode cc pc = .ok (.getfield index, 3)) (kk : W p l e R s m args below meth c H locs cells slots Q (F0 m (pc + 3) ls (.int (nI (z 179)) :: rest))) : W p l e R s m args below meth c H locs cells slots Q (F0 m pc ls (.ref (gAd X k 0) :: rest)) := gn_X4_7 C hk hR hlink hdg (by rw [fU_s, show g 0 7 = z 179 from hM.1 179 rfl]; exact kk)
theorem zpn_X4_7 {k index x : Nat} {host : String} (C : gC X own cc ret nL p s m args meth c) (hk : k < 7) (hM : mR g z) (hR : gRep X (fU mem k g) H) (hS : va_S (gA X) s.heap H locs) (hlink : (own, index, "FarBanks$Machine", "calls", "I", host) ∈ gNf) (hdg : decode cc pc = .ok (.putfield index, 3)) (kk : ∀ (g1 : Nat → Nat → Nat), mR g1 (fU z 179 x) → ∀ (H1 : Heap) (locs1 : List Loc), gRep X (fU mem k g1) H1 → va_S (gA X) s.heap H1 locs1 → W p l e R s m args below meth c H1 locs1 cells slots Q (F0 m (pc + 3) ls rest)) : W p l e R s m args below meth c H locs cells slots Q (F0 m pc ls (.int (nI x) :: .ref (gAd X k 0) :: rest)) := pn_X4_7 C hk hR hS hlink hdg (fun H1 locs1 hR1 hS1 => kk _ (show mR (fU g 0 (fU (g 0) 7 x)) (fU z 179 x) from mR_set (j := 179) hM rfl (by decide)) H1 locs1 (by rw [gP_fU] at hR1; exact hR1) hS1)
theorem zgt_X2_1 {k index : Nat} (C : gC X own cc ret nL p s m args meth c) (hk : k < 7) (hM : mR g z) (hR : gRep X (fU mem k g) H) (hlink : Cond.fieldLink own index "FarBanks$Frames" "size" "I" ∈ wA) (hdg : decode cc pc = .ok (.getfield index, 3)) (kk : W p l e R s m args below meth c H locs cells slots Q (F0 m (pc + 3) ls (.int (nI (z 116)) :: rest))) : W p l e R s m args below meth c H locs cells slots Q (F0 m pc ls (.ref (gAd X k 12) :: rest)) := gt_X2_1 C hk hR hlink hdg (by rw [fU_s, show g 12 1 = z 116 from hM.1 116 rfl]; exact kk)
theorem zpt_X2_1 {k index x : Nat} (C : gC X own cc ret nL p s m args meth c) (hk : k < 7) (hM : mR g z) (hR : gRep X (fU mem k g) H) (hS : va_S (gA X) s.heap H locs) (hlink : Cond.fieldLink own index "FarBanks$Frames" "size" "I" ∈ wA) (hdg : decode cc pc = .ok (.putfield index, 3)) (kk : ∀ (g1 : Nat → Nat → Nat), mR g1 (fU z 116 x) → ∀ (H1 : Heap) (locs1 : List Loc), gRep X (fU mem k g1) H1 → va_S (gA X) s.heap H1 locs1 → W p l e R s m args below meth c H1 locs1 cells slots Q (F0 m (pc + 3) ls rest)) : W p l e R s m args below meth c H locs cells slots Q (F0 m pc ls (.int (nI x) :: .ref (gAd X k 12) :: rest)) := pt_X2_1 C hk hR hS hlink hdg (fun H1 locs1 hR1 hS1 => kk _ (show mR (fU g 12 (fU (g 12) 1 x)) (fU z 116 x) from mR_set (j := 116) hM rfl (by decide)) H1 locs1 (by rw [gP_fU] at hR1; exact hR1) hS1)
theorem zgn_X2_1 {k index : Nat} {host : String} (C : gC X own cc ret nL p s m args meth c) (hk : k < 7) (hM : mR g z) (hR : gRep X (fU mem k g) H) (hlink : (own, index, "FarBanks$Frames", "size", "I", host) ∈ gNf) (hdg : decode cc pc = .ok (.getfield index, 3)) (kk : W p l e R s m args below meth c H locs cells slots Q (F0 m (pc + 3) ls (.int (nI (z 116)) :: rest))) : W p l e R s m args below meth c H locs cells slots Q (F0 m pc ls (.ref (gAd X k 12) :: rest)) := gn_X2_1 C hk hR hlink hdg (by rw [fU_s, show g 12 1 = z 116 from hM.1 116 rfl]; exact kk)
theorem zpn_X2_1 {k index x : Nat} {host : String} (C : gC X own cc ret nL p s m args meth c) (hk : k < 7) (hM : mR g z) (hR : gRep X (fU mem k g) H) (hS : va_S (gA X) s.heap H locs) (hlink : (own, index, "FarBanks$Frames", "size", "I", host) ∈ gNf) (hdg : decode cc pc = .ok (.putfield index, 3)) (kk : ∀ (g1 : Nat → Nat → Nat), mR g1 (fU z 116 x) → ∀ (H1 : Heap) (locs1 : List Loc), gRep X (fU mem k g1) H1 → va_S (gA X) s.heap H1 locs1 → W p l e R s m args below meth c H1 locs1 cells slots Q (F0 m (pc + 3) ls rest)) : W p l e R s m args below meth c H locs cells slots Q (F0 m pc ls (.int (nI x) :: .ref (gAd X k 12) :: rest)) := pn_X2_1 C hk hR hS hlink hdg (fun H1 locs1 hR1 hS1 => kk _ (show mR (fU g 12 (fU (g 12) 1 x)) (fU z 116 x) from mR_set (j := 116) hM rfl (by decide)) H1 locs1 (by rw [gP_fU] at hR1; exact hR1) hS1)
theorem zgt_X7_1 {k index : Nat} (C : gC X own cc ret nL p s m args meth c) (hk : k < 7) (hM : mR g z) (hR : gRep X (fU mem k g) H) (hlink : Cond.fieldLink own index "FarBanks$Trail" "total" "I" ∈ wA) (hdg : decode cc pc = .ok (.getfield index, 3)) (kk : W p l e R s m args below meth c H locs cells slots Q (F0 m (pc + 3) ls (.int (nI (z 178)) :: rest))) : W p l e R s m args below meth c H locs cells slots Q (F0 m pc ls (.ref (gAd X k 15) :: rest)) := gt_X7_1 C hk hR hlink hdg (by rw [fU_s, show g 15 1 = z 178 from hM.1 178 rfl]; exact kk)
theorem zgn_X7_1 {k index : Nat} {host : String} (C : gC X own cc ret nL p s m args meth c) (hk : k < 7) (hM : mR g z) (hR : gRep X (fU mem k g) H) (hlink : (own, index, "FarBanks$Trail", "total", "I", host) ∈ gNf) (hdg : decode cc pc = .ok (.getfield index, 3)) (kk : W p l e R s m args below meth c H locs cells slots Q (F0 m (pc + 3) ls (.int (nI (z 178)) :: rest))) : W p l e R s m args below meth c H locs cells slots Q (F0 m pc ls (.ref (gAd X k 15) :: rest)) := gn_X7_1 C hk hR hlink hdg (by rw [fU_s, show g 15 1 = z 178 from hM.1 178 rfl]; exact kk)
theorem g_callKi {k3 k o index fr2 lo2 nL2 n : Nat} {x : Int32} {mem2 : gM} {z2 : Nat → Nat} {y : MethodName} {cc2 : ByteArray} {ret2 : Option FieldType} {As st0 : List Value} (C : gC X own cc ret nL p s m args meth c) (hz : ls.size = nL) (hR : gRep X mem H) (hS : va_S (gA X) s.heap H locs) (hrc : gRc k o y.cls) (md : gMd y cc2 nL2 ret2 n) (hlink : Cond.methodLink own index y ∈ wA) (hM : gMt l y cc2 nL2 ret2 fr2 lo2 X (.ref (gAd X k o) :: As) mem (mP mem2 k3 z2 (some (.int x)))) (hn : As.length = n) (hst : st0 = As.reverse ++ .ref (gAd X k o) :: rest) (hroom : fr2 + 1 ≤ R.frames ∧ 8 + (nL2 + 11) + lo2 ≤ R.locals) (hf : cells ≤ R.cells ∧ slots ≤ R.slots) (hw : (rest.map fun v => v.category).sum ≤ 8) (hdg : decode cc pc = .ok (.invokevirtual index, 3)) (kk : ∀ (g1 : Nat → Nat → Nat), mR g1 z2 → ∀ (H1 : Heap) (locs1 : List Loc), gRep X (fU mem2 k3 g1) H1 → va_S (gA X) s.heap H1 locs1 → W p l e R s m args below meth c H1 locs1 cells slots Q (F0 m (pc + 3) ls (.int x :: rest))) : W p l e R s m args below meth c H locs cells slots Q (F0 m pc ls st0) := g_callV C hz hR hS hrc md hlink hM hn hst hroom hf hw hdg (fun v mem9 H1 locs1 hp hR1 hS1 => by
  obtain ⟨rfl, g1, rfl, h1⟩ := hp
  exact kk g1 h1 H1 locs1 hR1 hS1)
theorem g_callKv {k3 k o index fr2 lo2 nL2 n : Nat} {mem2 : gM} {z2 : Nat → Nat} {y : MethodName} {cc2 : ByteArray} {ret2 : Option FieldType} {As st0 : List Value} (C : gC X own cc ret nL p s m args meth c) (hz : ls.size = nL) (hR : gRep X mem H) (hS : va_S (gA X) s.heap H locs) (hrc : gRc k o y.cls) (md : gMd y cc2 nL2 ret2 n) (hlink : Cond.methodLink own index y ∈ wA) (hM : gMt l y cc2 nL2 ret2 fr2 lo2 X (.ref (gAd X k o) :: As) mem (mP mem2 k3 z2 none)) (hn : As.length = n) (hst : st0 = As.reverse ++ .ref (gAd X k o) :: rest) (hroom : fr2 + 1 ≤ R.frames ∧ 8 + (nL2 + 11) + lo2 ≤ R.locals) (hf : cells ≤ R.cells ∧ slots ≤ R.slots) (hw : (rest.map fun v => v.category).sum ≤ 8) (hdg : decode cc pc = .ok (.invokevirtual index, 3)) (kk : ∀ (g1 : Nat → Nat → Nat), mR g1 z2 → ∀ (H1 : Heap) (locs1 : List Loc), gRep X (fU mem2 k3 g1) H1 → va_S (gA X) s.heap H1 locs1 → W p l e R s m args below meth c H1 locs1 cells slots Q (F0 m (pc + 3) ls (rest))) : W p l e R s m args below meth c H locs cells slots Q (F0 m pc ls st0) := g_callV C hz hR hS hrc md hlink hM hn hst hroom hf hw hdg (fun v mem9 H1 locs1 hp hR1 hS1 => by
  obtain ⟨rfl, g1, rfl, h1⟩ := hp
  exact kk g1 h1 H1 locs1 hR1 hS1)
end GM
/-- Row.read at a Machine's row -/
theorem c_zr (l : Launch) {X : gX} (hI : gInj X) {mem : gM} {k o a n b i : Nat} {g : Nat → Nat → Nat} {z : Nat → Nat} (hM : mR g z) (hw : gRow k o a n) (hb : mB a n b) (hi : i < n) : gF l yX5_read cX5_read 2 (some .int) 0 0 X [.ref (gAd X k o), .int (nI i)] (fU mem k g) (some (.int (nI (z (b + i))))) (fU mem k g) := by
  have h := c_X5_read l hI (mem := fU mem k g) hw hi
  rw [fU_s, mR_arr hM hb hi] at h
  exact h
theorem c_zw (l : Launch) {X : gX} (hI : gInj X) {mem : gM} {k o a n b i x : Nat} {g : Nat → Nat → Nat} {z : Nat → Nat} (hM : mR g z) (hw : gRow k o a n) (hb : mB a n b) (hi : i < n) : gMt l yX5_write cX5_write 3 none 0 0 X [.ref (gAd X k o), .int (nI i), .int (nI x)] (fU mem k g) (mP mem k (fU z (b + i) x) none) := by
  refine gMt.mono (c_X5_write l hI (mem := fU mem k g) hw hi) ?_
  rintro v m9 ⟨rfl, rfl⟩
  exact ⟨rfl, _, gP_fU _ _ _ _ _ _, mR_put hM hb hi⟩
end
section
/-! ===== Banks ===== -/
set_option maxRecDepth 100000 in
set_option maxHeartbeats 4000000 in
/-- indexOf -/
theorem c_X0_indexOf (l : Launch) {X : gX} (hI : gInj X) {mem : gM} {b c9 : Nat} (hb : b < 8) (hc : c9 < 16) : gF l yX0_indexOf cX0_indexOf 2 (some .int) 0 0 X [.int (nI b), .int (nI c9)] mem (some (.int (nI (zIx b c9)))) mem := by
  refine gMt.of (own := RX0) (by decide) rfl hI (by simp [Value.category]) (Nat.le_of_ble_eq_true rfl) ?_
  intro p e s m args below meth c ls H locs C hnm hl hR hS
  refine g_iload_n C hl dX0_indexOf_0 rfl ?_
  refine g_bipush 12 C dX0_indexOf_1 (by decide) ?_
  refine g_icmp_ge (tgt := 15) C dX0_indexOf_3 (by decide) (by omega) (by omega) (fun c3 => ?_) (fun c3 => ?_)
  · -- 3 T
    refine g_bipush 96 C dX0_indexOf_15 (by decide) ?_
    refine g_iload_n C hl dX0_indexOf_17 rfl ?_
    refine g_iadd C dX0_indexOf_18 ?_
    refine g_bipush 12 C dX0_indexOf_19 (by decide) ?_
    refine g_isub C dX0_indexOf_21 (by omega) ?_
    refine g_iret C hR hS dX0_indexOf_22 ?_
    refine ⟨?_, rfl⟩
    unfold zIx
    rw [if_neg (by omega), show 96 + c9 - 12 = 84 + c9 by omega]
  · -- 3 F
    refine g_iload_n C hl dX0_indexOf_6 rfl ?_
    refine g_bipush 12 C dX0_indexOf_7 (by decide) ?_
    refine g_imul C dX0_indexOf_9 ?_
    refine g_iload_n C hl dX0_indexOf_10 rfl ?_
    refine g_iadd C dX0_indexOf_11 ?_
    refine g_goto (tgt := 22) C dX0_indexOf_12 (by decide) ?_
    refine g_iret C hR hS dX0_indexOf_22 ?_
    refine ⟨?_, rfl⟩
    unfold zIx
    rw [if_pos (by omega), Nat.mul_comm]
set_option maxRecDepth 100000 in
set_option maxHeartbeats 4000000 in
/-- numberIn -/
theorem c_X0_numberIn (l : Launch) {X : gX} (hI : gInj X) {mem : gM} {k : Nat} (hk : k < 7) {g : Nat → Nat → Nat} {z : Nat → Nat} (hM : mR g z) {b c9 : Nat} (hb : b < 8) (hc : c9 < 16) : gF l yX0_numberIn cX0_numberIn 3 (some .int) 1 21 X [.ref (gAd X k 1), .int (nI b), .int (nI c9)] (fU mem k g) (some (.int (nI (z (zIx b c9))))) (fU mem k g) := by
  refine gMt.of (own := RX0) (by decide) rfl hI (by simp [Value.category]) (Nat.le_of_ble_eq_true rfl) ?_
  intro p e s m args below meth c ls H locs C hnm hl hR hS
  refine g_aload_n C hl dX0_numberIn_0 rfl ?_
  refine gt_X0_0 C hk hR fl_X0_14 dX0_numberIn_1 ?_
  refine g_iload_n C hl dX0_numberIn_4 rfl ?_
  refine g_iload_n C hl dX0_numberIn_5 rfl ?_
  refine g_callSi C hl.1 hR hS md_X0_indexOf ml_X0_40 (c_X0_indexOf l hI hb hc) rfl rfl ⟨Nat.le_of_ble_eq_true rfl, Nat.le_of_ble_eq_true rfl⟩ ⟨Nat.le_refl _, Nat.le_refl _⟩ (Nat.le_of_ble_eq_true rfl) dX0_numberIn_6 (fun H locs hR hS => ?_)
  refine g_callVi C hl.1 hR hS (rc_X5 (gRow_2 hk)) md_X5_read ml_X0_44 (c_zr l hI hM (gRow_2 hk) mB_3 (zIx_lt hb hc)) rfl rfl ⟨Nat.le_of_ble_eq_true rfl, Nat.le_of_ble_eq_true rfl⟩ ⟨Nat.le_refl _, Nat.le_refl _⟩ (Nat.le_of_ble_eq_true rfl) dX0_numberIn_9 (fun H locs hR hS => ?_)
  rw [Nat.zero_add (zIx b c9)]
  refine g_iret C hR hS dX0_numberIn_12 ?_
  exact ⟨rfl, rfl⟩
set_option maxRecDepth 100000 in
set_option maxHeartbeats 4000000 in
/-- fill -/
theorem c_X0_fill (l : Launch) {X : gX} (hI : gInj X) {mem : gM} {k : Nat} (hk : k < 7) {g : Nat → Nat → Nat} {z : Nat → Nat} (hM : mR g z) {b c9 : Nat} (hb : b < 8) (hc : c9 < 16) {x : Nat} : gMt l yX0_fill cX0_fill 4 none 1 22 X [.ref (gAd X k 1), .int (nI b), .int (nI c9), .int (nI x)] (fU mem k g) (mP mem k (fU z (zIx b c9) x) none) := by
  refine gMt.of (own := RX0) (by decide) rfl hI (by simp [Value.category]) (Nat.le_of_ble_eq_true rfl) ?_
  intro p e s m args below meth c ls H locs C hnm hl hR hS
  refine g_aload_n C hl dX0_fill_0 rfl ?_
  refine gt_X0_0 C hk hR fl_X0_14 dX0_fill_1 ?_
  refine g_iload_n C hl dX0_fill_4 rfl ?_
  refine g_iload_n C hl dX0_fill_5 rfl ?_
  refine g_callSi C hl.1 hR hS md_X0_indexOf ml_X0_40 (c_X0_indexOf l hI hb hc) rfl rfl ⟨Nat.le_of_ble_eq_true rfl, Nat.le_of_ble_eq_true rfl⟩ ⟨Nat.le_refl _, Nat.le_refl _⟩ (Nat.le_of_ble_eq_true rfl) dX0_fill_6 (fun H locs hR hS => ?_)
  refine g_iload_n C hl dX0_fill_9 rfl ?_
  refine g_callKv C hl.1 hR hS (rc_X5 (gRow_2 hk)) md_X5_write ml_X0_32 (c_zw l hI hM (gRow_2 hk) mB_3 (zIx_lt hb hc)) rfl rfl ⟨Nat.le_of_ble_eq_true rfl, Nat.le_of_ble_eq_true rfl⟩ ⟨Nat.le_refl _, Nat.le_refl _⟩ (Nat.le_of_ble_eq_true rfl) dX0_fill_10 (fun g hM H locs hR hS => ?_)
  rw [Nat.zero_add] at hM
  refine g_vret C hR hS dX0_fill_13 ?_
  exact ⟨rfl, _, rfl, hM⟩
set_option maxRecDepth 100000 in
set_option maxHeartbeats 4000000 in
/-- bankAt -/
theorem c_X0_bankAt (l : Launch) {X : gX} (hI : gInj X) {mem : gM} {k : Nat} (hk : k < 7) {g : Nat → Nat → Nat} {z : Nat → Nat} (hM : mR g z) {a : Nat} (ha : a < 64) : gF l yX0_bankAt cX0_bankAt 2 (some .int) 1 21 X [.ref (gAd X k 1), .int (nI a)] (fU mem k g) (some (.int (nI (zBk z a)))) (fU mem k g) := by
  refine gMt.of (own := RX0) (by decide) rfl hI (by simp [Value.category]) (Nat.le_of_ble_eq_true rfl) ?_
  intro p e s m args below meth c ls H locs C hnm hl hR hS
  refine g_aload_n C hl dX0_bankAt_0 rfl ?_
  refine gt_X0_2 C hk hR fl_X0_23 dX0_bankAt_1 ?_
  refine g_iload_n C hl dX0_bankAt_4 rfl ?_
  refine g_bipush 16 C dX0_bankAt_5 (by decide) ?_
  refine g_idiv C dX0_bankAt_7 (by omega) (by decide) (by decide) ?_
  refine g_callVi C hl.1 hR hS (rc_X5 (gRow_6 hk)) md_X5_read ml_X0_44 (c_zr l hI hM (gRow_6 hk) mB_7 (by omega)) rfl rfl ⟨Nat.le_of_ble_eq_true rfl, Nat.le_of_ble_eq_true rfl⟩ ⟨Nat.le_refl _, Nat.le_refl _⟩ (Nat.le_of_ble_eq_true rfl) dX0_bankAt_8 (fun H locs hR hS => ?_)
  refine g_iret C hR hS dX0_bankAt_11 ?_
  exact ⟨rfl, rfl⟩
set_option maxRecDepth 100000 in
set_option maxHeartbeats 4000000 in
/-- numberAt -/
theorem c_X0_numberAt (l : Launch) {X : gX} (hI : gInj X) {mem : gM} {k : Nat} (hk : k < 7) {g : Nat → Nat → Nat} {z : Nat → Nat} (hM : mR g z) (hz : zI z) {a : Nat} (ha : a < 64) : gF l yX0_numberAt cX0_numberAt 2 (some .int) 2 43 X [.ref (gAd X k 1), .int (nI a)] (fU mem k g) (some (.int (nI (z (zAt z a))))) (fU mem k g) := by
  refine gMt.of (own := RX0) (by decide) rfl hI (by simp [Value.category]) (Nat.le_of_ble_eq_true rfl) ?_
  intro p e s m args below meth c ls H locs C hnm hl hR hS
  refine g_aload_n C hl dX0_numberAt_0 rfl ?_
  refine g_aload_n C hl dX0_numberAt_1 rfl ?_
  refine g_iload_n C hl dX0_numberAt_2 rfl ?_
  refine g_callVi C hl.1 hR hS (rc_X0 hk) md_X0_bankAt ml_X0_48 (c_X0_bankAt l hI hk hM ha) rfl rfl ⟨Nat.le_of_ble_eq_true rfl, Nat.le_of_ble_eq_true rfl⟩ ⟨Nat.le_refl _, Nat.le_refl _⟩ (Nat.le_of_ble_eq_true rfl) dX0_numberAt_3 (fun H locs hR hS => ?_)
  refine g_iload_n C hl dX0_numberAt_6 rfl ?_
  refine g_bipush 16 C dX0_numberAt_7 (by decide) ?_
  refine g_irem C dX0_numberAt_9 (by omega) (by decide) (by decide) ?_
  refine g_callVi C hl.1 hR hS (rc_X0 hk) md_X0_numberIn ml_X0_51 (c_X0_numberIn l hI hk hM (hz.bk ha) (Nat.mod_lt _ (by decide))) rfl rfl ⟨Nat.le_of_ble_eq_true rfl, Nat.le_of_ble_eq_true rfl⟩ ⟨Nat.le_refl _, Nat.le_refl _⟩ (Nat.le_of_ble_eq_true rfl) dX0_numberAt_10 (fun H locs hR hS => ?_)
  refine g_iret C hR hS dX0_numberAt_13 ?_
  exact ⟨rfl, rfl⟩
set_option maxRecDepth 100000 in
set_option maxHeartbeats 4000000 in
/-- isAlone -/
theorem c_X0_isAlone (l : Launch) {X : gX} (hI : gInj X) {mem : gM} {k : Nat} (hk : k < 7) {g : Nat → Nat → Nat} {z : Nat → Nat} (hM : mR g z) (hz : zI z) {b : Nat} (hb : b < 8) : gF l yX0_isAlone cX0_isAlone 2 (some .boolean) 1 21 X [.ref (gAd X k 1), .int (nI b)] (fU mem k g) (some (.int (nI (z (104 + b))))) (fU mem k g) := by
  refine gMt.of (own := RX0) (by decide) rfl hI (by simp [Value.category]) (Nat.le_of_ble_eq_true rfl) ?_
  intro p e s m args below meth c ls H locs C hnm hl hR hS
  have h2 := hz.2.2.1 b hb
  refine g_aload_n C hl dX0_isAlone_0 rfl ?_
  refine gt_X0_1 C hk hR fl_X0_20 dX0_isAlone_1 ?_
  refine g_iload_n C hl dX0_isAlone_4 rfl ?_
  refine g_callVi C hl.1 hR hS (rc_X5 (gRow_4 hk)) md_X5_read ml_X0_44 (c_zr l hI hM (gRow_4 hk) mB_5 hb) rfl rfl ⟨Nat.le_of_ble_eq_true rfl, Nat.le_of_ble_eq_true rfl⟩ ⟨Nat.le_refl _, Nat.le_refl _⟩ (Nat.le_of_ble_eq_true rfl) dX0_isAlone_5 (fun H locs hR hS => ?_)
  refine g_iconst 1 C dX0_isAlone_8 (by decide) ?_
  refine g_icmp_ne (tgt := 16) C dX0_isAlone_9 (by decide) (by omega) (by omega) (fun c9 => ?_) (fun c9 => ?_)
  · -- 9 T
    refine g_iconst 0 C dX0_isAlone_16 (by decide) ?_
    refine g_zret C hR hS dX0_isAlone_17 rfl ?_
    exact ⟨by rw [show z (104 + b) = 0 by omega], rfl⟩
  · -- 9 F
    refine g_iconst 1 C dX0_isAlone_12 (by decide) ?_
    refine g_goto (tgt := 17) C dX0_isAlone_13 (by decide) ?_
    refine g_zret C hR hS dX0_isAlone_17 rfl ?_
    exact ⟨by rw [show z (104 + b) = 1 by omega], rfl⟩
set_option maxRecDepth 100000 in
set_option maxHeartbeats 4000000 in
/-- c_X0_store1 -/
theorem c_X0_store1 (l : Launch) {X : gX} (hI : gInj X) {mem : gM} {k : Nat} (hk : k < 7) {g : Nat → Nat → Nat} {z : Nat → Nat} (hM : mR g z) (hz : zI z) {a x : Nat} (ha : a < 64) (h1 : z (104 + zBk z a) = 1) : gMt l yX0_storeUnlessAlone cX0_storeUnlessAlone 4 (some .boolean) 2 45 X [.ref (gAd X k 1), .int (nI a), .int (nI x)] (fU mem k g) (mP mem k (fU z (190 + zBk z a) (z (190 + zBk z a) + 1)) (some (.int (nI 0)))) := by
  refine gMt.of (own := RX0) (by decide) rfl hI (by simp [Value.category]) (Nat.le_of_ble_eq_true rfl) ?_
  intro p e s m args below meth c ls H locs C hnm hl hR hS
  have hb := hz.bk ha
  refine g_aload_n C hl dX0_storeUnlessAlone_0 rfl ?_
  refine g_iload_n C hl dX0_storeUnlessAlone_1 rfl ?_
  refine g_callVi C hl.1 hR hS (rc_X0 hk) md_X0_bankAt ml_X0_48 (c_X0_bankAt l hI hk hM ha) rfl rfl ⟨Nat.le_of_ble_eq_true rfl, Nat.le_of_ble_eq_true rfl⟩ ⟨Nat.le_refl _, Nat.le_refl _⟩ (Nat.le_of_ble_eq_true rfl) dX0_storeUnlessAlone_2 (fun H locs hR hS => ?_)
  refine g_istore_n C hl dX0_storeUnlessAlone_5 (Nat.le_of_ble_eq_true rfl) (fun ls hl => ?_)
  refine g_aload_n C hl dX0_storeUnlessAlone_6 rfl ?_
  refine g_iload_n C hl dX0_storeUnlessAlone_7 rfl ?_
  refine g_callVi C hl.1 hR hS (rc_X0 hk) md_X0_isAlone ml_X0_54 (c_X0_isAlone l hI hk hM hz hb) rfl rfl ⟨Nat.le_of_ble_eq_true rfl, Nat.le_of_ble_eq_true rfl⟩ ⟨Nat.le_refl _, Nat.le_refl _⟩ (Nat.le_of_ble_eq_true rfl) dX0_storeUnlessAlone_8 (fun H locs hR hS => ?_)
  refine g_if_eq (tgt := 34) C dX0_storeUnlessAlone_11 (by decide) (by have := hz.2.2.1 _ hb; omega) (fun z9 => absurd z9 (by omega)) (fun c11 => ?_)
  refine g_aload_n C hl dX0_storeUnlessAlone_14 rfl ?_
  refine gt_X0_4 C hk hR fl_X0_29 dX0_storeUnlessAlone_15 ?_
  refine g_iload_n C hl dX0_storeUnlessAlone_18 rfl ?_
  refine g_aload_n C hl dX0_storeUnlessAlone_19 rfl ?_
  refine gt_X0_4 C hk hR fl_X0_29 dX0_storeUnlessAlone_20 ?_
  refine g_iload_n C hl dX0_storeUnlessAlone_23 rfl ?_
  refine g_callVi C hl.1 hR hS (rc_X5 (gRow_10 hk)) md_X5_read ml_X0_44 (c_zr l hI hM (gRow_10 hk) mB_11 hb) rfl rfl ⟨Nat.le_of_ble_eq_true rfl, Nat.le_of_ble_eq_true rfl⟩ ⟨Nat.le_refl _, Nat.le_refl _⟩ (Nat.le_of_ble_eq_true rfl) dX0_storeUnlessAlone_24 (fun H locs hR hS => ?_)
  refine g_iconst 1 C dX0_storeUnlessAlone_27 (by decide) ?_
  refine g_iadd C dX0_storeUnlessAlone_28 ?_
  refine g_callKv C hl.1 hR hS (rc_X5 (gRow_10 hk)) md_X5_write ml_X0_32 (c_zw l hI hM (gRow_10 hk) mB_11 hb) rfl rfl ⟨Nat.le_of_ble_eq_true rfl, Nat.le_of_ble_eq_true rfl⟩ ⟨Nat.le_refl _, Nat.le_refl _⟩ (Nat.le_of_ble_eq_true rfl) dX0_storeUnlessAlone_29 (fun g hM H locs hR hS => ?_)
  refine g_iconst 0 C dX0_storeUnlessAlone_32 (by decide) ?_
  refine g_zret C hR hS dX0_storeUnlessAlone_33 rfl ?_
  exact ⟨rfl, _, rfl, hM⟩
set_option maxRecDepth 100000 in
set_option maxHeartbeats 4000000 in
/-- c_X0_store0 -/
theorem c_X0_store0 (l : Launch) {X : gX} (hI : gInj X) {mem : gM} {k : Nat} (hk : k < 7) {g : Nat → Nat → Nat} {z : Nat → Nat} (hM : mR g z) (hz : zI z) {a x : Nat} (ha : a < 64) (h1 : z (104 + zBk z a) = 0) : gMt l yX0_storeUnlessAlone cX0_storeUnlessAlone 4 (some .boolean) 2 45 X [.ref (gAd X k 1), .int (nI a), .int (nI x)] (fU mem k g) (mP mem k (fU (fU z (zAt z a) x) (182 + zBk z a) (fU z (zAt z a) x (182 + zBk z a) + 1)) (some (.int (nI 1)))) := by
  refine gMt.of (own := RX0) (by decide) rfl hI (by simp [Value.category]) (Nat.le_of_ble_eq_true rfl) ?_
  intro p e s m args below meth c ls H locs C hnm hl hR hS
  have hb := hz.bk ha
  refine g_aload_n C hl dX0_storeUnlessAlone_0 rfl ?_
  refine g_iload_n C hl dX0_storeUnlessAlone_1 rfl ?_
  refine g_callVi C hl.1 hR hS (rc_X0 hk) md_X0_bankAt ml_X0_48 (c_X0_bankAt l hI hk hM ha) rfl rfl ⟨Nat.le_of_ble_eq_true rfl, Nat.le_of_ble_eq_true rfl⟩ ⟨Nat.le_refl _, Nat.le_refl _⟩ (Nat.le_of_ble_eq_true rfl) dX0_storeUnlessAlone_2 (fun H locs hR hS => ?_)
  refine g_istore_n C hl dX0_storeUnlessAlone_5 (Nat.le_of_ble_eq_true rfl) (fun ls hl => ?_)
  refine g_aload_n C hl dX0_storeUnlessAlone_6 rfl ?_
  refine g_iload_n C hl dX0_storeUnlessAlone_7 rfl ?_
  refine g_callVi C hl.1 hR hS (rc_X0 hk) md_X0_isAlone ml_X0_54 (c_X0_isAlone l hI hk hM hz hb) rfl rfl ⟨Nat.le_of_ble_eq_true rfl, Nat.le_of_ble_eq_true rfl⟩ ⟨Nat.le_refl _, Nat.le_refl _⟩ (Nat.le_of_ble_eq_true rfl) dX0_storeUnlessAlone_8 (fun H locs hR hS => ?_)
  refine g_if_eq (tgt := 34) C dX0_storeUnlessAlone_11 (by decide) (by have := hz.2.2.1 _ hb; omega) (fun c11 => ?_) (fun z9 => absurd z9 (by omega))
  refine g_aload_n C hl dX0_storeUnlessAlone_34 rfl ?_
  refine g_iload_n C hl dX0_storeUnlessAlone_35 rfl ?_
  refine g_iload_n C hl dX0_storeUnlessAlone_36 rfl ?_
  refine g_bipush 16 C dX0_storeUnlessAlone_37 (by decide) ?_
  refine g_irem C dX0_storeUnlessAlone_39 (by omega) (by decide) (by decide) ?_
  refine g_iload_n C hl dX0_storeUnlessAlone_40 rfl ?_
  refine g_callKv C hl.1 hR hS (rc_X0 hk) md_X0_fill ml_X0_58 (c_X0_fill l hI hk hM hb (Nat.mod_lt _ (by decide))) rfl rfl ⟨Nat.le_of_ble_eq_true rfl, Nat.le_of_ble_eq_true rfl⟩ ⟨Nat.le_refl _, Nat.le_refl _⟩ (Nat.le_of_ble_eq_true rfl) dX0_storeUnlessAlone_41 (fun g hM H locs hR hS => ?_)
  refine g_aload_n C hl dX0_storeUnlessAlone_44 rfl ?_
  refine gt_X0_3 C hk hR fl_X0_26 dX0_storeUnlessAlone_45 ?_
  refine g_iload_n C hl dX0_storeUnlessAlone_48 rfl ?_
  refine g_aload_n C hl dX0_storeUnlessAlone_49 rfl ?_
  refine gt_X0_3 C hk hR fl_X0_26 dX0_storeUnlessAlone_50 ?_
  refine g_iload_n C hl dX0_storeUnlessAlone_53 rfl ?_
  refine g_callVi C hl.1 hR hS (rc_X5 (gRow_8 hk)) md_X5_read ml_X0_44 (c_zr l hI hM (gRow_8 hk) mB_9 hb) rfl rfl ⟨Nat.le_of_ble_eq_true rfl, Nat.le_of_ble_eq_true rfl⟩ ⟨Nat.le_refl _, Nat.le_refl _⟩ (Nat.le_of_ble_eq_true rfl) dX0_storeUnlessAlone_54 (fun H locs hR hS => ?_)
  refine g_iconst 1 C dX0_storeUnlessAlone_57 (by decide) ?_
  refine g_iadd C dX0_storeUnlessAlone_58 ?_
  refine g_callKv C hl.1 hR hS (rc_X5 (gRow_8 hk)) md_X5_write ml_X0_32 (c_zw l hI hM (gRow_8 hk) mB_9 hb) rfl rfl ⟨Nat.le_of_ble_eq_true rfl, Nat.le_of_ble_eq_true rfl⟩ ⟨Nat.le_refl _, Nat.le_refl _⟩ (Nat.le_of_ble_eq_true rfl) dX0_storeUnlessAlone_59 (fun g hM H locs hR hS => ?_)
  refine g_iconst 1 C dX0_storeUnlessAlone_62 (by decide) ?_
  refine g_zret C hR hS dX0_storeUnlessAlone_63 rfl ?_
  exact ⟨rfl, _, rfl, hM⟩
set_option maxRecDepth 100000 in
set_option maxHeartbeats 4000000 in
/-- X0_differencesOf -/
theorem c_X0_differencesOf (l : Launch) {X : gX} (hI : gInj X) {mem : gM} {k : Nat} (hk : k < 7) {g : Nat → Nat → Nat} {z : Nat → Nat} (hM : mR g z) (hz : zI z) {fr9 to : Nat} (hf : fr9 < 8) (ht : to < 8) : gF l yX0_differencesOf cX0_differencesOf 5 (some .int) 2 43 X [.ref (gAd X k 1), .int (nI fr9), .int (nI to)] (fU mem k g) (some (.int (nI (zUn z fr9 to 12)))) (fU mem k g) := by
  refine gMt.of (own := RX0) (by decide) rfl hI (by simp [Value.category]) (Nat.le_of_ble_eq_true rfl) ?_
  intro p e s m args below meth c ls H locs C hnm hl hR hS
  have loop : ∀ (d i : Nat), i + d = 12 → ∀ (ls : Array Slot) (H : Heap) (locs : List Loc), gL ls [some (.ref (gAd X k 1)), some (.int (nI fr9)), some (.int (nI to)), some (.int (nI (zUn z fr9 to i))), some (.int (nI i))] → gRep X (fU mem k g) H → va_S (gA X) s.heap H locs → W p l e { frames := 2, cells := 0, slots := 0, locals := 43 } s m args below meth c H locs 0 0 (MQ below (gQ X (fun v m => v = some (.int (nI (zUn z fr9 to 12))) ∧ m = fU mem k g)) args s 0 0 (gA X)) (F0 m 5 ls []) := by
    intro d
    induction d with
    | zero =>
      intro i hi  ls H locs  hl hR hS
      have hi2 : i = 12 := by omega
      subst hi2
      refine g_iload C hl dX0_differencesOf_5 rfl ?_
      refine g_bipush 12 C dX0_differencesOf_7 (by decide) ?_
      refine g_icmp_ge (tgt := 38) C dX0_differencesOf_9 (by decide) (by omega) (by omega) (fun c9 => ?_) (fun z9 => absurd z9 (by omega))
      refine g_iload_n C hl dX0_differencesOf_38 rfl ?_
      refine g_iret C hR hS dX0_differencesOf_39 ?_
      exact ⟨rfl, rfl⟩
    | succ d ih =>
      intro i hi  ls H locs  hl hR hS
      refine g_iload C hl dX0_differencesOf_5 rfl ?_
      refine g_bipush 12 C dX0_differencesOf_7 (by decide) ?_
      refine g_icmp_ge (tgt := 38) C dX0_differencesOf_9 (by decide) (by omega) (by omega) (fun z9 => absurd z9 (by omega)) (fun c9 => ?_)
      refine g_aload_n C hl dX0_differencesOf_12 rfl ?_
      refine g_iload_n C hl dX0_differencesOf_13 rfl ?_
      refine g_iload C hl dX0_differencesOf_14 rfl ?_
      refine g_callVi C hl.1 hR hS (rc_X0 hk) md_X0_numberIn ml_X0_51 (c_X0_numberIn l hI hk hM hf (by omega)) rfl rfl ⟨Nat.le_of_ble_eq_true rfl, Nat.le_of_ble_eq_true rfl⟩ ⟨Nat.le_refl _, Nat.le_refl _⟩ (Nat.le_of_ble_eq_true rfl) dX0_differencesOf_16 (fun H locs hR hS => ?_)
      refine g_aload_n C hl dX0_differencesOf_19 rfl ?_
      refine g_iload_n C hl dX0_differencesOf_20 rfl ?_
      refine g_iload C hl dX0_differencesOf_21 rfl ?_
      refine g_callVi C hl.1 hR hS (rc_X0 hk) md_X0_numberIn ml_X0_51 (c_X0_numberIn l hI hk hM ht (by omega)) rfl rfl ⟨Nat.le_of_ble_eq_true rfl, Nat.le_of_ble_eq_true rfl⟩ ⟨Nat.le_refl _, Nat.le_refl _⟩ (Nat.le_of_ble_eq_true rfl) dX0_differencesOf_23 (fun H locs hR hS => ?_)
      refine g_icmp_eq (tgt := 32) C dX0_differencesOf_26 (by decide) (by have := hz.1 _ (zIx_lt (b := fr9) (c := i) (by omega) (by omega)); omega) (by have := hz.1 _ (zIx_lt (b := to) (c := i) (by omega) (by omega)); omega) (fun c26 => ?_) (fun c26 => ?_)
      · -- 26 T
        refine g_iinc (k := 1) C hl dX0_differencesOf_32 rfl (by decide) (fun ls hl => ?_)
        refine g_goto (tgt := 5) C dX0_differencesOf_35 (by decide) ?_
        have e9 : zUn z fr9 to (i + 1) = zUn z fr9 to i + (if z (zIx fr9 i) = z (zIx to i) then 0 else 1) := rfl
        first | rw [if_pos c26, Nat.add_zero (zUn z fr9 to i)] at e9 | rw [if_neg c26] at e9
        rw [← e9] at hl
        refine ih (i + 1) (by omega)  ls H locs hl ?_ hS
        exact hR
      · -- 26 F
        refine g_iinc (k := 1) C hl dX0_differencesOf_29 rfl (by decide) (fun ls hl => ?_)
        refine g_iinc (k := 1) C hl dX0_differencesOf_32 rfl (by decide) (fun ls hl => ?_)
        refine g_goto (tgt := 5) C dX0_differencesOf_35 (by decide) ?_
        have e9 : zUn z fr9 to (i + 1) = zUn z fr9 to i + (if z (zIx fr9 i) = z (zIx to i) then 0 else 1) := rfl
        first | rw [if_pos c26, Nat.add_zero (zUn z fr9 to i)] at e9 | rw [if_neg c26] at e9
        rw [← e9] at hl
        refine ih (i + 1) (by omega)  ls H locs hl ?_ hS
        exact hR
  refine g_iconst 0 C dX0_differencesOf_0 (by decide) ?_
  refine g_istore_n C hl dX0_differencesOf_1 (Nat.le_of_ble_eq_true rfl) (fun ls hl => ?_)
  refine g_iconst 0 C dX0_differencesOf_2 (by decide) ?_
  refine g_istore C hl dX0_differencesOf_3 (Nat.le_of_ble_eq_true rfl) (fun ls hl => ?_)
  exact loop 12 0 (by omega) _ _ _ hl hR hS
set_option maxRecDepth 100000 in
set_option maxHeartbeats 4000000 in
/-- X0_usedCellsOf -/
theorem c_X0_usedCellsOf (l : Launch) {X : gX} (hI : gInj X) {mem : gM} {k : Nat} (hk : k < 7) {g : Nat → Nat → Nat} {z : Nat → Nat} (hM : mR g z) (hz : zI z) {b : Nat} (hb : b < 8) : gF l yX0_usedCellsOf cX0_usedCellsOf 4 (some .int) 2 43 X [.ref (gAd X k 1), .int (nI b)] (fU mem k g) (some (.int (nI (zFil z b 12)))) (fU mem k g) := by
  refine gMt.of (own := RX0) (by decide) rfl hI (by simp [Value.category]) (Nat.le_of_ble_eq_true rfl) ?_
  intro p e s m args below meth c ls H locs C hnm hl hR hS
  have loop : ∀ (d i : Nat), i + d = 12 → ∀ (ls : Array Slot) (H : Heap) (locs : List Loc), gL ls [some (.ref (gAd X k 1)), some (.int (nI b)), some (.int (nI (zFil z b i))), some (.int (nI i))] → gRep X (fU mem k g) H → va_S (gA X) s.heap H locs → W p l e { frames := 2, cells := 0, slots := 0, locals := 43 } s m args below meth c H locs 0 0 (MQ below (gQ X (fun v m => v = some (.int (nI (zFil z b 12))) ∧ m = fU mem k g)) args s 0 0 (gA X)) (F0 m 4 ls []) := by
    intro d
    induction d with
    | zero =>
      intro i hi  ls H locs  hl hR hS
      have hi2 : i = 12 := by omega
      subst hi2
      refine g_iload_n C hl dX0_usedCellsOf_4 rfl ?_
      refine g_bipush 12 C dX0_usedCellsOf_5 (by decide) ?_
      refine g_icmp_ge (tgt := 28) C dX0_usedCellsOf_7 (by decide) (by omega) (by omega) (fun c7 => ?_) (fun z9 => absurd z9 (by omega))
      refine g_iload_n C hl dX0_usedCellsOf_28 rfl ?_
      refine g_iret C hR hS dX0_usedCellsOf_29 ?_
      exact ⟨rfl, rfl⟩
    | succ d ih =>
      intro i hi  ls H locs  hl hR hS
      refine g_iload_n C hl dX0_usedCellsOf_4 rfl ?_
      refine g_bipush 12 C dX0_usedCellsOf_5 (by decide) ?_
      refine g_icmp_ge (tgt := 28) C dX0_usedCellsOf_7 (by decide) (by omega) (by omega) (fun z9 => absurd z9 (by omega)) (fun c7 => ?_)
      refine g_aload_n C hl dX0_usedCellsOf_10 rfl ?_
      refine g_iload_n C hl dX0_usedCellsOf_11 rfl ?_
      refine g_iload_n C hl dX0_usedCellsOf_12 rfl ?_
      refine g_callVi C hl.1 hR hS (rc_X0 hk) md_X0_numberIn ml_X0_51 (c_X0_numberIn l hI hk hM hb (by omega)) rfl rfl ⟨Nat.le_of_ble_eq_true rfl, Nat.le_of_ble_eq_true rfl⟩ ⟨Nat.le_refl _, Nat.le_refl _⟩ (Nat.le_of_ble_eq_true rfl) dX0_usedCellsOf_13 (fun H locs hR hS => ?_)
      refine g_if_eq (tgt := 22) C dX0_usedCellsOf_16 (by decide) (by have := hz.1 _ (zIx_lt (b := b) (c := i) (by omega) (by omega)); omega) (fun c16 => ?_) (fun c16 => ?_)
      · -- 16 T
        refine g_iinc (k := 1) C hl dX0_usedCellsOf_22 rfl (by decide) (fun ls hl => ?_)
        refine g_goto (tgt := 4) C dX0_usedCellsOf_25 (by decide) ?_
        have e9 : zFil z b (i + 1) = zFil z b i + (if z (zIx b i) = 0 then 0 else 1) := rfl
        first | rw [if_pos c16, Nat.add_zero (zFil z b i)] at e9 | rw [if_neg c16] at e9
        rw [← e9] at hl
        refine ih (i + 1) (by omega)  ls H locs hl ?_ hS
        exact hR
      · -- 16 F
        refine g_iinc (k := 1) C hl dX0_usedCellsOf_19 rfl (by decide) (fun ls hl => ?_)
        refine g_iinc (k := 1) C hl dX0_usedCellsOf_22 rfl (by decide) (fun ls hl => ?_)
        refine g_goto (tgt := 4) C dX0_usedCellsOf_25 (by decide) ?_
        have e9 : zFil z b (i + 1) = zFil z b i + (if z (zIx b i) = 0 then 0 else 1) := rfl
        first | rw [if_pos c16, Nat.add_zero (zFil z b i)] at e9 | rw [if_neg c16] at e9
        rw [← e9] at hl
        refine ih (i + 1) (by omega)  ls H locs hl ?_ hS
        exact hR
  refine g_iconst 0 C dX0_usedCellsOf_0 (by decide) ?_
  refine g_istore_n C hl dX0_usedCellsOf_1 (Nat.le_of_ble_eq_true rfl) (fun ls hl => ?_)
  refine g_iconst 0 C dX0_usedCellsOf_2 (by decide) ?_
  refine g_istore_n C hl dX0_usedCellsOf_3 (Nat.le_of_ble_eq_true rfl) (fun ls hl => ?_)
  exact loop 12 0 (by omega) _ _ _ hl hR hS
set_option maxRecDepth 100000 in
set_option maxHeartbeats 4000000 in
/-- X0_copyCells -/
theorem c_X0_copyCells (l : Launch) {X : gX} (hI : gInj X) {mem : gM} {k : Nat} (hk : k < 7) {g : Nat → Nat → Nat} {z : Nat → Nat} (hM : mR g z) {fr9 to : Nat} (hf : fr9 < 8) (ht : to < 8) : gMt l yX0_copyCells cX0_copyCells 4 none 2 45 X [.ref (gAd X k 1), .int (nI fr9), .int (nI to)] (fU mem k g) (mP mem k (zCp z fr9 to 12) none) := by
  refine gMt.of (own := RX0) (by decide) rfl hI (by simp [Value.category]) (Nat.le_of_ble_eq_true rfl) ?_
  intro p e s m args below meth c ls H locs C hnm hl hR hS
  have loop : ∀ (d i : Nat), i + d = 12 → ∀ (ls : Array Slot) (H : Heap) (locs : List Loc) (g : Nat → Nat → Nat) (hM : mR g (zCp z fr9 to i)), gL ls [some (.ref (gAd X k 1)), some (.int (nI fr9)), some (.int (nI to)), some (.int (nI i))] → gRep X (fU mem k g) H → va_S (gA X) s.heap H locs → W p l e { frames := 2, cells := 0, slots := 0, locals := 45 } s m args below meth c H locs 0 0 (MQ below (gQ X (mP mem k (zCp z fr9 to 12) none)) args s 0 0 (gA X)) (F0 m 2 ls []) := by
    intro d
    induction d with
    | zero =>
      intro i hi  ls H locs g hM hl hR hS
      have hi2 : i = 12 := by omega
      subst hi2
      refine g_iload_n C hl dX0_copyCells_2 rfl ?_
      refine g_bipush 12 C dX0_copyCells_3 (by decide) ?_
      refine g_icmp_ge (tgt := 26) C dX0_copyCells_5 (by decide) (by omega) (by omega) (fun c5 => ?_) (fun z9 => absurd z9 (by omega))
      refine g_vret C hR hS dX0_copyCells_26 ?_
      exact ⟨rfl, _, rfl, hM⟩
    | succ d ih =>
      intro i hi  ls H locs g hM hl hR hS
      refine g_iload_n C hl dX0_copyCells_2 rfl ?_
      refine g_bipush 12 C dX0_copyCells_3 (by decide) ?_
      refine g_icmp_ge (tgt := 26) C dX0_copyCells_5 (by decide) (by omega) (by omega) (fun z9 => absurd z9 (by omega)) (fun c5 => ?_)
      refine g_aload_n C hl dX0_copyCells_8 rfl ?_
      refine g_iload_n C hl dX0_copyCells_9 rfl ?_
      refine g_iload_n C hl dX0_copyCells_10 rfl ?_
      refine g_aload_n C hl dX0_copyCells_11 rfl ?_
      refine g_iload_n C hl dX0_copyCells_12 rfl ?_
      refine g_iload_n C hl dX0_copyCells_13 rfl ?_
      refine g_callVi C hl.1 hR hS (rc_X0 hk) md_X0_numberIn ml_X0_51 (c_X0_numberIn l hI hk hM hf (by omega)) rfl rfl ⟨Nat.le_of_ble_eq_true rfl, Nat.le_of_ble_eq_true rfl⟩ ⟨Nat.le_refl _, Nat.le_refl _⟩ (Nat.le_of_ble_eq_true rfl) dX0_copyCells_14 (fun H locs hR hS => ?_)
      refine g_callKv C hl.1 hR hS (rc_X0 hk) md_X0_fill ml_X0_58 (c_X0_fill l hI hk hM ht (by omega)) rfl rfl ⟨Nat.le_of_ble_eq_true rfl, Nat.le_of_ble_eq_true rfl⟩ ⟨Nat.le_refl _, Nat.le_refl _⟩ (Nat.le_of_ble_eq_true rfl) dX0_copyCells_17 (fun g hM H locs hR hS => ?_)
      refine g_iinc (k := 1) C hl dX0_copyCells_20 rfl (by decide) (fun ls hl => ?_)
      refine g_goto (tgt := 2) C dX0_copyCells_23 (by decide) ?_
      refine ih (i + 1) (by omega)  ls H locs g hM hl ?_ hS
      exact hR
  refine g_iconst 0 C dX0_copyCells_0 (by decide) ?_
  refine g_istore_n C hl dX0_copyCells_1 (Nat.le_of_ble_eq_true rfl) (fun ls hl => ?_)
  exact loop 12 0 (by omega) _ _ _ g hM hl hR hS
theorem or_pow : ∀ i, i < 4 → ∀ a, a < 2 ^ i → nI a ||| (nI 1 <<< (nI i &&& 31)) = nI (a + 2 ^ i) := by
  have h : ∀ i, i < 4 → ∀ a, a < 16 → (Nat.blt a (2 ^ i) && !(nI a ||| (nI 1 <<< (nI i &&& 31)) == nI (a + 2 ^ i))) = false := by decide +kernel
  intro i hi a ha
  have h1 := h i hi a (by have : 2 ^ i ≤ 2 ^ 3 := Nat.pow_le_pow_right (by decide) (by omega); omega)
  rw [show Nat.blt a (2 ^ i) = true by rw [Nat.blt_eq]; exact ha, Bool.true_and] at h1
  simpa using h1
set_option maxRecDepth 100000 in
set_option maxHeartbeats 4000000 in
/-- X0_windowsOf -/
theorem c_X0_windowsOf (l : Launch) {X : gX} (hI : gInj X) {mem : gM} {k : Nat} (hk : k < 7) {g : Nat → Nat → Nat} {z : Nat → Nat} (hM : mR g z) (hz : zI z) {b : Nat} (hb : b < 8) : gF l yX0_windowsOf cX0_windowsOf 4 (some .int) 1 21 X [.ref (gAd X k 1), .int (nI b)] (fU mem k g) (some (.int (nI (zWin z b 4)))) (fU mem k g) := by
  refine gMt.of (own := RX0) (by decide) rfl hI (by simp [Value.category]) (Nat.le_of_ble_eq_true rfl) ?_
  intro p e s m args below meth c ls H locs C hnm hl hR hS
  have loop : ∀ (d i : Nat), i + d = 4 → ∀ (ls : Array Slot) (H : Heap) (locs : List Loc), gL ls [some (.ref (gAd X k 1)), some (.int (nI b)), some (.int (nI (zWin z b i))), some (.int (nI i))] → gRep X (fU mem k g) H → va_S (gA X) s.heap H locs → W p l e { frames := 1, cells := 0, slots := 0, locals := 21 } s m args below meth c H locs 0 0 (MQ below (gQ X (fun v m => v = some (.int (nI (zWin z b 4))) ∧ m = fU mem k g)) args s 0 0 (gA X)) (F0 m 4 ls []) := by
    intro d
    induction d with
    | zero =>
      intro i hi  ls H locs  hl hR hS
      have hi2 : i = 4 := by omega
      subst hi2
      refine g_iload_n C hl dX0_windowsOf_4 rfl ?_
      refine g_iconst 4 C dX0_windowsOf_5 (by decide) ?_
      refine g_icmp_ge (tgt := 33) C dX0_windowsOf_6 (by decide) (by omega) (by omega) (fun c6 => ?_) (fun z9 => absurd z9 (by omega))
      refine g_iload_n C hl dX0_windowsOf_33 rfl ?_
      refine g_iret C hR hS dX0_windowsOf_34 ?_
      exact ⟨rfl, rfl⟩
    | succ d ih =>
      intro i hi  ls H locs  hl hR hS
      refine g_iload_n C hl dX0_windowsOf_4 rfl ?_
      refine g_iconst 4 C dX0_windowsOf_5 (by decide) ?_
      refine g_icmp_ge (tgt := 33) C dX0_windowsOf_6 (by decide) (by omega) (by omega) (fun z9 => absurd z9 (by omega)) (fun c6 => ?_)
      refine g_aload_n C hl dX0_windowsOf_9 rfl ?_
      refine gt_X0_2 C hk hR fl_X0_23 dX0_windowsOf_10 ?_
      refine g_iload_n C hl dX0_windowsOf_13 rfl ?_
      refine g_callVi C hl.1 hR hS (rc_X5 (gRow_6 hk)) md_X5_read ml_X0_44 (c_zr l hI hM (gRow_6 hk) mB_7 (by omega)) rfl rfl ⟨Nat.le_of_ble_eq_true rfl, Nat.le_of_ble_eq_true rfl⟩ ⟨Nat.le_refl _, Nat.le_refl _⟩ (Nat.le_of_ble_eq_true rfl) dX0_windowsOf_14 (fun H locs hR hS => ?_)
      refine g_iload_n C hl dX0_windowsOf_17 rfl ?_
      refine g_icmp_ne (tgt := 27) C dX0_windowsOf_18 (by decide) (by have := hz.2.1 i (by omega); omega) (by omega) (fun c18 => ?_) (fun c18 => ?_)
      · -- 18 T
        refine g_iinc (k := 1) C hl dX0_windowsOf_27 rfl (by decide) (fun ls hl => ?_)
        refine g_goto (tgt := 4) C dX0_windowsOf_30 (by decide) ?_
        have e9 : zWin z b (i + 1) = zWin z b i + (if z (100 + i) = b then 2 ^ i else 0) := rfl
        first | rw [if_neg c18, Nat.add_zero (zWin z b i)] at e9 | rw [if_pos c18] at e9
        rw [← e9] at hl
        refine ih (i + 1) (by omega)  ls H locs hl ?_ hS
        exact hR
      · -- 18 F
        refine g_iload_n C hl dX0_windowsOf_21 rfl ?_
        refine g_iconst 1 C dX0_windowsOf_22 (by decide) ?_
        refine g_iload_n C hl dX0_windowsOf_23 rfl ?_
        refine lv_ishl C.1 C.2.1 dX0_windowsOf_24 ?_
        refine lv_ior C.1 C.2.1 dX0_windowsOf_25 ?_
        rw [or_pow i (by omega) _ (zWin_lt i)]
        refine g_istore_n C hl dX0_windowsOf_26 (Nat.le_of_ble_eq_true rfl) (fun ls hl => ?_)
        refine g_iinc (k := 1) C hl dX0_windowsOf_27 rfl (by decide) (fun ls hl => ?_)
        refine g_goto (tgt := 4) C dX0_windowsOf_30 (by decide) ?_
        have e9 : zWin z b (i + 1) = zWin z b i + (if z (100 + i) = b then 2 ^ i else 0) := rfl
        first | rw [if_neg c18, Nat.add_zero (zWin z b i)] at e9 | rw [if_pos c18] at e9
        rw [← e9] at hl
        refine ih (i + 1) (by omega)  ls H locs hl ?_ hS
        exact hR
  refine g_iconst 0 C dX0_windowsOf_0 (by decide) ?_
  refine g_istore_n C hl dX0_windowsOf_1 (Nat.le_of_ble_eq_true rfl) (fun ls hl => ?_)
  refine g_iconst 0 C dX0_windowsOf_2 (by decide) ?_
  refine g_istore_n C hl dX0_windowsOf_3 (Nat.le_of_ble_eq_true rfl) (fun ls hl => ?_)
  exact loop 4 0 (by omega) _ _ _ hl hR hS
/-! the twin of an address -/
theorem zIx_same {b b' c c' : Nat} (hb : b < 8) (hb' : b' < 8) (hc : c < 16) (hc' : c' < 16) : zIx b c = zIx b' c' ↔ c = c' ∧ (12 ≤ c ∨ b = b') := by
  unfold zIx
  by_cases h : c < 12
  · rw [if_pos h]
    by_cases h' : c' < 12
    · rw [if_pos h']; omega
    · rw [if_neg h']; omega
  · rw [if_neg h]
    by_cases h' : c' < 12
    · rw [if_pos h']; omega
    · rw [if_neg h']; omega
theorem zSame_skip {z : Nat → Nat} {ad d : Nat} : ∀ n, d + n ≤ 64 → (∀ j, 64 - (d + n) ≤ j → j < 64 - d → ¬ (¬ (j = ad) ∧ zAt z j = zAt z ad)) → zSame z ad (d + n) = zSame z ad d := by
  intro n
  induction n with
  | zero => intro _ _; rfl
  | succ n ih =>
    intro h h2
    have e : zSame z ad (d + n + 1) = if ¬ (63 - (d + n) = ad) ∧ zAt z (63 - (d + n)) = zAt z ad then nI (63 - (d + n)) else zSame z ad (d + n) := rfl
    show zSame z ad (d + n + 1) = _
    rw [e, if_neg (h2 _ (by omega) (by omega))]
    exact ih (by omega) (fun j h3 h4 => h2 j (by omega) h4)
theorem zAt_same {z : Nat → Nat} {a j : Nat} (hz : zI z) (ha : a < 64) (hj : j < 64) : zAt z j = zAt z a ↔ j % 16 = a % 16 ∧ (12 ≤ a % 16 ∨ zBk z j = zBk z a) := by
  unfold zAt
  rw [zIx_same (hz.bk hj) (hz.bk ha) (by omega) (by omega)]
  omega
theorem zSame_no {z : Nat → Nat} {ad w : Nat} (hz : zI z) (ha : ad < 64) (hw : w < 4) (h : w * 16 + ad % 16 = ad ∨ ¬ (12 ≤ ad % 16 ∨ zBk z (w * 16 + ad % 16) = zBk z ad)) : zSame z ad (64 - 16 * w) = zSame z ad (64 - 16 * (w + 1)) := by
  have := zSame_skip (z := z) (ad := ad) (d := 64 - 16 * (w + 1)) 16 (by omega) (fun j h3 h4 => by
    rw [zAt_same hz ha (by omega)]
    rintro ⟨h5, h6, h7⟩
    have e : j = w * 16 + ad % 16 := by omega
    subst e
    rcases h with h | h
    · exact h5 h
    · exact h h7)
  rw [← this]
  congr 1
  omega
theorem zSame_yes {z : Nat → Nat} {ad w : Nat} (hz : zI z) (ha : ad < 64) (hw : w < 4) (h1 : ¬ w * 16 + ad % 16 = ad) (h2 : 12 ≤ ad % 16 ∨ zBk z (w * 16 + ad % 16) = zBk z ad) : zSame z ad (64 - 16 * w) = nI (w * 16 + ad % 16) := by
  have := zSame_skip (z := z) (ad := ad) (d := 64 - (w * 16 + ad % 16)) (ad % 16) (by omega) (fun j h3 h4 => by
    rw [zAt_same hz ha (by omega)]
    rintro ⟨h5, h6, h7⟩
    omega)
  rw [show 64 - (w * 16 + ad % 16) + ad % 16 = 64 - 16 * w by omega] at this
  rw [this, show 64 - (w * 16 + ad % 16) = (63 - (w * 16 + ad % 16)) + 1 by omega]
  have e : zSame z ad (63 - (w * 16 + ad % 16) + 1) = if ¬ (63 - (63 - (w * 16 + ad % 16)) = ad) ∧ zAt z (63 - (63 - (w * 16 + ad % 16))) = zAt z ad then nI (63 - (63 - (w * 16 + ad % 16))) else zSame z ad (63 - (w * 16 + ad % 16)) := rfl
  rw [e, show 63 - (63 - (w * 16 + ad % 16)) = w * 16 + ad % 16 by omega, if_pos ⟨h1, (zAt_same hz ha (by omega)).mpr ⟨by omega, h2⟩⟩]
set_option maxRecDepth 100000 in
set_option maxHeartbeats 4000000 in
/-- X0_twinOf -/
theorem c_X0_twinOf (l : Launch) {X : gX} (hI : gInj X) {mem : gM} {k : Nat} (hk : k < 7) {g : Nat → Nat → Nat} {z : Nat → Nat} (hM : mR g z) (hz : zI z) {ad : Nat} (ha : ad < 64) : gF l yX0_twinOf cX0_twinOf 6 (some .int) 2 42 X [.ref (gAd X k 1), .int (nI ad)] (fU mem k g) (some (.int (zSame z ad 64))) (fU mem k g) := by
  refine gMt.of (own := RX0) (by decide) rfl hI (by simp [Value.category]) (Nat.le_of_ble_eq_true rfl) ?_
  intro p e s m args below meth c ls H locs C hnm hl hR hS
  have loop : ∀ (d i : Nat), i + d = 4 → zSame z ad 64 = zSame z ad (64 - 16 * i) → ∀ (ls : Array Slot) (H : Heap) (locs : List Loc) (v4 : Option Value) (v5 : Option Value), gL ls [some (.ref (gAd X k 1)), some (.int (nI ad)), some (.int (nI (ad % 16))), some (.int (nI i)), v4, v5] → gRep X (fU mem k g) H → va_S (gA X) s.heap H locs → W p l e { frames := 2, cells := 0, slots := 0, locals := 42 } s m args below meth c H locs 0 0 (MQ below (gQ X (fun v m => v = some (.int (zSame z ad 64)) ∧ m = fU mem k g)) args s 0 0 (gA X)) (F0 m 7 ls []) := by
    intro d
    induction d with
    | zero =>
      intro i hi hy ls H locs v4 v5 hl hR hS
      have hi2 : i = 4 := by omega
      subst hi2
      refine g_iload_n C hl dX0_twinOf_7 rfl ?_
      refine g_iconst 4 C dX0_twinOf_8 (by decide) ?_
      refine g_icmp_ge (tgt := 67) C dX0_twinOf_9 (by decide) (by omega) (by omega) (fun c9 => ?_) (fun z9 => absurd z9 (by omega))
      refine g_bipushM (-5) C dX0_twinOf_67 (by decide) ?_
      refine g_iret C hR hS dX0_twinOf_69 ?_
      rw [hy]
      exact ⟨rfl, rfl⟩
    | succ d ih =>
      intro i hi hy ls H locs v4 v5 hl hR hS
      refine g_iload_n C hl dX0_twinOf_7 rfl ?_
      refine g_iconst 4 C dX0_twinOf_8 (by decide) ?_
      refine g_icmp_ge (tgt := 67) C dX0_twinOf_9 (by decide) (by omega) (by omega) (fun z9 => absurd z9 (by omega)) (fun c9 => ?_)
      refine g_iload_n C hl dX0_twinOf_12 rfl ?_
      refine g_bipush 16 C dX0_twinOf_13 (by decide) ?_
      refine g_imul C dX0_twinOf_15 ?_
      refine g_iload_n C hl dX0_twinOf_16 rfl ?_
      refine g_iadd C dX0_twinOf_17 ?_
      refine g_istore C hl dX0_twinOf_18 (Nat.le_of_ble_eq_true rfl) (fun ls hl => ?_)
      refine g_iload_n C hl dX0_twinOf_20 rfl ?_
      refine g_bipush 12 C dX0_twinOf_21 (by decide) ?_
      refine g_icmp_ge (tgt := 40) C dX0_twinOf_23 (by decide) (by omega) (by omega) (fun c23 => ?_) (fun c23 => ?_)
      · -- 23 T
        refine g_iconst 1 C dX0_twinOf_40 (by decide) ?_
        refine g_goto (tgt := 45) C dX0_twinOf_41 (by decide) ?_
        refine g_istore C hl dX0_twinOf_45 (Nat.le_of_ble_eq_true rfl) (fun ls hl => ?_)
        refine g_iload C hl dX0_twinOf_47 rfl ?_
        refine g_iload_n C hl dX0_twinOf_49 rfl ?_
        refine g_icmp_eq (tgt := 61) C dX0_twinOf_50 (by decide) (by omega) (by omega) (fun c50 => ?_) (fun c50 => ?_)
        · -- 50 T
          refine g_iinc (k := 1) C hl dX0_twinOf_61 rfl (by decide) (fun ls hl => ?_)
          refine g_goto (tgt := 7) C dX0_twinOf_64 (by decide) ?_
          refine ih (i + 1) (by omega) (hy.trans (zSame_no hz ha (by omega) (by omega))) ls H locs _ _ hl ?_ hS
          exact hR
        · -- 50 F
          refine g_iload C hl dX0_twinOf_53 rfl ?_
          refine g_if_eq (tgt := 61) C dX0_twinOf_55 (by decide) (by omega) (fun z9 => absurd z9 (by omega)) (fun c55 => ?_)
          refine g_iload C hl dX0_twinOf_58 rfl ?_
          refine g_iret C hR hS dX0_twinOf_60 ?_
          rw [hy, zSame_yes hz ha (by omega) (by omega) (by omega)]
          exact ⟨rfl, rfl⟩
      · -- 23 F
        refine g_aload_n C hl dX0_twinOf_26 rfl ?_
        refine g_iload C hl dX0_twinOf_27 rfl ?_
        refine g_callVi C hl.1 hR hS (rc_X0 hk) md_X0_bankAt ml_X0_48 (c_X0_bankAt l hI hk hM (by omega)) rfl rfl ⟨Nat.le_of_ble_eq_true rfl, Nat.le_of_ble_eq_true rfl⟩ ⟨Nat.le_refl _, Nat.le_refl _⟩ (Nat.le_of_ble_eq_true rfl) dX0_twinOf_29 (fun H locs hR hS => ?_)
        refine g_aload_n C hl dX0_twinOf_32 rfl ?_
        refine g_iload_n C hl dX0_twinOf_33 rfl ?_
        refine g_callVi C hl.1 hR hS (rc_X0 hk) md_X0_bankAt ml_X0_48 (c_X0_bankAt l hI hk hM ha) rfl rfl ⟨Nat.le_of_ble_eq_true rfl, Nat.le_of_ble_eq_true rfl⟩ ⟨Nat.le_refl _, Nat.le_refl _⟩ (Nat.le_of_ble_eq_true rfl) dX0_twinOf_34 (fun H locs hR hS => ?_)
        refine g_icmp_ne (tgt := 44) C dX0_twinOf_37 (by decide) (by have := hz.bk (a := i * 16 + ad % 16) (by omega); omega) (by have := hz.bk ha; omega) (fun c37 => ?_) (fun c37 => ?_)
        · -- 37 T
          refine g_iconst 0 C dX0_twinOf_44 (by decide) ?_
          refine g_istore C hl dX0_twinOf_45 (Nat.le_of_ble_eq_true rfl) (fun ls hl => ?_)
          refine g_iload C hl dX0_twinOf_47 rfl ?_
          refine g_iload_n C hl dX0_twinOf_49 rfl ?_
          refine g_icmp_eq (tgt := 61) C dX0_twinOf_50 (by decide) (by omega) (by omega) (fun c50 => ?_) (fun c50 => ?_)
          · -- 50 T
            refine g_iinc (k := 1) C hl dX0_twinOf_61 rfl (by decide) (fun ls hl => ?_)
            refine g_goto (tgt := 7) C dX0_twinOf_64 (by decide) ?_
            refine ih (i + 1) (by omega) (hy.trans (zSame_no hz ha (by omega) (by omega))) ls H locs _ _ hl ?_ hS
            exact hR
          · -- 50 F
            refine g_iload C hl dX0_twinOf_53 rfl ?_
            refine g_if_eq (tgt := 61) C dX0_twinOf_55 (by decide) (by omega) (fun c55 => ?_) (fun z9 => absurd z9 (by omega))
            refine g_iinc (k := 1) C hl dX0_twinOf_61 rfl (by decide) (fun ls hl => ?_)
            refine g_goto (tgt := 7) C dX0_twinOf_64 (by decide) ?_
            refine ih (i + 1) (by omega) (hy.trans (zSame_no hz ha (by omega) (by omega))) ls H locs _ _ hl ?_ hS
            exact hR
        · -- 37 F
          refine g_iconst 1 C dX0_twinOf_40 (by decide) ?_
          refine g_goto (tgt := 45) C dX0_twinOf_41 (by decide) ?_
          refine g_istore C hl dX0_twinOf_45 (Nat.le_of_ble_eq_true rfl) (fun ls hl => ?_)
          refine g_iload C hl dX0_twinOf_47 rfl ?_
          refine g_iload_n C hl dX0_twinOf_49 rfl ?_
          refine g_icmp_eq (tgt := 61) C dX0_twinOf_50 (by decide) (by omega) (by omega) (fun c50 => ?_) (fun c50 => ?_)
          · -- 50 T
            refine g_iinc (k := 1) C hl dX0_twinOf_61 rfl (by decide) (fun ls hl => ?_)
            refine g_goto (tgt := 7) C dX0_twinOf_64 (by decide) ?_
            refine ih (i + 1) (by omega) (hy.trans (zSame_no hz ha (by omega) (by omega))) ls H locs _ _ hl ?_ hS
            exact hR
          · -- 50 F
            refine g_iload C hl dX0_twinOf_53 rfl ?_
            refine g_if_eq (tgt := 61) C dX0_twinOf_55 (by decide) (by omega) (fun z9 => absurd z9 (by omega)) (fun c55 => ?_)
            refine g_iload C hl dX0_twinOf_58 rfl ?_
            refine g_iret C hR hS dX0_twinOf_60 ?_
            rw [hy, zSame_yes hz ha (by omega) (by omega) (by omega)]
            exact ⟨rfl, rfl⟩
  refine g_iload_n C hl dX0_twinOf_0 rfl ?_
  refine g_bipush 16 C dX0_twinOf_1 (by decide) ?_
  refine g_irem C dX0_twinOf_3 (by omega) (by decide) (by decide) ?_
  refine g_istore_n C hl dX0_twinOf_4 (Nat.le_of_ble_eq_true rfl) (fun ls hl => ?_)
  refine g_iconst 0 C dX0_twinOf_5 (by decide) ?_
  refine g_istore_n C hl dX0_twinOf_6 (Nat.le_of_ble_eq_true rfl) (fun ls hl => ?_)
  exact loop 4 0 (by omega) rfl _ _ _ _ _ hl hR hS
end
section
/-! ===== Frames, Trail ===== -/
theorem gSum_cg {f g : Nat → Nat} : ∀ n, (∀ i, i < n → f i = g i) → gSum f n = gSum g n
  | 0, _ => rfl
  | n + 1, h => by
    show gSum f n + f n = gSum g n + g n
    rw [gSum_cg n (fun i hi => h i (by omega)), h n (by omega)]
theorem gSum_sh {f : Nat → Nat} : ∀ n, gSum f (n + 1) = f 0 + gSum (fun i => f (i + 1)) n
  | 0 => by
    show 0 + f 0 = f 0 + 0
    omega
  | n + 1 => by
    show gSum f (n + 1) + f (n + 1) = f 0 + (gSum (fun i => f (i + 1)) n + f (n + 1))
    rw [gSum_sh n]
    omega
theorem gSum_rev : ∀ (n : Nat) (f : Nat → Nat), gSum (fun r => f (n - 1 - r)) n = gSum f n
  | 0, _ => rfl
  | n + 1, f => by
    have h := gSum_rev n (fun i => f (i + 1))
    rw [gSum_sh (f := f) n, ← h]
    show gSum (fun r => f (n + 1 - 1 - r)) n + f (n + 1 - 1 - n) = _
    rw [show n + 1 - 1 - n = 0 by omega, Nat.add_comm (f 0)]
    congr 1
    exact gSum_cg n (fun i hi => by show f _ = f _; congr 1; omega)
set_option maxRecDepth 100000 in
set_option maxHeartbeats 4000000 in
/-- Frames.add -/
theorem c_X2_add (l : Launch) {X : gX} (hI : gInj X) {mem : gM} {k : Nat} (hk : k < 7) {g : Nat → Nat → Nat} {z : Nat → Nat} (hM : mR g z) (h8 : z 116 < 8) {w b p9 : Nat} : gMt l yX2_add cX2_add 5 none 1 22 X [.ref (gAd X k 12), .int (nI w), .int (nI b), .int (nI p9)] (fU mem k g) (mP mem k (fU (fU (fU (fU z (117 + 3 * z 116) w) (117 + 3 * z 116 + 1) b) (117 + 3 * z 116 + 2) p9) 116 (z 116 + 1)) none) := by
  refine gMt.of (own := RX2) (by decide) rfl hI (by simp [Value.category]) (Nat.le_of_ble_eq_true rfl) ?_
  intro p e s m args below meth c ls H locs C hnm hl hR hS
  refine g_aload_n C hl dX2_add_0 rfl ?_
  refine zgt_X2_1 C hk hM hR fl_X2_24 dX2_add_1 ?_
  refine g_iconst 3 C dX2_add_4 (by decide) ?_
  refine g_imul C dX2_add_5 ?_
  refine g_istore C hl dX2_add_6 (Nat.le_of_ble_eq_true rfl) (fun ls hl => ?_)
  refine g_aload_n C hl dX2_add_8 rfl ?_
  refine gt_X2_0 C hk hR fl_X2_16 dX2_add_9 ?_
  refine g_iload C hl dX2_add_12 rfl ?_
  refine g_iconst 0 C dX2_add_14 (by decide) ?_
  refine g_iadd C dX2_add_15 ?_
  refine g_iload_n C hl dX2_add_16 rfl ?_
  refine g_callKv C hl.1 hR hS (rc_X5 (gRow_13 hk)) md_X5_write ml_X2_28 (c_zw l hI hM (gRow_13 hk) mB_14 (by omega)) rfl rfl ⟨Nat.le_of_ble_eq_true rfl, Nat.le_of_ble_eq_true rfl⟩ ⟨Nat.le_refl _, Nat.le_refl _⟩ (Nat.le_of_ble_eq_true rfl) dX2_add_17 (fun g hM H locs hR hS => ?_)
  rw [show 117 + (z 116 * 3 + 0) = 117 + 3 * z 116 by omega] at hM
  refine g_aload_n C hl dX2_add_20 rfl ?_
  refine gt_X2_0 C hk hR fl_X2_16 dX2_add_21 ?_
  refine g_iload C hl dX2_add_24 rfl ?_
  refine g_iconst 1 C dX2_add_26 (by decide) ?_
  refine g_iadd C dX2_add_27 ?_
  refine g_iload_n C hl dX2_add_28 rfl ?_
  refine g_callKv C hl.1 hR hS (rc_X5 (gRow_13 hk)) md_X5_write ml_X2_28 (c_zw l hI hM (gRow_13 hk) mB_14 (by omega)) rfl rfl ⟨Nat.le_of_ble_eq_true rfl, Nat.le_of_ble_eq_true rfl⟩ ⟨Nat.le_refl _, Nat.le_refl _⟩ (Nat.le_of_ble_eq_true rfl) dX2_add_29 (fun g hM H locs hR hS => ?_)
  rw [show 117 + (z 116 * 3 + 1) = 117 + 3 * z 116 + 1 by omega] at hM
  refine g_aload_n C hl dX2_add_32 rfl ?_
  refine gt_X2_0 C hk hR fl_X2_16 dX2_add_33 ?_
  refine g_iload C hl dX2_add_36 rfl ?_
  refine g_iconst 2 C dX2_add_38 (by decide) ?_
  refine g_iadd C dX2_add_39 ?_
  refine g_iload_n C hl dX2_add_40 rfl ?_
  refine g_callKv C hl.1 hR hS (rc_X5 (gRow_13 hk)) md_X5_write ml_X2_28 (c_zw l hI hM (gRow_13 hk) mB_14 (by omega)) rfl rfl ⟨Nat.le_of_ble_eq_true rfl, Nat.le_of_ble_eq_true rfl⟩ ⟨Nat.le_refl _, Nat.le_refl _⟩ (Nat.le_of_ble_eq_true rfl) dX2_add_41 (fun g hM H locs hR hS => ?_)
  rw [show 117 + (z 116 * 3 + 2) = 117 + 3 * z 116 + 2 by omega] at hM
  refine g_aload_n C hl dX2_add_44 rfl ?_
  refine g_dup C dX2_add_45 rfl ?_
  refine zgt_X2_1 C hk hM hR fl_X2_24 dX2_add_46 ?_
  rw [fU_n _ _ (by omega), fU_n _ _ (by omega), fU_n _ _ (by omega)]
  refine g_iconst 1 C dX2_add_49 (by decide) ?_
  refine g_iadd C dX2_add_50 ?_
  refine zpt_X2_1 C hk hM hR hS fl_X2_24 dX2_add_51 (fun g hM H locs hR hS => ?_)
  refine g_vret C hR hS dX2_add_54 ?_
  exact ⟨rfl, _, rfl, hM⟩
set_option maxRecDepth 100000 in
set_option maxHeartbeats 4000000 in
/-- Frames.tell -/
theorem c_X2_tell (l : Launch) {X : gX} (hI : gInj X) {mem : gM} {k : Nat} (hk : k < 7) {g : Nat → Nat → Nat} {z : Nat → Nat} (hM : mR g z) (h8 : z 116 ≤ 8) {r9 w : Nat} (hr : r9 < z 116) (hw : w < 3) : gF l yX2_tell cX2_tell 3 (some .int) 1 21 X [.ref (gAd X k 12), .int (nI r9), .int (nI w)] (fU mem k g) (some (.int (nI (z (117 + 3 * (z 116 - 1 - r9) + w))))) (fU mem k g) := by
  refine gMt.of (own := RX2) (by decide) rfl hI (by simp [Value.category]) (Nat.le_of_ble_eq_true rfl) ?_
  intro p e s m args below meth c ls H locs C hnm hl hR hS
  refine g_aload_n C hl dX2_tell_0 rfl ?_
  refine gt_X2_0 C hk hR fl_X2_16 dX2_tell_1 ?_
  refine g_aload_n C hl dX2_tell_4 rfl ?_
  refine zgt_X2_1 C hk hM hR fl_X2_24 dX2_tell_5 ?_
  refine g_iconst 1 C dX2_tell_8 (by decide) ?_
  refine g_isub C dX2_tell_9 (by omega) ?_
  refine g_iload_n C hl dX2_tell_10 rfl ?_
  refine g_isub C dX2_tell_11 (by omega) ?_
  refine g_iconst 3 C dX2_tell_12 (by decide) ?_
  refine g_imul C dX2_tell_13 ?_
  refine g_iload_n C hl dX2_tell_14 rfl ?_
  refine g_iadd C dX2_tell_15 ?_
  refine g_callVi C hl.1 hR hS (rc_X5 (gRow_13 hk)) md_X5_read ml_X2_32 (c_zr l hI hM (gRow_13 hk) mB_14 (by omega)) rfl rfl ⟨Nat.le_of_ble_eq_true rfl, Nat.le_of_ble_eq_true rfl⟩ ⟨Nat.le_refl _, Nat.le_refl _⟩ (Nat.le_of_ble_eq_true rfl) dX2_tell_16 (fun H locs hR hS => ?_)
  rw [show 117 + ((z 116 - 1 - r9) * 3 + w) = 117 + 3 * (z 116 - 1 - r9) + w by omega]
  refine g_iret C hR hS dX2_tell_19 ?_
  exact ⟨rfl, rfl⟩
set_option maxRecDepth 100000 in
set_option maxHeartbeats 4000000 in
/-- X2_howManyBackTo -/
theorem c_X2_howManyBackTo (l : Launch) {X : gX} (hI : gInj X) {mem : gM} {k : Nat} (hk : k < 7) {g : Nat → Nat → Nat} {z : Nat → Nat} (hM : mR g z) (hz : zI z) {b : Nat} (hb : b < 8) : gF l yX2_howManyBackTo cX2_howManyBackTo 4 (some .int) 2 43 X [.ref (gAd X k 12), .int (nI b)] (fU mem k g) (some (.int (nI (zFrm z b (z 116))))) (fU mem k g) := by
  refine gMt.of (own := RX2) (by decide) rfl hI (by simp [Value.category]) (Nat.le_of_ble_eq_true rfl) ?_
  intro p e s m args below meth c ls H locs C hnm hl hR hS
  have h116 := hz.2.2.2.2.2.2.2.1
  have loop : ∀ (d i : Nat), i + d = z 116 → ∀ (ls : Array Slot) (H : Heap) (locs : List Loc), gL ls [some (.ref (gAd X k 12)), some (.int (nI b)), some (.int (nI (gSum (fun r => if z (118 + 3 * (z 116 - 1 - r)) = b then 1 else 0) i))), some (.int (nI i))] → gRep X (fU mem k g) H → va_S (gA X) s.heap H locs → W p l e { frames := 2, cells := 0, slots := 0, locals := 43 } s m args below meth c H locs 0 0 (MQ below (gQ X (fun v m => v = some (.int (nI (zFrm z b (z 116)))) ∧ m = fU mem k g)) args s 0 0 (gA X)) (F0 m 4 ls []) := by
    intro d
    induction d with
    | zero =>
      intro i hi  ls H locs  hl hR hS
      have hi2 : i = z 116 := by omega
      subst hi2
      refine g_iload_n C hl dX2_howManyBackTo_4 rfl ?_
      refine g_aload_n C hl dX2_howManyBackTo_5 rfl ?_
      refine zgt_X2_1 C hk hM hR fl_X2_24 dX2_howManyBackTo_6 ?_
      refine g_icmp_ge (tgt := 31) C dX2_howManyBackTo_9 (by decide) (by omega) (by omega) (fun c9 => ?_) (fun z9 => absurd z9 (by omega))
      refine g_iload_n C hl dX2_howManyBackTo_31 rfl ?_
      refine g_iret C hR hS dX2_howManyBackTo_32 ?_
      rw [gSum_rev (z 116) (fun q => if z (118 + 3 * q) = b then 1 else 0)]
      exact ⟨rfl, rfl⟩
    | succ d ih =>
      intro i hi  ls H locs  hl hR hS
      refine g_iload_n C hl dX2_howManyBackTo_4 rfl ?_
      refine g_aload_n C hl dX2_howManyBackTo_5 rfl ?_
      refine zgt_X2_1 C hk hM hR fl_X2_24 dX2_howManyBackTo_6 ?_
      refine g_icmp_ge (tgt := 31) C dX2_howManyBackTo_9 (by decide) (by omega) (by omega) (fun z9 => absurd z9 (by omega)) (fun c9 => ?_)
      refine g_aload_n C hl dX2_howManyBackTo_12 rfl ?_
      refine g_iload_n C hl dX2_howManyBackTo_13 rfl ?_
      refine g_iconst 1 C dX2_howManyBackTo_14 (by decide) ?_
      refine g_callVi C hl.1 hR hS (rc_X2 hk) md_X2_tell ml_X2_36 (c_X2_tell l hI hk hM (by omega) (by omega) (by decide)) rfl rfl ⟨Nat.le_of_ble_eq_true rfl, Nat.le_of_ble_eq_true rfl⟩ ⟨Nat.le_refl _, Nat.le_refl _⟩ (Nat.le_of_ble_eq_true rfl) dX2_howManyBackTo_15 (fun H locs hR hS => ?_)
      rw [show 117 + 3 * (z 116 - 1 - i) + 1 = 118 + 3 * (z 116 - 1 - i) by omega]
      have hx := (hz.2.2.2.2.2.2.2.2.1 (z 116 - 1 - i) (by omega)).2.1
      refine g_iload_n C hl dX2_howManyBackTo_18 rfl ?_
      refine g_icmp_ne (tgt := 25) C dX2_howManyBackTo_19 (by decide) (by omega) (by omega) (fun c19 => ?_) (fun c19 => ?_)
      · -- 19 T
        refine g_iinc (k := 1) C hl dX2_howManyBackTo_25 rfl (by decide) (fun ls hl => ?_)
        refine g_goto (tgt := 4) C dX2_howManyBackTo_28 (by decide) ?_
        have e9 : gSum (fun r => if z (118 + 3 * (z 116 - 1 - r)) = b then 1 else 0) (i + 1) = gSum (fun r => if z (118 + 3 * (z 116 - 1 - r)) = b then 1 else 0) i + (if z (118 + 3 * (z 116 - 1 - i)) = b then 1 else 0) := rfl
        first | rw [if_pos c19] at e9 | rw [if_neg c19, Nat.add_zero (gSum (fun r => if z (118 + 3 * (z 116 - 1 - r)) = b then 1 else 0) i)] at e9
        rw [← e9] at hl
        refine ih (i + 1) (by omega)  ls H locs hl ?_ hS
        exact hR
      · -- 19 F
        refine g_iinc (k := 1) C hl dX2_howManyBackTo_22 rfl (by decide) (fun ls hl => ?_)
        refine g_iinc (k := 1) C hl dX2_howManyBackTo_25 rfl (by decide) (fun ls hl => ?_)
        refine g_goto (tgt := 4) C dX2_howManyBackTo_28 (by decide) ?_
        have e9 : gSum (fun r => if z (118 + 3 * (z 116 - 1 - r)) = b then 1 else 0) (i + 1) = gSum (fun r => if z (118 + 3 * (z 116 - 1 - r)) = b then 1 else 0) i + (if z (118 + 3 * (z 116 - 1 - i)) = b then 1 else 0) := rfl
        first | rw [if_pos c19] at e9 | rw [if_neg c19, Nat.add_zero (gSum (fun r => if z (118 + 3 * (z 116 - 1 - r)) = b then 1 else 0) i)] at e9
        rw [← e9] at hl
        refine ih (i + 1) (by omega)  ls H locs hl ?_ hS
        exact hR
  refine g_iconst 0 C dX2_howManyBackTo_0 (by decide) ?_
  refine g_istore_n C hl dX2_howManyBackTo_1 (Nat.le_of_ble_eq_true rfl) (fun ls hl => ?_)
  refine g_iconst 0 C dX2_howManyBackTo_2 (by decide) ?_
  refine g_istore_n C hl dX2_howManyBackTo_3 (Nat.le_of_ble_eq_true rfl) (fun ls hl => ?_)
  exact loop (z 116) 0 (by omega) _ _ _ hl hR hS
/-! a step comes into the trail -/
def zKq (z : Nat → Nat) (a b n : Nat) : Nat → Nat := fU (fU (fU (zSh (zKp0 z) 3) 142 a) 143 b) 144 n
theorem zKq_eq (z : Nat → Nat) {a : Nat} (n : Nat) (ha : a < 64) : zKp z a n = zKq z a (zBk z a) n := by
  have e : zBk (zKp1 z a) a = zBk z a := by
    unfold zBk zKp1
    rw [fU_n _ _ (by omega)]
    unfold zSh
    rw [if_neg (by omega), zKp0_lo (by omega)]
  unfold zKp zKp2 zKq
  rw [e]
  rfl
def gAdd (g : Nat → Nat → Nat) (a b n : Nat) : Nat → Nat := fU (fU (fU (g 17) (g 15 1 % 12 * 3 + 0) a) (g 15 1 % 12 * 3 + 1) b) (g 15 1 % 12 * 3 + 2) n
theorem zKp0_hi {z : Nat → Nat} {j : Nat} (h : 142 ≤ j) : zKp0 z j = z j := by
  unfold zKp0
  by_cases e : z 141 < 12
  · rw [if_pos e, fU_n _ _ (by omega)]
  · rw [if_neg e]
theorem mR_add {g : Nat → Nat → Nat} {z : Nat → Nat} {a b n : Nat} (h : mR g z) : mR (fU (fU g 17 (gAdd g a b n)) 15 (fU (g 15) 1 (z 178 + 1))) (fU (zKq z a b n) 178 (z 178 + 1)) := by
  have ht : g 15 1 = z 178 := h.1 178 rfl
  obtain ⟨h1, h2, h3⟩ := h
  have k1 : zKp0 z 141 = min (z 178 + 1) 12 := by
    unfold zKp0
    by_cases e : z 141 < 12
    · rw [if_pos e, fU_s]; omega
    · rw [if_neg e]; omega
  have q1 : zKq z a b n 141 = min (z 178 + 1) 12 := by
    unfold zKq
    rw [fU_n _ _ (by omega), fU_n _ _ (by omega), fU_n _ _ (by omega)]
    unfold zSh
    rw [if_neg (by omega)]
    exact k1
  refine ⟨fun j hj => ?_, ?_, fun r q hr hq => ?_⟩
  · have hc := mK_cases hj
    by_cases e : j = 178
    · subst e
      rw [fU_s]
      show (fU (fU g 17 (gAdd g a b n)) 15 (fU (g 15) 1 (z 178 + 1))) 15 1 = z 178 + 1
      rw [fU_s, fU_s]
    · rw [fU_n (zKq z a b n) _ e]
      have e2 : zKq z a b n j = z j := by
        unfold zKq
        rw [fU_n _ _ (by omega), fU_n _ _ (by omega), fU_n _ _ (by omega)]
        unfold zSh
        rw [if_neg (by omega)]
        rcases hc with hc | hc | hc | hc
        · exact zKp0_lo (by omega)
        all_goals exact zKp0_hi (by omega)
      rw [e2, ← h1 j hj]
      by_cases e3 : mO j = 15
      · have e4 : ¬ mI j = 1 := fun e4 => e (mOI hj (show mK 178 = true from rfl) e3 e4)
        rw [e3, fU_s, fU_n _ _ e4]
      · rw [fU_n _ _ e3, fU_n _ _ (fun e5 => mO_17 hj e5.symm)]
  · rw [fU_n (zKq z a b n) _ (by decide), fU_s, q1]
  · rw [fU_n (zKq z a b n) _ (by decide), q1] at hr
    rw [fU_s, fU_n (zKq z a b n) _ (by omega), fU_n _ _ (by decide), fU_s]
    unfold gAdd zKq
    rw [ht]
    by_cases e : r = 0
    · subst e
      rw [show (z 178 + 1 - 1 - 0) % 12 * 3 + q = z 178 % 12 * 3 + q by omega]
      rcases (show q = 0 ∨ q = 1 ∨ q = 2 by omega) with rfl | rfl | rfl
      · rw [fU_n _ _ (by omega), fU_n _ _ (by omega), fU_s, fU_n _ _ (by omega), fU_n _ _ (by omega), fU_s]
      · rw [fU_n _ _ (by omega), fU_s, fU_n _ _ (by omega), fU_s]
      · rw [fU_s, fU_s]
    · have hh : ¬ (z 178 + 1 - 1 - r) % 12 = z 178 % 12 := by omega
      rw [fU_n _ _ (by omega), fU_n _ _ (by omega), fU_n _ _ (by omega), fU_n _ _ (by omega), fU_n _ _ (by omega), fU_n _ _ (by omega)]
      unfold zSh
      rw [k1, if_pos (by omega), zKp0_hi (by omega), show 142 + 3 * r + q - 3 = 142 + 3 * (r - 1) + q by omega, ← h3 (r - 1) q (by omega) hq]
      congr 2
      omega
set_option maxRecDepth 100000 in
set_option maxHeartbeats 4000000 in
/-- Trail.add -/
theorem c_X7_add (l : Launch) {X : gX} (hI : gInj X) {mem : gM} {k : Nat} (hk : k < 7) {g : Nat → Nat → Nat} {z : Nat → Nat} (hM : mR g z) (h31 : z 178 < 2 ^ 31) {a b n : Nat} : gMt l yX7_add cX7_add 5 none 1 22 X [.ref (gAd X k 15), .int (nI a), .int (nI b), .int (nI n)] (fU mem k g) (mP mem k (fU (zKq z a b n) 178 (z 178 + 1)) none) := by
  refine gMt.of (own := RX7) (by decide) rfl hI (by simp [Value.category]) (Nat.le_of_ble_eq_true rfl) ?_
  intro p e s m args below meth c ls H locs C hnm hl hR hS
  have ht : g 15 1 = z 178 := hM.1 178 rfl
  refine g_aload_n C hl dX7_add_0 rfl ?_
  refine gt_X7_1 C hk hR fl_X7_24 dX7_add_1 ?_
  rw [fU_s]
  refine g_bipush 12 C dX7_add_4 (by decide) ?_
  refine g_irem C dX7_add_6 (by omega) (by decide) (by decide) ?_
  refine g_iconst 3 C dX7_add_7 (by decide) ?_
  refine g_imul C dX7_add_8 ?_
  refine g_istore C hl dX7_add_9 (Nat.le_of_ble_eq_true rfl) (fun ls hl => ?_)
  refine g_aload_n C hl dX7_add_11 rfl ?_
  refine gt_X7_0 C hk hR fl_X7_16 dX7_add_12 ?_
  refine g_iload C hl dX7_add_15 rfl ?_
  refine g_iconst 0 C dX7_add_17 (by decide) ?_
  refine g_iadd C dX7_add_18 ?_
  refine g_iload_n C hl dX7_add_19 rfl ?_
  refine g_callVv C hl.1 hR hS (rc_X5 (gRow_16 hk)) md_X5_write ml_X7_28 (c_X5_write l hI (gRow_16 hk) (show _ < 36 by omega)) rfl rfl ⟨Nat.le_of_ble_eq_true rfl, Nat.le_of_ble_eq_true rfl⟩ ⟨Nat.le_refl _, Nat.le_refl _⟩ (Nat.le_of_ble_eq_true rfl) dX7_add_20 (fun H locs hR hS => ?_)
  rw [gP_fU] at hR
  refine g_aload_n C hl dX7_add_23 rfl ?_
  refine gt_X7_0 C hk hR fl_X7_16 dX7_add_24 ?_
  refine g_iload C hl dX7_add_27 rfl ?_
  refine g_iconst 1 C dX7_add_29 (by decide) ?_
  refine g_iadd C dX7_add_30 ?_
  refine g_iload_n C hl dX7_add_31 rfl ?_
  refine g_callVv C hl.1 hR hS (rc_X5 (gRow_16 hk)) md_X5_write ml_X7_28 (c_X5_write l hI (gRow_16 hk) (show _ < 36 by omega)) rfl rfl ⟨Nat.le_of_ble_eq_true rfl, Nat.le_of_ble_eq_true rfl⟩ ⟨Nat.le_refl _, Nat.le_refl _⟩ (Nat.le_of_ble_eq_true rfl) dX7_add_32 (fun H locs hR hS => ?_)
  rw [gP_fU] at hR
  refine g_aload_n C hl dX7_add_35 rfl ?_
  refine gt_X7_0 C hk hR fl_X7_16 dX7_add_36 ?_
  refine g_iload C hl dX7_add_39 rfl ?_
  refine g_iconst 2 C dX7_add_41 (by decide) ?_
  refine g_iadd C dX7_add_42 ?_
  refine g_iload_n C hl dX7_add_43 rfl ?_
  refine g_callVv C hl.1 hR hS (rc_X5 (gRow_16 hk)) md_X5_write ml_X7_28 (c_X5_write l hI (gRow_16 hk) (show _ < 36 by omega)) rfl rfl ⟨Nat.le_of_ble_eq_true rfl, Nat.le_of_ble_eq_true rfl⟩ ⟨Nat.le_refl _, Nat.le_refl _⟩ (Nat.le_of_ble_eq_true rfl) dX7_add_44 (fun H locs hR hS => ?_)
  rw [gP_fU] at hR
  refine g_aload_n C hl dX7_add_47 rfl ?_
  refine g_dup C dX7_add_48 rfl ?_
  refine gt_X7_1 C hk hR fl_X7_24 dX7_add_49 ?_
  rw [fU_s, fU_n _ _ (show ¬ 15 = 17 by decide), fU_n _ _ (show ¬ 15 = 17 by decide), fU_n _ _ (show ¬ 15 = 17 by decide), ht]
  refine g_iconst 1 C dX7_add_52 (by decide) ?_
  refine g_iadd C dX7_add_53 ?_
  refine pt_X7_1 C hk hR hS fl_X7_24 dX7_add_54 (fun H locs hR hS => ?_)
  rw [gP_fU] at hR
  refine g_vret C hR hS dX7_add_57 ?_
  have e : fU (fU (fU (fU g 17 (fU (g 17) (g 15 1 % 12 * 3 + 0) a)) 17 (fU (fU g 17 (fU (g 17) (g 15 1 % 12 * 3 + 0) a) 17) (g 15 1 % 12 * 3 + 1) b)) 17 (fU (fU (fU g 17 (fU (g 17) (g 15 1 % 12 * 3 + 0) a)) 17 (fU (fU g 17 (fU (g 17) (g 15 1 % 12 * 3 + 0) a) 17) (g 15 1 % 12 * 3 + 1) b) 17) (g 15 1 % 12 * 3 + 2) n)) 15 (fU (g 15) 1 (z 178 + 1)) = fU (fU g 17 (gAdd g a b n)) 15 (fU (g 15) 1 (z 178 + 1)) := by
    unfold gAdd
    rw [fU_s, fU_u, fU_s, fU_u]
  refine ⟨rfl, _, rfl, ?_⟩
  have e7 := mR_add (a := a) (b := b) (n := n) hM
  rw [← e] at e7
  exact e7
set_option maxRecDepth 100000 in
set_option maxHeartbeats 4000000 in
/-- Trail.tell -/
theorem c_X7_tell (l : Launch) {X : gX} (hI : gInj X) {mem : gM} {k : Nat} (hk : k < 7) {g : Nat → Nat → Nat} {z : Nat → Nat} (hM : mR g z) (h31 : z 178 < 2 ^ 31) {r9 w : Nat} (hr : r9 < z 141) (hw : w < 3) : gMt l yX7_tell cX7_tell 3 (some .int) 1 21 X [.ref (gAd X k 15), .int (nI r9), .int (nI w)] (fU mem k g) (fun v m => v = some (.int (nI (z (142 + 3 * r9 + w)))) ∧ m = fU mem k g) := by
  refine gMt.of (own := RX7) (by decide) rfl hI (by simp [Value.category]) (Nat.le_of_ble_eq_true rfl) ?_
  intro p e s m args below meth c ls H locs C hnm hl hR hS
  have ht : g 15 1 = z 178 := hM.1 178 rfl
  have h12 := hM.2.1
  refine g_aload_n C hl dX7_tell_0 rfl ?_
  refine gt_X7_0 C hk hR fl_X7_16 dX7_tell_1 ?_
  refine g_aload_n C hl dX7_tell_4 rfl ?_
  refine gt_X7_1 C hk hR fl_X7_24 dX7_tell_5 ?_
  rw [fU_s, ht]
  refine g_iconst 1 C dX7_tell_8 (by decide) ?_
  refine g_isub C dX7_tell_9 (by omega) ?_
  refine g_iload_n C hl dX7_tell_10 rfl ?_
  refine g_isub C dX7_tell_11 (by omega) ?_
  refine g_bipush 12 C dX7_tell_12 (by decide) ?_
  refine g_irem C dX7_tell_14 (by omega) (by decide) (by decide) ?_
  refine g_iconst 3 C dX7_tell_15 (by decide) ?_
  refine g_imul C dX7_tell_16 ?_
  refine g_iload_n C hl dX7_tell_17 rfl ?_
  refine g_iadd C dX7_tell_18 ?_
  refine g_callVi C hl.1 hR hS (rc_X5 (gRow_16 hk)) md_X5_read ml_X7_32 (c_X5_read l hI (gRow_16 hk) (show _ < 36 by omega)) rfl rfl ⟨Nat.le_of_ble_eq_true rfl, Nat.le_of_ble_eq_true rfl⟩ ⟨Nat.le_refl _, Nat.le_refl _⟩ (Nat.le_of_ble_eq_true rfl) dX7_tell_19 (fun H locs hR hS => ?_)
  rw [fU_s, hM.2.2 r9 w hr hw]
  refine g_iret C hR hS dX7_tell_22 ?_
  exact ⟨rfl, rfl⟩
end
section
/-! ===== Machine ===== -/
theorem fU_at {z : Nat → Nat} {i j x : Nat} : fU z i x j = if j = i then x else z j := rfl

set_option maxRecDepth 100000 in
set_option maxHeartbeats 4000000 in
/-- startAt -/
theorem c_X4_startAt (l : Launch) {X : gX} (hI : gInj X) {mem : gM} {k : Nat} (hk : k < 7) {g : Nat → Nat → Nat} {z : Nat → Nat} (hM : mR g z) {p9 : Nat} : gMt l yX4_startAt cX4_startAt 2 none 0 0 X [.ref (gAd X k 0), .int (nI p9)] (fU mem k g) (mP mem k (zBg z p9) none) := by
  refine gMt.of (own := RX4) (by decide) rfl hI (by simp [Value.category]) (Nat.le_of_ble_eq_true rfl) ?_
  intro p e s m args below meth c ls H locs C hnm hl hR hS
  refine g_aload_n C hl dX4_startAt_0 rfl ?_
  refine g_iload_n C hl dX4_startAt_1 rfl ?_
  refine zpt_X4_4 C hk hM hR hS fl_X4_46 dX4_startAt_2 (fun g hM H locs hR hS => ?_)
  refine g_aload_n C hl dX4_startAt_5 rfl ?_
  refine g_iconst 0 C dX4_startAt_6 (by decide) ?_
  refine zpt_X4_3 C hk hM hR hS fl_X4_42 dX4_startAt_7 (fun g hM H locs hR hS => ?_)
  refine g_aload_n C hl dX4_startAt_10 rfl ?_
  refine g_iconst 0 C dX4_startAt_11 (by decide) ?_
  refine zpt_X4_5 C hk hM hR hS fl_X4_49 dX4_startAt_12 (fun g hM H locs hR hS => ?_)
  refine g_aload_n C hl dX4_startAt_15 rfl ?_
  refine gt_X4_1 C hk hR fl_X4_21 dX4_startAt_16 ?_
  refine g_iconst 0 C dX4_startAt_19 (by decide) ?_
  refine zpn_X2_1 C hk hM hR hS fn_X4_58 dX4_startAt_20 (fun g hM H locs hR hS => ?_)
  refine g_vret C hR hS dX4_startAt_23 ?_
  exact ⟨rfl, _, rfl, hM⟩
set_option maxRecDepth 100000 in
set_option maxHeartbeats 4000000 in
/-- increase -/
theorem c_X4_increase (l : Launch) {X : gX} (hI : gInj X) {mem : gM} {k : Nat} (hk : k < 7) {g : Nat → Nat → Nat} {z : Nat → Nat} (hM : mR g z) (h9 : z 113 ≤ 999) {y : Nat} (hy : y ≤ 999) : gMt l yX4_increase cX4_increase 3 none 0 0 X [.ref (gAd X k 0), .int (nI y)] (fU mem k g) (mP mem k (fU z 113 (zSm (z 113) y)) none) := by
  refine gMt.of (own := RX4) (by decide) rfl hI (by simp [Value.category]) (Nat.le_of_ble_eq_true rfl) ?_
  intro p e s m args below meth c ls H locs C hnm hl hR hS
  refine g_aload_n C hl dX4_increase_0 rfl ?_
  refine zgt_X4_3 C hk hM hR fl_X4_42 dX4_increase_1 ?_
  refine g_iload_n C hl dX4_increase_4 rfl ?_
  refine g_iadd C dX4_increase_5 ?_
  refine g_istore_n C hl dX4_increase_6 (Nat.le_of_ble_eq_true rfl) (fun ls hl => ?_)
  refine g_aload_n C hl dX4_increase_7 rfl ?_
  refine g_iload_n C hl dX4_increase_8 rfl ?_
  refine g_sipush 999 C dX4_increase_9 (by decide) ?_
  refine g_icmp_le (tgt := 25) C dX4_increase_12 (by decide) (by omega) (by omega) (fun c12 => ?_) (fun c12 => ?_)
  · -- 12 T
    refine g_iload_n C hl dX4_increase_25 rfl ?_
    refine zpt_X4_3 C hk hM hR hS fl_X4_42 dX4_increase_26 (fun g hM H locs hR hS => ?_)
    refine g_vret C hR hS dX4_increase_29 ?_
    refine ⟨rfl, _, rfl, ?_⟩
    have e9 : zSm (z 113) y = z 113 + y := if_pos (by omega)
    rw [e9]
    exact hM
  · -- 12 F
    refine g_iload_n C hl dX4_increase_15 rfl ?_
    refine g_sipush 999 C dX4_increase_16 (by decide) ?_
    refine g_isub C dX4_increase_19 (by omega) ?_
    refine g_iconst 1 C dX4_increase_20 (by decide) ?_
    refine g_isub C dX4_increase_21 (by omega) ?_
    refine g_goto (tgt := 26) C dX4_increase_22 (by decide) ?_
    refine zpt_X4_3 C hk hM hR hS fl_X4_42 dX4_increase_26 (fun g hM H locs hR hS => ?_)
    refine g_vret C hR hS dX4_increase_29 ?_
    refine ⟨rfl, _, rfl, ?_⟩
    have e9 : zSm (z 113) y = z 113 + y - 999 - 1 := by
      unfold zSm
      rw [if_neg (by omega)]
      omega
    rw [e9]
    exact hM
theorem fU_cc (z : Nat → Nat) {i j q : Nat} (x y : Nat) (h : ¬ q = j) (h2 : j = i → x = y) : fU (fU z i x) j y q = fU z i x q := fU_n _ _ h
theorem zCl_eq {z : Nat → Nat} {w n : Nat} (hw : w < 4) (h8 : z 116 < 8) : zCl z w n = fU (fU (fU (fU (fU (fU (fU z (117 + 3 * z 116) w) (117 + 3 * z 116 + 1) (z (100 + w))) (117 + 3 * z 116 + 2) (z 114)) 116 (z 116 + 1)) (100 + w) (n / 10)) 114 (w * 16 + n % 10)) 179 (z 179 + 1) := by
  have e1 : zCl1 z w (100 + w) = z (100 + w) := fU_n _ _ (by omega)
  have e2 : zCl2 z w 114 = z 114 := by
    unfold zCl2 zCl1
    rw [fU_n _ _ (by omega), fU_n _ _ (by omega)]
  have e3 : zCl3 z w 116 = z 116 := by
    unfold zCl3 zCl2 zCl1
    rw [fU_n _ _ (by omega), fU_n _ _ (by omega), fU_n _ _ (by omega)]
  have e4 : zCl4 z w 179 = z 179 := by
    unfold zCl4 zCl3 zCl2 zCl1
    rw [fU_n _ _ (by omega), fU_n _ _ (by omega), fU_n _ _ (by omega), fU_n _ _ (by omega)]
  unfold zCl zCl5
  rw [e4]
  unfold zCl4
  rw [e3]
  unfold zCl3
  rw [e2]
  unfold zCl2
  rw [e1]
  unfold zCl1
  rw [fU_c _ (i := 179) (j := 100 + w) _ _ (by omega), fU_c _ (i := 179) (j := 114) _ _ (by decide), Nat.mul_comm 16 w]
theorem zBc_eq {z : Nat → Nat} (h0 : 0 < z 116) (h8 : z 116 ≤ 8) (hw : z (117 + 3 * (z 116 - 1)) < 4) : zBc z = fU (fU (fU z (100 + z (117 + 3 * (z 116 - 1))) (z (117 + 3 * (z 116 - 1) + 1))) 114 (z (117 + 3 * (z 116 - 1) + 2))) 116 (z 116 - 1) := by
  have e1 : zBc1 z (117 + 3 * (z 116 - 1) + 1) = z (117 + 3 * (z 116 - 1) + 1) := fU_n _ _ (by omega)
  have e2 : zBc2 z (117 + 3 * (z 116 - 1) + 2) = z (117 + 3 * (z 116 - 1) + 2) := by
    unfold zBc2 zBc1
    rw [fU_n _ _ (by omega), fU_n _ _ (by omega)]
  unfold zBc
  rw [e2]
  unfold zBc2
  rw [e1]
  unfold zBc1
  rw [fU_c _ (i := 116) (j := 100 + z (117 + 3 * (z 116 - 1))) _ _ (by omega), fU_c _ (i := 116) (j := 114) _ _ (by decide)]
set_option maxRecDepth 100000 in
set_option maxHeartbeats 4000000 in
/-- callFrom -/
theorem c_X4_callFrom (l : Launch) {X : gX} (hI : gInj X) {mem : gM} {k : Nat} (hk : k < 7) {g : Nat → Nat → Nat} {z : Nat → Nat} (hM : mR g z) (h8 : z 116 < 8) {w n : Nat} (hw : w < 4) (hn : n < 100) : gMt l yX4_callFrom cX4_callFrom 3 none 2 46 X [.ref (gAd X k 0), .int (nI w), .int (nI n)] (fU mem k g) (mP mem k (zCl z w n) none) := by
  refine gMt.of (own := RX4) (by decide) rfl hI (by simp [Value.category]) (Nat.le_of_ble_eq_true rfl) ?_
  intro p e s m args below meth c ls H locs C hnm hl hR hS
  refine g_aload_n C hl dX4_callFrom_0 rfl ?_
  refine gt_X4_1 C hk hR fl_X4_21 dX4_callFrom_1 ?_
  refine g_iload_n C hl dX4_callFrom_4 rfl ?_
  refine g_aload_n C hl dX4_callFrom_5 rfl ?_
  refine gt_X4_0 C hk hR fl_X4_12 dX4_callFrom_6 ?_
  refine gn_X0_2 C hk hR fn_X4_93 dX4_callFrom_9 ?_
  refine g_iload_n C hl dX4_callFrom_12 rfl ?_
  refine g_callVi C hl.1 hR hS (rc_X5 (gRow_6 hk)) md_X5_read ml_X4_109 (c_zr l hI hM (gRow_6 hk) mB_7 hw) rfl rfl ⟨Nat.le_of_ble_eq_true rfl, Nat.le_of_ble_eq_true rfl⟩ ⟨Nat.le_refl _, Nat.le_refl _⟩ (Nat.le_of_ble_eq_true rfl) dX4_callFrom_13 (fun H locs hR hS => ?_)
  refine g_aload_n C hl dX4_callFrom_16 rfl ?_
  refine zgt_X4_4 C hk hM hR fl_X4_46 dX4_callFrom_17 ?_
  refine g_callKv C hl.1 hR hS (rc_X2 hk) md_X2_add ml_X4_112 (c_X2_add l hI hk hM h8) rfl rfl ⟨Nat.le_of_ble_eq_true rfl, Nat.le_of_ble_eq_true rfl⟩ ⟨Nat.le_refl _, Nat.le_refl _⟩ (Nat.le_of_ble_eq_true rfl) dX4_callFrom_20 (fun g hM H locs hR hS => ?_)
  refine g_aload_n C hl dX4_callFrom_23 rfl ?_
  refine gt_X4_0 C hk hR fl_X4_12 dX4_callFrom_24 ?_
  refine gn_X0_2 C hk hR fn_X4_93 dX4_callFrom_27 ?_
  refine g_iload_n C hl dX4_callFrom_30 rfl ?_
  refine g_iload_n C hl dX4_callFrom_31 rfl ?_
  refine g_bipush 10 C dX4_callFrom_32 (by decide) ?_
  refine g_idiv C dX4_callFrom_34 (by omega) (by decide) (by decide) ?_
  refine g_callKv C hl.1 hR hS (rc_X5 (gRow_6 hk)) md_X5_write ml_X4_97 (c_zw l hI hM (gRow_6 hk) mB_7 hw) rfl rfl ⟨Nat.le_of_ble_eq_true rfl, Nat.le_of_ble_eq_true rfl⟩ ⟨Nat.le_refl _, Nat.le_refl _⟩ (Nat.le_of_ble_eq_true rfl) dX4_callFrom_35 (fun g hM H locs hR hS => ?_)
  refine g_aload_n C hl dX4_callFrom_38 rfl ?_
  refine g_iload_n C hl dX4_callFrom_39 rfl ?_
  refine g_bipush 16 C dX4_callFrom_40 (by decide) ?_
  refine g_imul C dX4_callFrom_42 ?_
  refine g_iload_n C hl dX4_callFrom_43 rfl ?_
  refine g_bipush 10 C dX4_callFrom_44 (by decide) ?_
  refine g_irem C dX4_callFrom_46 (by omega) (by decide) (by decide) ?_
  refine g_iadd C dX4_callFrom_47 ?_
  refine zpt_X4_4 C hk hM hR hS fl_X4_46 dX4_callFrom_48 (fun g hM H locs hR hS => ?_)
  refine g_aload_n C hl dX4_callFrom_51 rfl ?_
  refine g_dup C dX4_callFrom_52 rfl ?_
  refine zgt_X4_7 C hk hM hR fl_X4_55 dX4_callFrom_53 ?_
  rw [fU_n _ _ (by omega), fU_n _ _ (by omega), fU_n _ _ (by omega), fU_n _ _ (by omega), fU_n _ _ (by omega), fU_n _ _ (by omega)]
  refine g_iconst 1 C dX4_callFrom_56 (by decide) ?_
  refine g_iadd C dX4_callFrom_57 ?_
  refine zpt_X4_7 C hk hM hR hS fl_X4_55 dX4_callFrom_58 (fun g hM H locs hR hS => ?_)
  refine g_vret C hR hS dX4_callFrom_61 ?_
  rw [zCl_eq hw h8]
  exact ⟨rfl, _, rfl, hM⟩
set_option maxRecDepth 100000 in
set_option maxHeartbeats 4000000 in
/-- comeBack -/
theorem c_X4_comeBack (l : Launch) {X : gX} (hI : gInj X) {mem : gM} {k : Nat} (hk : k < 7) {g : Nat → Nat → Nat} {z : Nat → Nat} (hM : mR g z) (hz : zI z) (h0 : 0 < z 116) : gMt l yX4_comeBack cX4_comeBack 1 none 2 43 X [.ref (gAd X k 0)] (fU mem k g) (mP mem k (zBc z) none) := by
  refine gMt.of (own := RX4) (by decide) rfl hI (by simp [Value.category]) (Nat.le_of_ble_eq_true rfl) ?_
  intro p e s m args below meth c ls H locs C hnm hl hR hS
  have h116 := hz.2.2.2.2.2.2.2.1
  obtain ⟨q1, q2, q3⟩ := hz.2.2.2.2.2.2.2.2.1 (z 116 - 1) (by omega)
  refine g_aload_n C hl dX4_comeBack_0 rfl ?_
  refine gt_X4_0 C hk hR fl_X4_12 dX4_comeBack_1 ?_
  refine gn_X0_2 C hk hR fn_X4_93 dX4_comeBack_4 ?_
  refine g_aload_n C hl dX4_comeBack_7 rfl ?_
  refine gt_X4_1 C hk hR fl_X4_21 dX4_comeBack_8 ?_
  refine g_iconst 0 C dX4_comeBack_11 (by decide) ?_
  refine g_iconst 0 C dX4_comeBack_12 (by decide) ?_
  refine g_callVi C hl.1 hR hS (rc_X2 hk) md_X2_tell ml_X4_113 (c_X2_tell l hI hk hM (by omega) (by omega) (by decide)) rfl rfl ⟨Nat.le_of_ble_eq_true rfl, Nat.le_of_ble_eq_true rfl⟩ ⟨Nat.le_refl _, Nat.le_refl _⟩ (Nat.le_of_ble_eq_true rfl) dX4_comeBack_13 (fun H locs hR hS => ?_)
  rw [show z 116 - 1 - 0 = z 116 - 1 by omega, Nat.add_zero (117 + 3 * (z 116 - 1))]
  refine g_aload_n C hl dX4_comeBack_16 rfl ?_
  refine gt_X4_1 C hk hR fl_X4_21 dX4_comeBack_17 ?_
  refine g_iconst 0 C dX4_comeBack_20 (by decide) ?_
  refine g_iconst 1 C dX4_comeBack_21 (by decide) ?_
  refine g_callVi C hl.1 hR hS (rc_X2 hk) md_X2_tell ml_X4_113 (c_X2_tell l hI hk hM (by omega) (by omega) (by decide)) rfl rfl ⟨Nat.le_of_ble_eq_true rfl, Nat.le_of_ble_eq_true rfl⟩ ⟨Nat.le_refl _, Nat.le_refl _⟩ (Nat.le_of_ble_eq_true rfl) dX4_comeBack_22 (fun H locs hR hS => ?_)
  rw [show z 116 - 1 - 0 = z 116 - 1 by omega]
  refine g_callKv C hl.1 hR hS (rc_X5 (gRow_6 hk)) md_X5_write ml_X4_97 (c_zw l hI hM (gRow_6 hk) mB_7 q1) rfl rfl ⟨Nat.le_of_ble_eq_true rfl, Nat.le_of_ble_eq_true rfl⟩ ⟨Nat.le_refl _, Nat.le_refl _⟩ (Nat.le_of_ble_eq_true rfl) dX4_comeBack_25 (fun g hM H locs hR hS => ?_)
  have u116 : fU z (100 + z (117 + 3 * (z 116 - 1))) (z (117 + 3 * (z 116 - 1) + 1)) 116 = z 116 := fU_n _ _ (by omega)
  have u119 : fU z (100 + z (117 + 3 * (z 116 - 1))) (z (117 + 3 * (z 116 - 1) + 1)) (117 + 3 * (z 116 - 1) + 2) = z (117 + 3 * (z 116 - 1) + 2) := fU_n _ _ (by omega)
  refine g_aload_n C hl dX4_comeBack_28 rfl ?_
  refine g_aload_n C hl dX4_comeBack_29 rfl ?_
  refine gt_X4_1 C hk hR fl_X4_21 dX4_comeBack_30 ?_
  refine g_iconst 0 C dX4_comeBack_33 (by decide) ?_
  refine g_iconst 2 C dX4_comeBack_34 (by decide) ?_
  refine g_callVi C hl.1 hR hS (rc_X2 hk) md_X2_tell ml_X4_113 (c_X2_tell l hI hk hM (by rw [u116]; omega) (by rw [u116]; omega) (by decide)) rfl rfl ⟨Nat.le_of_ble_eq_true rfl, Nat.le_of_ble_eq_true rfl⟩ ⟨Nat.le_refl _, Nat.le_refl _⟩ (Nat.le_of_ble_eq_true rfl) dX4_comeBack_35 (fun H locs hR hS => ?_)
  rw [u116, show z 116 - 1 - 0 = z 116 - 1 by omega, u119]
  refine zpt_X4_4 C hk hM hR hS fl_X4_46 dX4_comeBack_38 (fun g hM H locs hR hS => ?_)
  refine g_aload_n C hl dX4_comeBack_41 rfl ?_
  refine gt_X4_1 C hk hR fl_X4_21 dX4_comeBack_42 ?_
  refine g_dup C dX4_comeBack_45 rfl ?_
  refine zgn_X2_1 C hk hM hR fn_X4_58 dX4_comeBack_46 ?_
  rw [fU_n _ _ (show ¬ 116 = 114 by decide), u116]
  refine g_iconst 1 C dX4_comeBack_49 (by decide) ?_
  refine g_isub C dX4_comeBack_50 (by omega) ?_
  refine zpn_X2_1 C hk hM hR hS fn_X4_58 dX4_comeBack_51 (fun g hM H locs hR hS => ?_)
  refine g_vret C hR hS dX4_comeBack_54 ?_
  rw [zBc_eq h0 h116 q1]
  exact ⟨rfl, _, rfl, hM⟩
def zBy (kind n : Nat) : Prop := (2 ≤ kind ∧ kind ≤ 5 ∧ 64 ≤ n) ∨ (kind = 6 ∧ (4 ≤ n / 10 ∨ 8 ≤ n % 10)) ∨ (kind = 7 ∧ 8 ≤ n / 10)
theorem zBy_1 {kind n : Nat} (h : zBy kind n) (z : Nat → Nat) : zWhy z kind n = 3 := if_pos h
theorem zBy_0 {kind n : Nat} (h : ¬ zBy kind n) (z : Nat → Nat) : zWhy z kind n = if kind = 7 ∧ z 116 = 8 then 4 else if kind = 8 ∧ z 116 = 0 then 5 else 0 := if_neg h
def zByD (kind n : Nat) : Nat := if (2 ≤ kind ∧ kind ≤ 5 ∧ 64 ≤ n) ∨ (kind = 6 ∧ (4 ≤ n / 10 ∨ 8 ≤ n % 10)) ∨ (kind = 7 ∧ 8 ≤ n / 10) then 1 else 0
set_option maxRecDepth 100000 in
set_option maxHeartbeats 4000000 in
/-- X4_isBeyond -/
theorem c_X4_isBeyond (l : Launch) {X : gX} (hI : gInj X) {mem : gM} {kind n : Nat} (hkd : kind < 10) (hn : n < 100) : gF l yX4_isBeyond cX4_isBeyond 2 (some .boolean) 0 0 X [.int (nI kind), .int (nI n)] mem (some (.int (nI (zByD kind n)))) mem := by
  refine gMt.of (own := RX4) (by decide) rfl hI (by simp [Value.category]) (Nat.le_of_ble_eq_true rfl) ?_
  intro p e s m args below meth c ls H locs C hnm hl hR hS
  rcases (show kind = 0 ∨ kind = 1 ∨ kind = 2 ∨ kind = 3 ∨ kind = 4 ∨ kind = 5 ∨ kind = 6 ∨ kind = 7 ∨ kind = 8 ∨ kind = 9 by omega) with rfl | rfl | rfl | rfl | rfl | rfl | rfl | rfl | rfl | rfl
  · -- 0
    refine g_iload_n C hl dX4_isBeyond_0 rfl ?_
    refine lv_tableOut (tgt := 90) C.1 C.2.1 dX4_isBeyond_1 (by decide) (by decide) ?_
    refine g_iconst 0 C dX4_isBeyond_90 (by decide) ?_
    refine g_zret C hR hS dX4_isBeyond_91 rfl ?_
    refine ⟨?_, rfl⟩
    first | (rw [show (zByD 0 n) = 1 from if_pos (by omega)]) | (rw [show (zByD 0 n) = 0 from if_neg (by omega)])
  · -- 1
    refine g_iload_n C hl dX4_isBeyond_0 rfl ?_
    refine lv_tableOut (tgt := 90) C.1 C.2.1 dX4_isBeyond_1 (by decide) (by decide) ?_
    refine g_iconst 0 C dX4_isBeyond_90 (by decide) ?_
    refine g_zret C hR hS dX4_isBeyond_91 rfl ?_
    refine ⟨?_, rfl⟩
    first | (rw [show (zByD 1 n) = 1 from if_pos (by omega)]) | (rw [show (zByD 1 n) = 0 from if_neg (by omega)])
  · -- 2
    refine g_iload_n C hl dX4_isBeyond_0 rfl ?_
    refine lv_tableIn (tgt := 40) C.1 C.2.1 dX4_isBeyond_1 (by decide) (by decide) rfl (by decide) ?_
    refine g_iload_n C hl dX4_isBeyond_40 rfl ?_
    refine g_bipush 64 C dX4_isBeyond_41 (by decide) ?_
    refine g_icmp_lt (tgt := 50) C dX4_isBeyond_43 (by decide) (by omega) (by omega) (fun c43 => ?_) (fun c43 => ?_)
    · -- 43 T
      refine g_iconst 0 C dX4_isBeyond_50 (by decide) ?_
      refine g_zret C hR hS dX4_isBeyond_51 rfl ?_
      refine ⟨?_, rfl⟩
      first | (rw [show (zByD 2 n) = 1 from if_pos (by omega)]) | (rw [show (zByD 2 n) = 0 from if_neg (by omega)])
    · -- 43 F
      refine g_iconst 1 C dX4_isBeyond_46 (by decide) ?_
      refine g_goto (tgt := 51) C dX4_isBeyond_47 (by decide) ?_
      refine g_zret C hR hS dX4_isBeyond_51 rfl ?_
      refine ⟨?_, rfl⟩
      first | (rw [show (zByD 2 n) = 1 from if_pos (by omega)]) | (rw [show (zByD 2 n) = 0 from if_neg (by omega)])
  · -- 3
    refine g_iload_n C hl dX4_isBeyond_0 rfl ?_
    refine lv_tableIn (tgt := 40) C.1 C.2.1 dX4_isBeyond_1 (by decide) (by decide) rfl (by decide) ?_
    refine g_iload_n C hl dX4_isBeyond_40 rfl ?_
    refine g_bipush 64 C dX4_isBeyond_41 (by decide) ?_
    refine g_icmp_lt (tgt := 50) C dX4_isBeyond_43 (by decide) (by omega) (by omega) (fun c43 => ?_) (fun c43 => ?_)
    · -- 43 T
      refine g_iconst 0 C dX4_isBeyond_50 (by decide) ?_
      refine g_zret C hR hS dX4_isBeyond_51 rfl ?_
      refine ⟨?_, rfl⟩
      first | (rw [show (zByD 3 n) = 1 from if_pos (by omega)]) | (rw [show (zByD 3 n) = 0 from if_neg (by omega)])
    · -- 43 F
      refine g_iconst 1 C dX4_isBeyond_46 (by decide) ?_
      refine g_goto (tgt := 51) C dX4_isBeyond_47 (by decide) ?_
      refine g_zret C hR hS dX4_isBeyond_51 rfl ?_
      refine ⟨?_, rfl⟩
      first | (rw [show (zByD 3 n) = 1 from if_pos (by omega)]) | (rw [show (zByD 3 n) = 0 from if_neg (by omega)])
  · -- 4
    refine g_iload_n C hl dX4_isBeyond_0 rfl ?_
    refine lv_tableIn (tgt := 40) C.1 C.2.1 dX4_isBeyond_1 (by decide) (by decide) rfl (by decide) ?_
    refine g_iload_n C hl dX4_isBeyond_40 rfl ?_
    refine g_bipush 64 C dX4_isBeyond_41 (by decide) ?_
    refine g_icmp_lt (tgt := 50) C dX4_isBeyond_43 (by decide) (by omega) (by omega) (fun c43 => ?_) (fun c43 => ?_)
    · -- 43 T
      refine g_iconst 0 C dX4_isBeyond_50 (by decide) ?_
      refine g_zret C hR hS dX4_isBeyond_51 rfl ?_
      refine ⟨?_, rfl⟩
      first | (rw [show (zByD 4 n) = 1 from if_pos (by omega)]) | (rw [show (zByD 4 n) = 0 from if_neg (by omega)])
    · -- 43 F
      refine g_iconst 1 C dX4_isBeyond_46 (by decide) ?_
      refine g_goto (tgt := 51) C dX4_isBeyond_47 (by decide) ?_
      refine g_zret C hR hS dX4_isBeyond_51 rfl ?_
      refine ⟨?_, rfl⟩
      first | (rw [show (zByD 4 n) = 1 from if_pos (by omega)]) | (rw [show (zByD 4 n) = 0 from if_neg (by omega)])
  · -- 5
    refine g_iload_n C hl dX4_isBeyond_0 rfl ?_
    refine lv_tableIn (tgt := 40) C.1 C.2.1 dX4_isBeyond_1 (by decide) (by decide) rfl (by decide) ?_
    refine g_iload_n C hl dX4_isBeyond_40 rfl ?_
    refine g_bipush 64 C dX4_isBeyond_41 (by decide) ?_
    refine g_icmp_lt (tgt := 50) C dX4_isBeyond_43 (by decide) (by omega) (by omega) (fun c43 => ?_) (fun c43 => ?_)
    · -- 43 T
      refine g_iconst 0 C dX4_isBeyond_50 (by decide) ?_
      refine g_zret C hR hS dX4_isBeyond_51 rfl ?_
      refine ⟨?_, rfl⟩
      first | (rw [show (zByD 5 n) = 1 from if_pos (by omega)]) | (rw [show (zByD 5 n) = 0 from if_neg (by omega)])
    · -- 43 F
      refine g_iconst 1 C dX4_isBeyond_46 (by decide) ?_
      refine g_goto (tgt := 51) C dX4_isBeyond_47 (by decide) ?_
      refine g_zret C hR hS dX4_isBeyond_51 rfl ?_
      refine ⟨?_, rfl⟩
      first | (rw [show (zByD 5 n) = 1 from if_pos (by omega)]) | (rw [show (zByD 5 n) = 0 from if_neg (by omega)])
  · -- 6
    refine g_iload_n C hl dX4_isBeyond_0 rfl ?_
    refine lv_tableIn (tgt := 52) C.1 C.2.1 dX4_isBeyond_1 (by decide) (by decide) rfl (by decide) ?_
    refine g_iload_n C hl dX4_isBeyond_52 rfl ?_
    refine g_bipush 10 C dX4_isBeyond_53 (by decide) ?_
    refine g_idiv C dX4_isBeyond_55 (by omega) (by decide) (by decide) ?_
    refine g_iconst 4 C dX4_isBeyond_56 (by decide) ?_
    refine g_icmp_ge (tgt := 69) C dX4_isBeyond_57 (by decide) (by omega) (by omega) (fun c57 => ?_) (fun c57 => ?_)
    · -- 57 T
      refine g_iconst 1 C dX4_isBeyond_69 (by decide) ?_
      refine g_goto (tgt := 74) C dX4_isBeyond_70 (by decide) ?_
      refine g_zret C hR hS dX4_isBeyond_74 rfl ?_
      refine ⟨?_, rfl⟩
      first | (rw [show (zByD 6 n) = 1 from if_pos (by omega)]) | (rw [show (zByD 6 n) = 0 from if_neg (by omega)])
    · -- 57 F
      refine g_iload_n C hl dX4_isBeyond_60 rfl ?_
      refine g_bipush 10 C dX4_isBeyond_61 (by decide) ?_
      refine g_irem C dX4_isBeyond_63 (by omega) (by decide) (by decide) ?_
      refine g_bipush 8 C dX4_isBeyond_64 (by decide) ?_
      refine g_icmp_lt (tgt := 73) C dX4_isBeyond_66 (by decide) (by omega) (by omega) (fun c66 => ?_) (fun c66 => ?_)
      · -- 66 T
        refine g_iconst 0 C dX4_isBeyond_73 (by decide) ?_
        refine g_zret C hR hS dX4_isBeyond_74 rfl ?_
        refine ⟨?_, rfl⟩
        first | (rw [show (zByD 6 n) = 1 from if_pos (by omega)]) | (rw [show (zByD 6 n) = 0 from if_neg (by omega)])
      · -- 66 F
        refine g_iconst 1 C dX4_isBeyond_69 (by decide) ?_
        refine g_goto (tgt := 74) C dX4_isBeyond_70 (by decide) ?_
        refine g_zret C hR hS dX4_isBeyond_74 rfl ?_
        refine ⟨?_, rfl⟩
        first | (rw [show (zByD 6 n) = 1 from if_pos (by omega)]) | (rw [show (zByD 6 n) = 0 from if_neg (by omega)])
  · -- 7
    refine g_iload_n C hl dX4_isBeyond_0 rfl ?_
    refine lv_tableIn (tgt := 75) C.1 C.2.1 dX4_isBeyond_1 (by decide) (by decide) rfl (by decide) ?_
    refine g_iload_n C hl dX4_isBeyond_75 rfl ?_
    refine g_bipush 10 C dX4_isBeyond_76 (by decide) ?_
    refine g_idiv C dX4_isBeyond_78 (by omega) (by decide) (by decide) ?_
    refine g_bipush 8 C dX4_isBeyond_79 (by decide) ?_
    refine g_icmp_lt (tgt := 88) C dX4_isBeyond_81 (by decide) (by omega) (by omega) (fun c81 => ?_) (fun c81 => ?_)
    · -- 81 T
      refine g_iconst 0 C dX4_isBeyond_88 (by decide) ?_
      refine g_zret C hR hS dX4_isBeyond_89 rfl ?_
      refine ⟨?_, rfl⟩
      first | (rw [show (zByD 7 n) = 1 from if_pos (by omega)]) | (rw [show (zByD 7 n) = 0 from if_neg (by omega)])
    · -- 81 F
      refine g_iconst 1 C dX4_isBeyond_84 (by decide) ?_
      refine g_goto (tgt := 89) C dX4_isBeyond_85 (by decide) ?_
      refine g_zret C hR hS dX4_isBeyond_89 rfl ?_
      refine ⟨?_, rfl⟩
      first | (rw [show (zByD 7 n) = 1 from if_pos (by omega)]) | (rw [show (zByD 7 n) = 0 from if_neg (by omega)])
  · -- 8
    refine g_iload_n C hl dX4_isBeyond_0 rfl ?_
    refine lv_tableOut (tgt := 90) C.1 C.2.1 dX4_isBeyond_1 (by decide) (by decide) ?_
    refine g_iconst 0 C dX4_isBeyond_90 (by decide) ?_
    refine g_zret C hR hS dX4_isBeyond_91 rfl ?_
    refine ⟨?_, rfl⟩
    first | (rw [show (zByD 8 n) = 1 from if_pos (by omega)]) | (rw [show (zByD 8 n) = 0 from if_neg (by omega)])
  · -- 9
    refine g_iload_n C hl dX4_isBeyond_0 rfl ?_
    refine lv_tableOut (tgt := 90) C.1 C.2.1 dX4_isBeyond_1 (by decide) (by decide) ?_
    refine g_iconst 0 C dX4_isBeyond_90 (by decide) ?_
    refine g_zret C hR hS dX4_isBeyond_91 rfl ?_
    refine ⟨?_, rfl⟩
    first | (rw [show (zByD 9 n) = 1 from if_pos (by omega)]) | (rw [show (zByD 9 n) = 0 from if_neg (by omega)])
set_option maxRecDepth 100000 in
set_option maxHeartbeats 4000000 in
/-- hindranceOf -/
theorem c_X4_hindranceOf (l : Launch) {X : gX} (hI : gInj X) {mem : gM} {k : Nat} (hk : k < 7) {g : Nat → Nat → Nat} {z : Nat → Nat} (hM : mR g z) (h8 : z 116 ≤ 8) {kind n : Nat} (hkd : kind < 10) (hn : n < 100) : gF l yX4_hindranceOf cX4_hindranceOf 3 (some .int) 1 21 X [.ref (gAd X k 0), .int (nI kind), .int (nI n)] (fU mem k g) (some (.int (nI (zWhy z kind n)))) (fU mem k g) := by
  refine gMt.of (own := RX4) (by decide) rfl hI (by simp [Value.category]) (Nat.le_of_ble_eq_true rfl) ?_
  intro p e s m args below meth c ls H locs C hnm hl hR hS
  refine g_iload_n C hl dX4_hindranceOf_0 rfl ?_
  refine g_iload_n C hl dX4_hindranceOf_1 rfl ?_
  refine g_callSi C hl.1 hR hS md_X4_isBeyond ml_X4_82 (c_X4_isBeyond l hI hkd hn) rfl rfl ⟨Nat.le_of_ble_eq_true rfl, Nat.le_of_ble_eq_true rfl⟩ ⟨Nat.le_refl _, Nat.le_refl _⟩ (Nat.le_of_ble_eq_true rfl) dX4_hindranceOf_2 (fun H locs hR hS => ?_)
  refine g_if_eq (tgt := 10) C dX4_hindranceOf_5 (by decide) (by unfold zByD; split <;> decide) (fun c5 => ?_) (fun c5 => ?_)
  · -- 5 T
    refine g_iload_n C hl dX4_hindranceOf_10 rfl ?_
    refine g_bipush 7 C dX4_hindranceOf_11 (by decide) ?_
    refine g_icmp_ne (tgt := 30) C dX4_hindranceOf_13 (by decide) (by omega) (by omega) (fun c13 => ?_) (fun c13 => ?_)
    · -- 13 T
      refine g_iload_n C hl dX4_hindranceOf_30 rfl ?_
      refine g_bipush 8 C dX4_hindranceOf_31 (by decide) ?_
      refine g_icmp_ne (tgt := 48) C dX4_hindranceOf_33 (by decide) (by omega) (by omega) (fun c33 => ?_) (fun c33 => ?_)
      · -- 33 T
        refine g_iconst 0 C dX4_hindranceOf_48 (by decide) ?_
        refine g_iret C hR hS dX4_hindranceOf_49 ?_
        have hb : ¬ zBy kind n := by
          unfold zByD at c5
          split at c5
          · cases c5
          · assumption
        rw [zBy_0 hb z]
        rw [if_neg (by omega)]
        rw [if_neg (by omega)]
        exact ⟨rfl, rfl⟩
      · -- 33 F
        refine g_aload_n C hl dX4_hindranceOf_36 rfl ?_
        refine gt_X4_1 C hk hR fl_X4_21 dX4_hindranceOf_37 ?_
        refine zgn_X2_1 C hk hM hR fn_X4_58 dX4_hindranceOf_40 ?_
        refine g_if_ne (tgt := 48) C dX4_hindranceOf_43 (by decide) (by omega) (fun c43 => ?_) (fun c43 => ?_)
        · -- 43 T
          refine g_iconst 0 C dX4_hindranceOf_48 (by decide) ?_
          refine g_iret C hR hS dX4_hindranceOf_49 ?_
          have hb : ¬ zBy kind n := by
            unfold zByD at c5
            split at c5
            · cases c5
            · assumption
          rw [zBy_0 hb z]
          rw [if_neg (by omega)]
          rw [if_neg (by omega)]
          exact ⟨rfl, rfl⟩
        · -- 43 F
          refine g_iconst 5 C dX4_hindranceOf_46 (by decide) ?_
          refine g_iret C hR hS dX4_hindranceOf_47 ?_
          have hb : ¬ zBy kind n := by
            unfold zByD at c5
            split at c5
            · cases c5
            · assumption
          rw [zBy_0 hb z]
          rw [if_neg (by omega)]
          rw [if_pos (by omega)]
          exact ⟨rfl, rfl⟩
    · -- 13 F
      refine g_aload_n C hl dX4_hindranceOf_16 rfl ?_
      refine gt_X4_1 C hk hR fl_X4_21 dX4_hindranceOf_17 ?_
      refine zgn_X2_1 C hk hM hR fn_X4_58 dX4_hindranceOf_20 ?_
      refine g_bipush 8 C dX4_hindranceOf_23 (by decide) ?_
      refine g_icmp_lt (tgt := 30) C dX4_hindranceOf_25 (by decide) (by omega) (by omega) (fun c25 => ?_) (fun c25 => ?_)
      · -- 25 T
        refine g_iload_n C hl dX4_hindranceOf_30 rfl ?_
        refine g_bipush 8 C dX4_hindranceOf_31 (by decide) ?_
        refine g_icmp_ne (tgt := 48) C dX4_hindranceOf_33 (by decide) (by omega) (by omega) (fun c33 => ?_) (fun c33 => ?_)
        · -- 33 T
          refine g_iconst 0 C dX4_hindranceOf_48 (by decide) ?_
          refine g_iret C hR hS dX4_hindranceOf_49 ?_
          have hb : ¬ zBy kind n := by
            unfold zByD at c5
            split at c5
            · cases c5
            · assumption
          rw [zBy_0 hb z]
          rw [if_neg (by omega)]
          rw [if_neg (by omega)]
          exact ⟨rfl, rfl⟩
        · -- 33 F
          refine g_aload_n C hl dX4_hindranceOf_36 rfl ?_
          refine gt_X4_1 C hk hR fl_X4_21 dX4_hindranceOf_37 ?_
          refine zgn_X2_1 C hk hM hR fn_X4_58 dX4_hindranceOf_40 ?_
          refine g_if_ne (tgt := 48) C dX4_hindranceOf_43 (by decide) (by omega) (fun c43 => ?_) (fun c43 => ?_)
          · -- 43 T
            refine g_iconst 0 C dX4_hindranceOf_48 (by decide) ?_
            refine g_iret C hR hS dX4_hindranceOf_49 ?_
            have hb : ¬ zBy kind n := by
              unfold zByD at c5
              split at c5
              · cases c5
              · assumption
            rw [zBy_0 hb z]
            rw [if_neg (by omega)]
            rw [if_neg (by omega)]
            exact ⟨rfl, rfl⟩
          · -- 43 F
            refine g_iconst 5 C dX4_hindranceOf_46 (by decide) ?_
            refine g_iret C hR hS dX4_hindranceOf_47 ?_
            have hb : ¬ zBy kind n := by
              unfold zByD at c5
              split at c5
              · cases c5
              · assumption
            rw [zBy_0 hb z]
            rw [if_neg (by omega)]
            rw [if_pos (by omega)]
            exact ⟨rfl, rfl⟩
      · -- 25 F
        refine g_iconst 4 C dX4_hindranceOf_28 (by decide) ?_
        refine g_iret C hR hS dX4_hindranceOf_29 ?_
        have hb : ¬ zBy kind n := by
          unfold zByD at c5
          split at c5
          · cases c5
          · assumption
        rw [zBy_0 hb z]
        rw [if_pos (by omega)]
        exact ⟨rfl, rfl⟩
  · -- 5 F
    refine g_iconst 3 C dX4_hindranceOf_8 (by decide) ?_
    refine g_iret C hR hS dX4_hindranceOf_9 ?_
    have hb : zBy kind n := by
      unfold zByD at c5
      split at c5
      · assumption
      · exact absurd rfl c5
    rw [zBy_1 hb z]
    exact ⟨rfl, rfl⟩
end
section
/-! ===== Machine: an order, a step ===== -/
theorem mR_wr1 {g : Nat → Nat → Nat} {z : Nat → Nat} {a x : Nat} (hb : zBk z a < 8) (h1 : z (104 + zBk z a) = 1) (hx : x = if z 112 = 1 then 2 else 0) (h : mR g (fU (fU z (190 + zBk z a) (z (190 + zBk z a) + 1)) 115 x)) : mR g (zWr z a) := by
  have e1 : zWr1 z (zBk z a) (190 + zBk z a) = z (190 + zBk z a) := fU_n _ _ (by omega)
  have e2 : zWr2 z (zBk z a) 112 = z 112 := by
    unfold zWr2 zWr1
    rw [fU_n _ _ (by omega), fU_n _ _ (by omega)]
  unfold zWr
  rw [if_pos h1]
  unfold zWr3
  rw [e2, ← hx]
  unfold zWr2
  rw [e1]
  unfold zWr1
  rw [fU_c _ (i := 181) (j := 190 + zBk z a) _ _ (by omega), fU_c _ (i := 181) (j := 115) _ _ (by decide)]
  exact mR_180 h (Or.inr rfl)
theorem mR_wr0 {g : Nat → Nat → Nat} {z : Nat → Nat} {a : Nat} (hb : zBk z a < 8) (hat : zAt z a < 100) (h1 : z (104 + zBk z a) = 0) (h0 : z 115 = 0) (h : mR g (fU (fU (fU z (zAt z a) (z 113)) (182 + zBk z a) (fU z (zAt z a) (z 113) (182 + zBk z a) + 1)) 115 0)) : mR g (zWr z a) := by
  have e1 : zWs2 z (zBk z a) a (182 + zBk z a) = zWs1 z (zBk z a) a (182 + zBk z a) := fU_n _ _ (by omega)
  unfold zWr
  rw [if_neg (by omega)]
  unfold zWs3
  rw [e1]
  unfold zWs2
  rw [fU_c _ (i := 180) (j := 182 + zBk z a) _ _ (by omega)]
  refine mR_180 ?_ (Or.inl rfl)
  unfold zWs1
  have e9 : fU (fU (fU z (zAt z a) (z 113)) (182 + zBk z a) (fU z (zAt z a) (z 113) (182 + zBk z a) + 1)) 115 0 = fU (fU z (zAt z a) (z 113)) (182 + zBk z a) (fU z (zAt z a) (z 113) (182 + zBk z a) + 1) := by
    funext j
    by_cases e : j = 115
    · subst e
      rw [fU_s, fU_n _ _ (by omega), fU_n _ _ (by omega), h0]
    · rw [fU_n _ _ e]
  rw [e9] at h
  exact h
set_option maxRecDepth 100000 in
set_option maxHeartbeats 4000000 in
/-- X4_carryOut -/
theorem c_X4_carryOut (l : Launch) {X : gX} (hI : gInj X) {mem : gM} {k : Nat} (hk : k < 7) {g : Nat → Nat → Nat} {z : Nat → Nat} (hM : mR g z) (hz : zI z) {kind n w : Nat} (hkd : kind < 10) (hn : n < 100) (hw : w < 4) (hy : zWhy z kind n = 0) (h115 : z 115 = 0) : gMt l yX4_carryOut cX4_carryOut 4 none 3 68 X [.ref (gAd X k 0), .int (nI kind), .int (nI n), .int (nI w)] (fU mem k g) (mP mem k (zOrd z kind n w) none) := by
  refine gMt.of (own := RX4) (by decide) rfl hI (by simp [Value.category]) (Nat.le_of_ble_eq_true rfl) ?_
  intro p e s m args below meth c ls H locs C hnm hl hR hS
  obtain ⟨y1, y2, y3⟩ := zWhy_0 hy
  have h113 := hz.2.2.2.2.1
  have h114 := hz.2.2.2.2.2.1
  have h116 := hz.2.2.2.2.2.2.2.1
  rcases (show kind = 0 ∨ kind = 1 ∨ kind = 2 ∨ kind = 3 ∨ kind = 4 ∨ kind = 5 ∨ kind = 6 ∨ kind = 7 ∨ kind = 8 ∨ kind = 9 by omega) with rfl | rfl | rfl | rfl | rfl | rfl | rfl | rfl | rfl | rfl
  · -- 0
    refine g_iload_n C hl dX4_carryOut_0 rfl ?_
    refine lv_tableOut (tgt := 184) C.1 C.2.1 dX4_carryOut_1 (by decide) (by decide) ?_
    refine g_aload_n C hl dX4_carryOut_184 rfl ?_
    refine g_iconst 1 C dX4_carryOut_185 (by decide) ?_
    refine zpt_X4_5 C hk hM hR hS fl_X4_49 dX4_carryOut_186 (fun g hM H locs hR hS => ?_)
    refine g_vret C hR hS dX4_carryOut_189 ?_
    refine ⟨rfl, _, rfl, ?_⟩
    exact hM
  · -- 1
    refine g_iload_n C hl dX4_carryOut_0 rfl ?_
    refine lv_tableIn (tgt := 52) C.1 C.2.1 dX4_carryOut_1 (by decide) (by decide) rfl (by decide) ?_
    refine g_aload_n C hl dX4_carryOut_52 rfl ?_
    refine g_iload_n C hl dX4_carryOut_53 rfl ?_
    refine zpt_X4_3 C hk hM hR hS fl_X4_42 dX4_carryOut_54 (fun g hM H locs hR hS => ?_)
    refine g_goto (tgt := 189) C dX4_carryOut_57 (by decide) ?_
    refine g_vret C hR hS dX4_carryOut_189 ?_
    refine ⟨rfl, _, rfl, ?_⟩
    exact hM
  · -- 2
    refine g_iload_n C hl dX4_carryOut_0 rfl ?_
    refine lv_tableIn (tgt := 60) C.1 C.2.1 dX4_carryOut_1 (by decide) (by decide) rfl (by decide) ?_
    refine g_aload_n C hl dX4_carryOut_60 rfl ?_
    refine g_aload_n C hl dX4_carryOut_61 rfl ?_
    refine gt_X4_0 C hk hR fl_X4_12 dX4_carryOut_62 ?_
    refine g_iload_n C hl dX4_carryOut_65 rfl ?_
    refine g_callVi C hl.1 hR hS (rc_X0 hk) md_X0_numberAt ml_X4_64 (c_X0_numberAt l hI hk hM hz (by omega)) rfl rfl ⟨Nat.le_of_ble_eq_true rfl, Nat.le_of_ble_eq_true rfl⟩ ⟨Nat.le_refl _, Nat.le_refl _⟩ (Nat.le_of_ble_eq_true rfl) dX4_carryOut_66 (fun H locs hR hS => ?_)
    refine g_callKv C hl.1 hR hS (rc_X4 hk) md_X4_increase ml_X4_86 (c_X4_increase l hI hk hM h113 (hz.1 _ (hz.at (by omega)))) rfl rfl ⟨Nat.le_of_ble_eq_true rfl, Nat.le_of_ble_eq_true rfl⟩ ⟨Nat.le_refl _, Nat.le_refl _⟩ (Nat.le_of_ble_eq_true rfl) dX4_carryOut_69 (fun g hM H locs hR hS => ?_)
    refine g_goto (tgt := 189) C dX4_carryOut_72 (by decide) ?_
    refine g_vret C hR hS dX4_carryOut_189 ?_
    refine ⟨rfl, _, rfl, ?_⟩
    exact hM
  · -- 3
    refine g_iload_n C hl dX4_carryOut_0 rfl ?_
    refine lv_tableIn (tgt := 75) C.1 C.2.1 dX4_carryOut_1 (by decide) (by decide) rfl (by decide) ?_
    refine g_aload_n C hl dX4_carryOut_75 rfl ?_
    refine g_aload_n C hl dX4_carryOut_76 rfl ?_
    refine gt_X4_0 C hk hR fl_X4_12 dX4_carryOut_77 ?_
    refine g_iload_n C hl dX4_carryOut_80 rfl ?_
    refine g_aload_n C hl dX4_carryOut_81 rfl ?_
    refine zgt_X4_3 C hk hM hR fl_X4_42 dX4_carryOut_82 ?_
    by_cases h9 : z (104 + zBk z n) = 1
    · -- 85 p
      refine g_callKi C hl.1 hR hS (rc_X0 hk) md_X0_storeUnlessAlone ml_X4_90 (c_X0_store1 l hI hk hM hz (by omega) h9) rfl rfl ⟨Nat.le_of_ble_eq_true rfl, Nat.le_of_ble_eq_true rfl⟩ ⟨Nat.le_refl _, Nat.le_refl _⟩ (Nat.le_of_ble_eq_true rfl) dX4_carryOut_85 (fun g hM H locs hR hS => ?_)
      refine g_if_ne (tgt := 98) C dX4_carryOut_88 (by decide) (by omega) (fun z9 => absurd z9 (by omega)) (fun c88 => ?_)
      refine g_aload_n C hl dX4_carryOut_91 rfl ?_
      refine zgt_X4_6 C hk hM hR fl_X4_52 dX4_carryOut_92 ?_
      have e112 : fU z (190 + zBk z n) (z (190 + zBk z n) + 1) 112 = z 112 := fU_n _ _ (by have := hz.bk (a := n) (by omega); omega)
      refine g_if_ne (tgt := 102) C dX4_carryOut_95 (by decide) (by have := hz.2.2.2.1; rw [fU_n _ _ (by have := hz.bk (a := n) (by omega); omega)]; omega) (fun c95 => ?_) (fun c95 => ?_)
      · -- 95 T
        refine g_iconst 2 C dX4_carryOut_102 (by decide) ?_
        have u112 : z 112 = 1 := by
          have := hz.2.2.2.1
          rw [e112] at c95
          omega
        refine zpt_X4_5 C hk hM hR hS fl_X4_49 dX4_carryOut_103 (fun g hM H locs hR hS => ?_)
        refine g_goto (tgt := 189) C dX4_carryOut_106 (by decide) ?_
        refine g_vret C hR hS dX4_carryOut_189 ?_
        refine ⟨rfl, _, rfl, ?_⟩
        exact mR_wr1 (hz.bk (by omega)) h9 (by rw [if_pos u112]) hM
      · -- 95 F
        refine g_iconst 0 C dX4_carryOut_98 (by decide) ?_
        have u112 : ¬ z 112 = 1 := by
          rw [← e112]
          omega
        refine g_goto (tgt := 103) C dX4_carryOut_99 (by decide) ?_
        refine zpt_X4_5 C hk hM hR hS fl_X4_49 dX4_carryOut_103 (fun g hM H locs hR hS => ?_)
        refine g_goto (tgt := 189) C dX4_carryOut_106 (by decide) ?_
        refine g_vret C hR hS dX4_carryOut_189 ?_
        refine ⟨rfl, _, rfl, ?_⟩
        exact mR_wr1 (hz.bk (by omega)) h9 (by rw [if_neg u112]) hM
    · -- 85 q
      refine g_callKi C hl.1 hR hS (rc_X0 hk) md_X0_storeUnlessAlone ml_X4_90 (c_X0_store0 l hI hk hM hz (by omega) (by have := hz.2.2.1 _ (hz.bk (a := n) (by omega)); omega)) rfl rfl ⟨Nat.le_of_ble_eq_true rfl, Nat.le_of_ble_eq_true rfl⟩ ⟨Nat.le_refl _, Nat.le_refl _⟩ (Nat.le_of_ble_eq_true rfl) dX4_carryOut_85 (fun g hM H locs hR hS => ?_)
      refine g_if_ne (tgt := 98) C dX4_carryOut_88 (by decide) (by omega) (fun c88 => ?_) (fun z9 => absurd z9 (by omega))
      refine g_iconst 0 C dX4_carryOut_98 (by decide) ?_
      refine g_goto (tgt := 103) C dX4_carryOut_99 (by decide) ?_
      refine zpt_X4_5 C hk hM hR hS fl_X4_49 dX4_carryOut_103 (fun g hM H locs hR hS => ?_)
      refine g_goto (tgt := 189) C dX4_carryOut_106 (by decide) ?_
      refine g_vret C hR hS dX4_carryOut_189 ?_
      refine ⟨rfl, _, rfl, ?_⟩
      exact mR_wr0 (hz.bk (by omega)) (hz.at (by omega)) (by have := hz.2.2.1 _ (hz.bk (a := n) (by omega)); omega) h115 hM
  · -- 4
    refine g_iload_n C hl dX4_carryOut_0 rfl ?_
    refine lv_tableIn (tgt := 109) C.1 C.2.1 dX4_carryOut_1 (by decide) (by decide) rfl (by decide) ?_
    refine g_aload_n C hl dX4_carryOut_109 rfl ?_
    refine g_iload_n C hl dX4_carryOut_110 rfl ?_
    refine zpt_X4_4 C hk hM hR hS fl_X4_46 dX4_carryOut_111 (fun g hM H locs hR hS => ?_)
    refine g_goto (tgt := 189) C dX4_carryOut_114 (by decide) ?_
    refine g_vret C hR hS dX4_carryOut_189 ?_
    refine ⟨rfl, _, rfl, ?_⟩
    exact hM
  · -- 5
    refine g_iload_n C hl dX4_carryOut_0 rfl ?_
    refine lv_tableIn (tgt := 117) C.1 C.2.1 dX4_carryOut_1 (by decide) (by decide) rfl (by decide) ?_
    refine g_aload_n C hl dX4_carryOut_117 rfl ?_
    refine g_aload_n C hl dX4_carryOut_118 rfl ?_
    refine zgt_X4_3 C hk hM hR fl_X4_42 dX4_carryOut_119 ?_
    refine g_if_ne (tgt := 129) C dX4_carryOut_122 (by decide) (by omega) (fun c122 => ?_) (fun c122 => ?_)
    · -- 122 T
      refine g_aload_n C hl dX4_carryOut_129 rfl ?_
      refine zgt_X4_4 C hk hM hR fl_X4_46 dX4_carryOut_130 ?_
      refine zpt_X4_4 C hk hM hR hS fl_X4_46 dX4_carryOut_133 (fun g hM H locs hR hS => ?_)
      refine g_goto (tgt := 189) C dX4_carryOut_136 (by decide) ?_
      refine g_vret C hR hS dX4_carryOut_189 ?_
      refine ⟨rfl, _, rfl, ?_⟩
      show mR g (fU z 114 (if z 113 = 0 then n else z 114))
      rw [if_neg (by omega)]
      exact hM
    · -- 122 F
      refine g_iload_n C hl dX4_carryOut_125 rfl ?_
      refine g_goto (tgt := 133) C dX4_carryOut_126 (by decide) ?_
      refine zpt_X4_4 C hk hM hR hS fl_X4_46 dX4_carryOut_133 (fun g hM H locs hR hS => ?_)
      refine g_goto (tgt := 189) C dX4_carryOut_136 (by decide) ?_
      refine g_vret C hR hS dX4_carryOut_189 ?_
      refine ⟨rfl, _, rfl, ?_⟩
      show mR g (fU z 114 (if z 113 = 0 then n else z 114))
      rw [if_pos (by omega)]
      exact hM
  · -- 6
    refine g_iload_n C hl dX4_carryOut_0 rfl ?_
    refine lv_tableIn (tgt := 139) C.1 C.2.1 dX4_carryOut_1 (by decide) (by decide) rfl (by decide) ?_
    refine g_aload_n C hl dX4_carryOut_139 rfl ?_
    refine gt_X4_0 C hk hR fl_X4_12 dX4_carryOut_140 ?_
    refine gn_X0_2 C hk hR fn_X4_93 dX4_carryOut_143 ?_
    refine g_iload_n C hl dX4_carryOut_146 rfl ?_
    refine g_bipush 10 C dX4_carryOut_147 (by decide) ?_
    refine g_idiv C dX4_carryOut_149 (by omega) (by decide) (by decide) ?_
    refine g_iload_n C hl dX4_carryOut_150 rfl ?_
    refine g_bipush 10 C dX4_carryOut_151 (by decide) ?_
    refine g_irem C dX4_carryOut_153 (by omega) (by decide) (by decide) ?_
    refine g_callKv C hl.1 hR hS (rc_X5 (gRow_6 hk)) md_X5_write ml_X4_97 (c_zw l hI hM (gRow_6 hk) mB_7 (by omega)) rfl rfl ⟨Nat.le_of_ble_eq_true rfl, Nat.le_of_ble_eq_true rfl⟩ ⟨Nat.le_refl _, Nat.le_refl _⟩ (Nat.le_of_ble_eq_true rfl) dX4_carryOut_154 (fun g hM H locs hR hS => ?_)
    refine g_goto (tgt := 189) C dX4_carryOut_157 (by decide) ?_
    refine g_vret C hR hS dX4_carryOut_189 ?_
    refine ⟨rfl, _, rfl, ?_⟩
    exact hM
  · -- 7
    refine g_iload_n C hl dX4_carryOut_0 rfl ?_
    refine lv_tableIn (tgt := 160) C.1 C.2.1 dX4_carryOut_1 (by decide) (by decide) rfl (by decide) ?_
    refine g_aload_n C hl dX4_carryOut_160 rfl ?_
    refine g_iload_n C hl dX4_carryOut_161 rfl ?_
    refine g_iload_n C hl dX4_carryOut_162 rfl ?_
    refine g_callKv C hl.1 hR hS (rc_X4 hk) md_X4_callFrom ml_X4_103 (c_X4_callFrom l hI hk hM (by omega) hw hn) rfl rfl ⟨Nat.le_of_ble_eq_true rfl, Nat.le_of_ble_eq_true rfl⟩ ⟨Nat.le_refl _, Nat.le_refl _⟩ (Nat.le_of_ble_eq_true rfl) dX4_carryOut_163 (fun g hM H locs hR hS => ?_)
    refine g_goto (tgt := 189) C dX4_carryOut_166 (by decide) ?_
    refine g_vret C hR hS dX4_carryOut_189 ?_
    refine ⟨rfl, _, rfl, ?_⟩
    exact hM
  · -- 8
    refine g_iload_n C hl dX4_carryOut_0 rfl ?_
    refine lv_tableIn (tgt := 169) C.1 C.2.1 dX4_carryOut_1 (by decide) (by decide) rfl (by decide) ?_
    refine g_aload_n C hl dX4_carryOut_169 rfl ?_
    refine g_callKv C hl.1 hR hS (rc_X4 hk) md_X4_comeBack ml_X4_106 (c_X4_comeBack l hI hk hM hz (by omega)) rfl rfl ⟨Nat.le_of_ble_eq_true rfl, Nat.le_of_ble_eq_true rfl⟩ ⟨Nat.le_refl _, Nat.le_refl _⟩ (Nat.le_of_ble_eq_true rfl) dX4_carryOut_170 (fun g hM H locs hR hS => ?_)
    refine g_goto (tgt := 189) C dX4_carryOut_173 (by decide) ?_
    refine g_vret C hR hS dX4_carryOut_189 ?_
    refine ⟨rfl, _, rfl, ?_⟩
    exact hM
  · -- 9
    refine g_iload_n C hl dX4_carryOut_0 rfl ?_
    refine lv_tableIn (tgt := 176) C.1 C.2.1 dX4_carryOut_1 (by decide) (by decide) rfl (by decide) ?_
    refine g_aload_n C hl dX4_carryOut_176 rfl ?_
    refine g_iload_n C hl dX4_carryOut_177 rfl ?_
    refine g_callKv C hl.1 hR hS (rc_X4 hk) md_X4_increase ml_X4_86 (c_X4_increase l hI hk hM h113 (by omega)) rfl rfl ⟨Nat.le_of_ble_eq_true rfl, Nat.le_of_ble_eq_true rfl⟩ ⟨Nat.le_refl _, Nat.le_refl _⟩ (Nat.le_of_ble_eq_true rfl) dX4_carryOut_178 (fun g hM H locs hR hS => ?_)
    refine g_goto (tgt := 189) C dX4_carryOut_181 (by decide) ?_
    refine g_vret C hR hS dX4_carryOut_189 ?_
    refine ⟨rfl, _, rfl, ?_⟩
    exact hM
theorem zSt1_eq {z : Nat → Nat} (had : z 114 < 64) (h12 : z 141 ≤ 12) : zSt2 z = fU (zKq z (z 114) (zBk z (z 114)) (z (zAt z (z 114)))) 178 (z 178 + 1) := by
  have e0 : zKp0 z 141 ≤ 12 := by
    unfold zKp0
    by_cases c : z 141 < 12
    · rw [if_pos c, fU_s]; omega
    · rw [if_neg c]; omega
  have e1 : zKq z (z 114) (zBk z (z 114)) (z (zAt z (z 114))) 178 = z 178 := by
    unfold zKq
    rw [fU_n _ _ (by omega), fU_n _ _ (by omega), fU_n _ _ (by omega)]
    unfold zSh
    rw [if_neg (by omega), zKp0_hi (by omega)]
  unfold zSt2 zSt1
  rw [zKq_eq _ _ had, e1]
set_option maxRecDepth 100000 in
set_option maxHeartbeats 4000000 in
/-- step -/
theorem c_X4_step (l : Launch) {X : gX} (hI : gInj X) {mem : gM} {k : Nat} (hk : k < 7) {g : Nat → Nat → Nat} {z : Nat → Nat} (hM : mR g z) (hz : zI z) (had : z 114 < 64) (h31 : z 178 < 2 ^ 31) : gMt l yX4_step cX4_step 5 none 4 91 X [.ref (gAd X k 0)] (fU mem k g) (mP mem k (zStep z) none) := by
  refine gMt.of (own := RX4) (by decide) rfl hI (by simp [Value.category]) (Nat.le_of_ble_eq_true rfl) ?_
  intro p e s m args below meth c ls H locs C hnm hl hR hS
  have hord := hz.1 _ (hz.at had)
  have h2 := zI_st2 hz
  have h3 := zI_st3 hz had
  have h4 := zI_st4 hz had
  have h5 := zI_st5 hz had
  have e114 : zSt2 z 114 = z 114 := zSt2_lo (by decide)
  refine g_aload_n C hl dX4_step_0 rfl ?_
  refine zgt_X4_4 C hk hM hR fl_X4_46 dX4_step_1 ?_
  refine g_istore_n C hl dX4_step_4 (Nat.le_of_ble_eq_true rfl) (fun ls hl => ?_)
  refine g_aload_n C hl dX4_step_5 rfl ?_
  refine gt_X4_0 C hk hR fl_X4_12 dX4_step_6 ?_
  refine g_iload_n C hl dX4_step_9 rfl ?_
  refine g_callVi C hl.1 hR hS (rc_X0 hk) md_X0_numberAt ml_X4_64 (c_X0_numberAt l hI hk hM hz had) rfl rfl ⟨Nat.le_of_ble_eq_true rfl, Nat.le_of_ble_eq_true rfl⟩ ⟨Nat.le_refl _, Nat.le_refl _⟩ (Nat.le_of_ble_eq_true rfl) dX4_step_10 (fun H locs hR hS => ?_)
  refine g_istore_n C hl dX4_step_13 (Nat.le_of_ble_eq_true rfl) (fun ls hl => ?_)
  refine g_iload_n C hl dX4_step_14 rfl ?_
  refine g_bipush 100 C dX4_step_15 (by decide) ?_
  refine g_idiv C dX4_step_17 (by omega) (by decide) (by decide) ?_
  refine g_istore_n C hl dX4_step_18 (Nat.le_of_ble_eq_true rfl) (fun ls hl => ?_)
  refine g_iload_n C hl dX4_step_19 rfl ?_
  refine g_bipush 100 C dX4_step_20 (by decide) ?_
  refine g_irem C dX4_step_22 (by omega) (by decide) (by decide) ?_
  refine g_istore C hl dX4_step_23 (Nat.le_of_ble_eq_true rfl) (fun ls hl => ?_)
  refine g_aload_n C hl dX4_step_25 rfl ?_
  refine gt_X4_2 C hk hR fl_X4_28 dX4_step_26 ?_
  refine g_iload_n C hl dX4_step_29 rfl ?_
  refine g_aload_n C hl dX4_step_30 rfl ?_
  refine gt_X4_0 C hk hR fl_X4_12 dX4_step_31 ?_
  refine g_iload_n C hl dX4_step_34 rfl ?_
  refine g_callVi C hl.1 hR hS (rc_X0 hk) md_X0_bankAt ml_X4_68 (c_X0_bankAt l hI hk hM had) rfl rfl ⟨Nat.le_of_ble_eq_true rfl, Nat.le_of_ble_eq_true rfl⟩ ⟨Nat.le_refl _, Nat.le_refl _⟩ (Nat.le_of_ble_eq_true rfl) dX4_step_35 (fun H locs hR hS => ?_)
  refine g_iload_n C hl dX4_step_38 rfl ?_
  refine g_callKv C hl.1 hR hS (rc_X7 hk) md_X7_add ml_X4_71 (c_X7_add l hI hk hM h31) rfl rfl ⟨Nat.le_of_ble_eq_true rfl, Nat.le_of_ble_eq_true rfl⟩ ⟨Nat.le_refl _, Nat.le_refl _⟩ (Nat.le_of_ble_eq_true rfl) dX4_step_39 (fun g hM H locs hR hS => ?_)
  rw [← zSt1_eq had hz.2.2.2.2.2.2.2.2.2] at hM
  refine g_aload_n C hl dX4_step_42 rfl ?_
  refine g_iload_n C hl dX4_step_43 rfl ?_
  refine g_iconst 1 C dX4_step_44 (by decide) ?_
  refine g_iadd C dX4_step_45 ?_
  refine zpt_X4_4 C hk hM hR hS fl_X4_46 dX4_step_46 (fun g hM H locs hR hS => ?_)
  rw [← e114] at hM
  have hM : mR g (zSt3 z) := hM
  refine g_aload_n C hl dX4_step_49 rfl ?_
  refine g_aload_n C hl dX4_step_50 rfl ?_
  refine g_iload_n C hl dX4_step_51 rfl ?_
  refine g_iload C hl dX4_step_52 rfl ?_
  refine g_callVi C hl.1 hR hS (rc_X4 hk) md_X4_hindranceOf ml_X4_75 (c_X4_hindranceOf l hI hk hM h3.2.2.2.2.2.2.2.1 (by omega) (by omega)) rfl rfl ⟨Nat.le_of_ble_eq_true rfl, Nat.le_of_ble_eq_true rfl⟩ ⟨Nat.le_refl _, Nat.le_refl _⟩ (Nat.le_of_ble_eq_true rfl) dX4_step_54 (fun H locs hR hS => ?_)
  refine zpt_X4_5 C hk hM hR hS fl_X4_49 dX4_step_57 (fun g hM H locs hR hS => ?_)
  have hM : mR g (zSt4 z) := hM
  refine g_aload_n C hl dX4_step_60 rfl ?_
  refine zgt_X4_5 C hk hM hR fl_X4_49 dX4_step_61 ?_
  refine g_if_ne (tgt := 78) C dX4_step_64 (by decide) (by have := h4.2.2.2.2.2.2.1; omega) (fun c64 => ?_) (fun c64 => ?_)
  · -- 64 T
    refine g_aload_n C hl dX4_step_78 rfl ?_
    refine zgt_X4_5 C hk hM hR fl_X4_49 dX4_step_79 ?_
    refine g_if_ne (tgt := 100) C dX4_step_82 (by decide) (by have := h5.2.2.2.2.2.2.1; have := h4.2.2.2.2.2.2.1; omega) (fun c82 => ?_) (fun z9 => absurd z9 (by omega))
    refine g_vret C hR hS dX4_step_100 ?_
    refine ⟨rfl, _, rfl, ?_⟩
    have e5 : zSt5 z = zSt4 z := if_neg c64
    have e6 : zStep z = zSt5 z := if_neg (by rw [e5]; omega)
    rw [e6, e5]
    exact hM
  · -- 64 F
    refine g_aload_n C hl dX4_step_67 rfl ?_
    refine g_iload_n C hl dX4_step_68 rfl ?_
    refine g_iload C hl dX4_step_69 rfl ?_
    refine g_iload_n C hl dX4_step_71 rfl ?_
    refine g_bipush 16 C dX4_step_72 (by decide) ?_
    refine g_idiv C dX4_step_74 (by omega) (by decide) (by decide) ?_
    refine g_callKv C hl.1 hR hS (rc_X4 hk) md_X4_carryOut ml_X4_79 (c_X4_carryOut l hI hk hM h4 (by omega) (by omega) (by omega) (zSt4_why c64) c64) rfl rfl ⟨Nat.le_of_ble_eq_true rfl, Nat.le_of_ble_eq_true rfl⟩ ⟨Nat.le_refl _, Nat.le_refl _⟩ (Nat.le_of_ble_eq_true rfl) dX4_step_75 (fun g hM H locs hR hS => ?_)
    have e5 : zOrd (zSt4 z) (z (zAt z (z 114)) / 100) (z (zAt z (z 114)) % 100) (z 114 / 16) = zSt5 z := (if_pos c64).symm
    rw [e5] at hM
    refine g_aload_n C hl dX4_step_78 rfl ?_
    refine zgt_X4_5 C hk hM hR fl_X4_49 dX4_step_79 ?_
    refine g_if_ne (tgt := 100) C dX4_step_82 (by decide) (by have := h5.2.2.2.2.2.2.1; have := h4.2.2.2.2.2.2.1; omega) (fun c82 => ?_) (fun c82 => ?_)
    · -- 82 T
      refine g_vret C hR hS dX4_step_100 ?_
      refine ⟨rfl, _, rfl, ?_⟩
      have e6 : zStep z = zSt5 z := if_neg (by omega)
      rw [e6]
      exact hM
    · -- 82 F
      refine g_aload_n C hl dX4_step_85 rfl ?_
      refine zgt_X4_4 C hk hM hR fl_X4_46 dX4_step_86 ?_
      refine g_bipush 64 C dX4_step_89 (by decide) ?_
      refine g_icmp_ne (tgt := 100) C dX4_step_91 (by decide) (by have := h5.2.2.2.2.2.1; omega) (by have := h5.2.2.2.2.2.1; omega) (fun c91 => ?_) (fun c91 => ?_)
      · -- 91 T
        refine g_vret C hR hS dX4_step_100 ?_
        refine ⟨rfl, _, rfl, ?_⟩
        have e6 : zStep z = zSt5 z := if_neg (by omega)
        rw [e6]
        exact hM
      · -- 91 F
        refine g_aload_n C hl dX4_step_94 rfl ?_
        refine g_bipush 6 C dX4_step_95 (by decide) ?_
        refine zpt_X4_5 C hk hM hR hS fl_X4_49 dX4_step_97 (fun g hM H locs hR hS => ?_)
        refine g_vret C hR hS dX4_step_100 ?_
        refine ⟨rfl, _, rfl, ?_⟩
        have e6 : zStep z = fU (zSt5 z) 115 6 := if_pos ⟨by omega, by omega⟩
        rw [e6]
        exact hM
theorem zKp_178 {z : Nat → Nat} {a n : Nat} (h12 : z 141 ≤ 12) : zKp z a n 178 = z 178 := by
  have e0 : zKp0 z 141 ≤ 12 := by
    unfold zKp0
    by_cases c : z 141 < 12
    · rw [if_pos c, fU_s]; omega
    · rw [if_neg c]; omega
  unfold zKp zKp2 zKp1
  rw [fU_n _ _ (by omega), fU_n _ _ (by omega), fU_n _ _ (by omega)]
  unfold zSh
  rw [if_neg (by omega), zKp0_hi (by omega)]
theorem zWr_178 {z : Nat → Nat} {a : Nat} (hb : zBk z a < 8) (hat : zAt z a < 100) : zWr z a 178 = z 178 := by
  unfold zWr
  by_cases c : z (104 + zBk z a) = 1
  · rw [if_pos c]
    unfold zWr3 zWr2 zWr1
    rw [fU_n _ _ (by omega), fU_n _ _ (by omega), fU_n _ _ (by omega)]
  · rw [if_neg c]
    unfold zWs3 zWs2 zWs1
    rw [fU_n _ _ (by omega), fU_n _ _ (by omega), fU_n _ _ (by omega)]
theorem zOrd_178 {z : Nat → Nat} {kind n w : Nat} (hz : zI z) (hk : kind < 10) (hn : n < 100) (hw : w < 4) (hy : zWhy z kind n = 0) : zOrd z kind n w 178 = z 178 := by
  have h116 := hz.2.2.2.2.2.2.2.1
  obtain ⟨y1, y2, y3⟩ := zWhy_0 hy
  match kind, hk with
  | 0, _ => exact fU_n _ _ (by omega)
  | 1, _ => exact fU_n _ _ (by omega)
  | 2, _ => exact fU_n _ _ (by omega)
  | 3, _ => exact zWr_178 (hz.bk (by omega)) (hz.at (by omega))
  | 4, _ => exact fU_n _ _ (by omega)
  | 5, _ => exact fU_n _ _ (by omega)
  | 6, _ => exact fU_n _ _ (by omega)
  | 7, _ =>
    show zCl z w n 178 = z 178
    rw [zCl_eq hw (by omega)]
    rw [fU_n _ _ (by omega), fU_n _ _ (by omega), fU_n _ _ (by omega), fU_n _ _ (by omega), fU_n _ _ (by omega), fU_n _ _ (by omega), fU_n _ _ (by omega)]
  | 8, _ =>
    obtain ⟨q1, q2, q3⟩ := hz.2.2.2.2.2.2.2.2.1 (z 116 - 1) (by omega)
    show zBc z 178 = z 178
    rw [zBc_eq (by omega) h116 q1]
    rw [fU_n _ _ (by omega), fU_n _ _ (by omega), fU_n _ _ (by omega)]
  | 9, _ => exact fU_n _ _ (by omega)
  | k + 10, h => exact absurd h (by omega)
theorem zStep_178 {z : Nat → Nat} (hz : zI z) (had : z 114 < 64) : zStep z 178 = z 178 + 1 := by
  have hord := hz.1 _ (hz.at had)
  have e2 : zSt2 z 178 = z 178 + 1 := by
    unfold zSt2
    rw [fU_s]
    unfold zSt1
    rw [zKp_178 hz.2.2.2.2.2.2.2.2.2]
  have e4 : zSt4 z 178 = z 178 + 1 := by
    unfold zSt4 zSt3
    rw [fU_n _ _ (by omega), fU_n _ _ (by omega), e2]
  have e5 : zSt5 z 178 = z 178 + 1 := by
    unfold zSt5
    by_cases c : zSt4 z 115 = 0
    · rw [if_pos c, zOrd_178 (zI_st4 hz had) (by omega) (by omega) (by omega) (zSt4_why c), e4]
    · rw [if_neg c, e4]
  unfold zStep
  by_cases c : zSt5 z 115 = 0 ∧ zSt5 z 114 = 64
  · rw [if_pos c, fU_n _ _ (by omega), e5]
  · rw [if_neg c, e5]
theorem zRun_178 {z : Nat → Nat} (hz : zI z) (hg : zG z) : ∀ n, zRun z n 178 ≤ z 178 + n
  | 0 => Nat.le_refl _
  | n + 1 => by
    have ih := zRun_178 hz hg n
    obtain ⟨h1, h2⟩ := zRun_I hz hg n
    show (if zRun z n 115 = 0 then zStep (zRun z n) else zRun z n) 178 ≤ _
    by_cases c : zRun z n 115 = 0
    · rw [if_pos c, zStep_178 h1 (h2 c)]
      omega
    · rw [if_neg c]
      omega
set_option maxRecDepth 100000 in
set_option maxHeartbeats 4000000 in
/-- X4_takeSteps -/
theorem c_X4_takeSteps (l : Launch) {X : gX} (hI : gInj X) {mem : gM} {k : Nat} (hk : k < 7) {g : Nat → Nat → Nat} {z : Nat → Nat} (hM : mR g z) (hz : zI z) (hg : zG z) (hB : z 178 ≤ 999999) {n : Nat} (hn : n < 2000) : gMt l yX4_takeSteps cX4_takeSteps 3 (some .int) 5 115 X [.ref (gAd X k 0), .int (nI n)] (fU mem k g) (mP mem k (zRun z n) (some (.int (nI (zTk z n))))) := by
  refine gMt.of (own := RX4) (by decide) rfl hI (by simp [Value.category]) (Nat.le_of_ble_eq_true rfl) ?_
  intro p e s m args below meth c ls H locs C hnm hl hR hS
  have loop : ∀ (d i : Nat), i + d = n → zTk z i = i → ∀ (ls : Array Slot) (H : Heap) (locs : List Loc) (g : Nat → Nat → Nat) (hM : mR g (zRun z i)), gL ls [some (.ref (gAd X k 0)), some (.int (nI n)), some (.int (nI i))] → gRep X (fU mem k g) H → va_S (gA X) s.heap H locs → W p l e { frames := 5, cells := 0, slots := 0, locals := 115 } s m args below meth c H locs 0 0 (MQ below (gQ X (mP mem k (zRun z n) (some (.int (nI (zTk z n)))))) args s 0 0 (gA X)) (F0 m 2 ls []) := by
    intro d
    induction d with
    | zero =>
      intro i hi ht ls H locs g hM hl hR hS
      have hi2 : i = n := by omega
      subst hi2
      refine g_iload_n C hl dX4_takeSteps_2 rfl ?_
      refine g_iload_n C hl dX4_takeSteps_3 rfl ?_
      refine g_icmp_ge (tgt := 24) C dX4_takeSteps_4 (by decide) (by omega) (by omega) (fun c4 => ?_) (fun z9 => absurd z9 (by omega))
      refine g_iload_n C hl dX4_takeSteps_24 rfl ?_
      refine g_iret C hR hS dX4_takeSteps_25 ?_
      rw [ht]
      exact ⟨rfl, _, rfl, hM⟩
    | succ d ih =>
      intro i hi ht ls H locs g hM hl hR hS
      refine g_iload_n C hl dX4_takeSteps_2 rfl ?_
      refine g_iload_n C hl dX4_takeSteps_3 rfl ?_
      refine g_icmp_ge (tgt := 24) C dX4_takeSteps_4 (by decide) (by omega) (by omega) (fun z9 => absurd z9 (by omega)) (fun c4 => ?_)
      refine g_aload_n C hl dX4_takeSteps_7 rfl ?_
      refine zgt_X4_5 C hk hM hR fl_X4_49 dX4_takeSteps_8 ?_
      refine g_if_ne (tgt := 24) C dX4_takeSteps_11 (by decide) (by have := (zRun_I hz hg i).1.2.2.2.2.2.2.1; omega) (fun c11 => ?_) (fun c11 => ?_)
      · -- 11 T
        refine g_iload_n C hl dX4_takeSteps_24 rfl ?_
        refine g_iret C hR hS dX4_takeSteps_25 ?_
        obtain ⟨e1, e2⟩ := zRun_stop c11 (n - i)
        rw [show i + (n - i) = n by omega] at e1 e2
        rw [e1, e2, ht]
        exact ⟨rfl, _, rfl, hM⟩
      · -- 11 F
        refine g_aload_n C hl dX4_takeSteps_14 rfl ?_
        refine g_callKv C hl.1 hR hS (rc_X4 hk) md_X4_step ml_X4_61 (c_X4_step l hI hk hM (zRun_I hz hg i).1 ((zRun_I hz hg i).2 c11) (by have := zRun_178 hz hg i; omega)) rfl rfl ⟨Nat.le_of_ble_eq_true rfl, Nat.le_of_ble_eq_true rfl⟩ ⟨Nat.le_refl _, Nat.le_refl _⟩ (Nat.le_of_ble_eq_true rfl) dX4_takeSteps_15 (fun g hM H locs hR hS => ?_)
        refine g_iinc (k := 1) C hl dX4_takeSteps_18 rfl (by decide) (fun ls hl => ?_)
        refine g_goto (tgt := 2) C dX4_takeSteps_21 (by decide) ?_
        have e1 : zRun z (i + 1) = zStep (zRun z i) := if_pos c11
        have e2 : zTk z (i + 1) = i + 1 := if_pos c11
        rw [← e1] at hM
        refine ih (i + 1) (by omega) e2  ls H locs g hM hl ?_ hS
        exact hR
  refine g_iconst 0 C dX4_takeSteps_0 (by decide) ?_
  refine g_istore_n C hl dX4_takeSteps_1 (Nat.le_of_ble_eq_true rfl) (fun ls hl => ?_)
  exact loop n 0 (by omega) rfl _ _ _ g hM hl hR hS
end
section
/-! ===== a Machine copied ===== -/
theorem c_zc (l : Launch) {X : gX} (hI : gInj X) {mem : gM} {k o a n k2 o2 : Nat} {g : Nat → Nat → Nat} (hkk : ¬ k2 = k) (hw : gRow k o a n) (hw2 : gRow k2 o2 a n) : gF l yX5_copyFrom cX5_copyFrom 2 none 1 48 X [.ref (gAd X k o), .ref (gAd X k2 o2)] (fU mem k g) none (fU mem k (fU g a (mem k2 a))) := by
  have h := c_X5_copyFrom l hI (mem := fU mem k g) hw hw2
  unfold gP at h
  rw [fU_n _ _ hkk, fU_s, fU_u] at h
  exact h
def mEq (g h : Nat → Nat → Nat) : Prop := (g 3 = h 3 ∧ g 5 = h 5 ∧ g 7 = h 7 ∧ g 9 = h 9 ∧ g 11 = h 11 ∧ g 14 = h 14 ∧ g 17 = h 17) ∧ g 12 1 = h 12 1 ∧ g 15 1 = h 15 1 ∧ g 0 3 = h 0 3 ∧ g 0 4 = h 0 4 ∧ g 0 5 = h 0 5 ∧ g 0 6 = h 0 6 ∧ g 0 7 = h 0 7
theorem mOI_all0 : ∀ j, j < 198 → (!mK j || (mO j == 3 || mO j == 5 || mO j == 7 || mO j == 9 || mO j == 11 || mO j == 14 || (mO j == 12 && mI j == 1) || (mO j == 15 && mI j == 1) || (mO j == 0 && (mI j == 3 || mI j == 4 || mI j == 5 || mI j == 6 || mI j == 7)))) = true := by decide +kernel
theorem mOI_all {j : Nat} (h : mK j = true) : mO j = 3 ∨ mO j = 5 ∨ mO j = 7 ∨ mO j = 9 ∨ mO j = 11 ∨ mO j = 14 ∨ (mO j = 12 ∧ mI j = 1) ∨ (mO j = 15 ∧ mI j = 1) ∨ (mO j = 0 ∧ (mI j = 3 ∨ mI j = 4 ∨ mI j = 5 ∨ mI j = 6 ∨ mI j = 7)) := by
  have h1 := mOI_all0 j (by have := mK_cases h; omega)
  rw [h] at h1
  simp only [Bool.not_true, Bool.false_or, Bool.or_eq_true, Bool.and_eq_true, beq_iff_eq] at h1
  omega
theorem mR_eq {g h : Nat → Nat → Nat} {z : Nat → Nat} (hm : mR h z) (he : mEq g h) : mR g z := by
  obtain ⟨h1, h2, h3⟩ := hm
  obtain ⟨⟨e3, e5, e7, e9, e11, e14, e17⟩, e12, e15, a3, a4, a5, a6, a7⟩ := he
  refine ⟨fun j hj => ?_, h2, fun r q hr hq => by rw [e17]; exact h3 r q hr hq⟩
  rw [← h1 j hj]
  rcases mOI_all hj with e | e | e | e | e | e | ⟨e, f⟩ | ⟨e, f⟩ | ⟨e, f⟩
  · rw [e, e3]
  · rw [e, e5]
  · rw [e, e7]
  · rw [e, e9]
  · rw [e, e11]
  · rw [e, e14]
  · rw [e, f, e12]
  · rw [e, f, e15]
  · rcases f with f | f | f | f | f
    · rw [e, f, a3]
    · rw [e, f, a4]
    · rw [e, f, a5]
    · rw [e, f, a6]
    · rw [e, f, a7]
def mCb (g h : Nat → Nat → Nat) : Nat → Nat → Nat := fU (fU (fU (fU (fU g 3 (h 3)) 5 (h 5)) 7 (h 7)) 9 (h 9)) 11 (h 11)
def mCf (g h : Nat → Nat → Nat) : Nat → Nat → Nat := fU (fU g 14 (h 14)) 12 (fU (fU g 14 (h 14) 12) 1 (h 12 1))
def mCt (g h : Nat → Nat → Nat) : Nat → Nat → Nat := fU (fU g 17 (h 17)) 15 (fU (fU g 17 (h 17) 15) 1 (h 15 1))
def mCm (g : Nat → Nat → Nat) (i x : Nat) : Nat → Nat → Nat := fU g 0 (fU (g 0) i x)
set_option maxRecDepth 100000 in
set_option maxHeartbeats 4000000 in
/-- Banks.copyFrom -/
theorem c_X0_copyFrom (l : Launch) {X : gX} (hI : gInj X) {mem : gM} {k k2 : Nat} (hk : k < 7) (hk2 : k2 < 7) (hkk : ¬ k2 = k) {g : Nat → Nat → Nat} : gF l yX0_copyFrom cX0_copyFrom 2 none 2 69 X [.ref (gAd X k 1), .ref (gAd X k2 1)] (fU mem k g) none (fU mem k (mCb g (mem k2))) := by
  refine gMt.of (own := RX0) (by decide) rfl hI (by simp [Value.category]) (Nat.le_of_ble_eq_true rfl) ?_
  intro p e s m args below meth c ls H locs C hnm hl hR hS
  refine g_aload_n C hl dX0_copyFrom_0 rfl ?_
  refine gt_X0_0 C hk hR fl_X0_14 dX0_copyFrom_1 ?_
  refine g_aload_n C hl dX0_copyFrom_4 rfl ?_
  refine gt_X0_0 C hk2 hR fl_X0_14 dX0_copyFrom_5 ?_
  refine g_callVv C hl.1 hR hS (rc_X5 (gRow_2 hk)) md_X5_copyFrom ml_X0_36 (c_zc l hI hkk (gRow_2 hk) (gRow_2 hk2)) rfl rfl ⟨Nat.le_of_ble_eq_true rfl, Nat.le_of_ble_eq_true rfl⟩ ⟨Nat.le_refl _, Nat.le_refl _⟩ (Nat.le_of_ble_eq_true rfl) dX0_copyFrom_8 (fun H locs hR hS => ?_)
  refine g_aload_n C hl dX0_copyFrom_11 rfl ?_
  refine gt_X0_1 C hk hR fl_X0_20 dX0_copyFrom_12 ?_
  refine g_aload_n C hl dX0_copyFrom_15 rfl ?_
  refine gt_X0_1 C hk2 hR fl_X0_20 dX0_copyFrom_16 ?_
  refine g_callVv C hl.1 hR hS (rc_X5 (gRow_4 hk)) md_X5_copyFrom ml_X0_36 (c_zc l hI hkk (gRow_4 hk) (gRow_4 hk2)) rfl rfl ⟨Nat.le_of_ble_eq_true rfl, Nat.le_of_ble_eq_true rfl⟩ ⟨Nat.le_refl _, Nat.le_refl _⟩ (Nat.le_of_ble_eq_true rfl) dX0_copyFrom_19 (fun H locs hR hS => ?_)
  refine g_aload_n C hl dX0_copyFrom_22 rfl ?_
  refine gt_X0_2 C hk hR fl_X0_23 dX0_copyFrom_23 ?_
  refine g_aload_n C hl dX0_copyFrom_26 rfl ?_
  refine gt_X0_2 C hk2 hR fl_X0_23 dX0_copyFrom_27 ?_
  refine g_callVv C hl.1 hR hS (rc_X5 (gRow_6 hk)) md_X5_copyFrom ml_X0_36 (c_zc l hI hkk (gRow_6 hk) (gRow_6 hk2)) rfl rfl ⟨Nat.le_of_ble_eq_true rfl, Nat.le_of_ble_eq_true rfl⟩ ⟨Nat.le_refl _, Nat.le_refl _⟩ (Nat.le_of_ble_eq_true rfl) dX0_copyFrom_30 (fun H locs hR hS => ?_)
  refine g_aload_n C hl dX0_copyFrom_33 rfl ?_
  refine gt_X0_3 C hk hR fl_X0_26 dX0_copyFrom_34 ?_
  refine g_aload_n C hl dX0_copyFrom_37 rfl ?_
  refine gt_X0_3 C hk2 hR fl_X0_26 dX0_copyFrom_38 ?_
  refine g_callVv C hl.1 hR hS (rc_X5 (gRow_8 hk)) md_X5_copyFrom ml_X0_36 (c_zc l hI hkk (gRow_8 hk) (gRow_8 hk2)) rfl rfl ⟨Nat.le_of_ble_eq_true rfl, Nat.le_of_ble_eq_true rfl⟩ ⟨Nat.le_refl _, Nat.le_refl _⟩ (Nat.le_of_ble_eq_true rfl) dX0_copyFrom_41 (fun H locs hR hS => ?_)
  refine g_aload_n C hl dX0_copyFrom_44 rfl ?_
  refine gt_X0_4 C hk hR fl_X0_29 dX0_copyFrom_45 ?_
  refine g_aload_n C hl dX0_copyFrom_48 rfl ?_
  refine gt_X0_4 C hk2 hR fl_X0_29 dX0_copyFrom_49 ?_
  refine g_callVv C hl.1 hR hS (rc_X5 (gRow_10 hk)) md_X5_copyFrom ml_X0_36 (c_zc l hI hkk (gRow_10 hk) (gRow_10 hk2)) rfl rfl ⟨Nat.le_of_ble_eq_true rfl, Nat.le_of_ble_eq_true rfl⟩ ⟨Nat.le_refl _, Nat.le_refl _⟩ (Nat.le_of_ble_eq_true rfl) dX0_copyFrom_52 (fun H locs hR hS => ?_)
  refine g_vret C hR hS dX0_copyFrom_55 ?_
  exact ⟨rfl, rfl⟩
set_option maxRecDepth 100000 in
set_option maxHeartbeats 4000000 in
/-- X2_copyFrom -/
theorem c_X2_copyFrom (l : Launch) {X : gX} (hI : gInj X) {mem : gM} {k k2 : Nat} (hk : k < 7) (hk2 : k2 < 7) (hkk : ¬ k2 = k) {g : Nat → Nat → Nat} : gF l yX2_copyFrom cX2_copyFrom 2 none 2 69 X [.ref (gAd X k 12), .ref (gAd X k2 12)] (fU mem k g) none (fU mem k (mCf g (mem k2))) := by
  refine gMt.of (own := RX2) (by decide) rfl hI (by simp [Value.category]) (Nat.le_of_ble_eq_true rfl) ?_
  intro p e s m args below meth c ls H locs C hnm hl hR hS
  refine g_aload_n C hl dX2_copyFrom_0 rfl ?_
  refine gt_X2_0 C hk hR fl_X2_16 dX2_copyFrom_1 ?_
  refine g_aload_n C hl dX2_copyFrom_4 rfl ?_
  refine gt_X2_0 C hk2 hR fl_X2_16 dX2_copyFrom_5 ?_
  refine g_callVv C hl.1 hR hS (rc_X5 (gRow_13 hk)) md_X5_copyFrom ml_X2_20 (c_zc l hI hkk (gRow_13 hk) (gRow_13 hk2)) rfl rfl ⟨Nat.le_of_ble_eq_true rfl, Nat.le_of_ble_eq_true rfl⟩ ⟨Nat.le_refl _, Nat.le_refl _⟩ (Nat.le_of_ble_eq_true rfl) dX2_copyFrom_8 (fun H locs hR hS => ?_)
  refine g_aload_n C hl dX2_copyFrom_11 rfl ?_
  refine g_aload_n C hl dX2_copyFrom_12 rfl ?_
  refine gt_X2_1 C hk2 hR fl_X2_24 dX2_copyFrom_13 ?_
  rw [fU_n _ _ hkk]
  refine pt_X2_1 C hk hR hS fl_X2_24 dX2_copyFrom_16 (fun H locs hR hS => ?_)
  rw [gP_fU] at hR
  refine g_vret C hR hS dX2_copyFrom_19 ?_
  exact ⟨rfl, rfl⟩
set_option maxRecDepth 100000 in
set_option maxHeartbeats 4000000 in
/-- X7_copyFrom -/
theorem c_X7_copyFrom (l : Launch) {X : gX} (hI : gInj X) {mem : gM} {k k2 : Nat} (hk : k < 7) (hk2 : k2 < 7) (hkk : ¬ k2 = k) {g : Nat → Nat → Nat} : gF l yX7_copyFrom cX7_copyFrom 2 none 2 69 X [.ref (gAd X k 15), .ref (gAd X k2 15)] (fU mem k g) none (fU mem k (mCt g (mem k2))) := by
  refine gMt.of (own := RX7) (by decide) rfl hI (by simp [Value.category]) (Nat.le_of_ble_eq_true rfl) ?_
  intro p e s m args below meth c ls H locs C hnm hl hR hS
  refine g_aload_n C hl dX7_copyFrom_0 rfl ?_
  refine gt_X7_0 C hk hR fl_X7_16 dX7_copyFrom_1 ?_
  refine g_aload_n C hl dX7_copyFrom_4 rfl ?_
  refine gt_X7_0 C hk2 hR fl_X7_16 dX7_copyFrom_5 ?_
  refine g_callVv C hl.1 hR hS (rc_X5 (gRow_16 hk)) md_X5_copyFrom ml_X7_20 (c_zc l hI hkk (gRow_16 hk) (gRow_16 hk2)) rfl rfl ⟨Nat.le_of_ble_eq_true rfl, Nat.le_of_ble_eq_true rfl⟩ ⟨Nat.le_refl _, Nat.le_refl _⟩ (Nat.le_of_ble_eq_true rfl) dX7_copyFrom_8 (fun H locs hR hS => ?_)
  refine g_aload_n C hl dX7_copyFrom_11 rfl ?_
  refine g_aload_n C hl dX7_copyFrom_12 rfl ?_
  refine gt_X7_1 C hk2 hR fl_X7_24 dX7_copyFrom_13 ?_
  rw [fU_n _ _ hkk]
  refine pt_X7_1 C hk hR hS fl_X7_24 dX7_copyFrom_16 (fun H locs hR hS => ?_)
  rw [gP_fU] at hR
  refine g_vret C hR hS dX7_copyFrom_19 ?_
  exact ⟨rfl, rfl⟩
set_option maxRecDepth 100000 in
set_option maxHeartbeats 4000000 in
/-- X4_copyFrom -/
theorem c_X4_copyFrom (l : Launch) {X : gX} (hI : gInj X) {mem : gM} {k k2 : Nat} (hk : k < 7) (hk2 : k2 < 7) (hkk : ¬ k2 = k) {z : Nat → Nat} (hM2 : mR (mem k2) z) : gMt l yX4_copyFrom cX4_copyFrom 2 none 3 90 X [.ref (gAd X k 0), .ref (gAd X k2 0)] mem (mP mem k z none) := by
  refine gMt.of (own := RX4) (by decide) rfl hI (by simp [Value.category]) (Nat.le_of_ble_eq_true rfl) ?_
  intro p e s m args below meth c ls H locs C hnm hl hR hS
  rw [← fU_self mem k] at hR
  refine g_aload_n C hl dX4_copyFrom_0 rfl ?_
  refine gt_X4_0 C hk hR fl_X4_12 dX4_copyFrom_1 ?_
  refine g_aload_n C hl dX4_copyFrom_4 rfl ?_
  refine gt_X4_0 C hk2 hR fl_X4_12 dX4_copyFrom_5 ?_
  refine g_callVv C hl.1 hR hS (rc_X0 hk) md_X0_copyFrom ml_X4_32 (c_X0_copyFrom l hI hk hk2 hkk) rfl rfl ⟨Nat.le_of_ble_eq_true rfl, Nat.le_of_ble_eq_true rfl⟩ ⟨Nat.le_refl _, Nat.le_refl _⟩ (Nat.le_of_ble_eq_true rfl) dX4_copyFrom_8 (fun H locs hR hS => ?_)
  refine g_aload_n C hl dX4_copyFrom_11 rfl ?_
  refine gt_X4_1 C hk hR fl_X4_21 dX4_copyFrom_12 ?_
  refine g_aload_n C hl dX4_copyFrom_15 rfl ?_
  refine gt_X4_1 C hk2 hR fl_X4_21 dX4_copyFrom_16 ?_
  refine g_callVv C hl.1 hR hS (rc_X2 hk) md_X2_copyFrom ml_X4_36 (c_X2_copyFrom l hI hk hk2 hkk) rfl rfl ⟨Nat.le_of_ble_eq_true rfl, Nat.le_of_ble_eq_true rfl⟩ ⟨Nat.le_refl _, Nat.le_refl _⟩ (Nat.le_of_ble_eq_true rfl) dX4_copyFrom_19 (fun H locs hR hS => ?_)
  refine g_aload_n C hl dX4_copyFrom_22 rfl ?_
  refine gt_X4_2 C hk hR fl_X4_28 dX4_copyFrom_23 ?_
  refine g_aload_n C hl dX4_copyFrom_26 rfl ?_
  refine gt_X4_2 C hk2 hR fl_X4_28 dX4_copyFrom_27 ?_
  refine g_callVv C hl.1 hR hS (rc_X7 hk) md_X7_copyFrom ml_X4_39 (c_X7_copyFrom l hI hk hk2 hkk) rfl rfl ⟨Nat.le_of_ble_eq_true rfl, Nat.le_of_ble_eq_true rfl⟩ ⟨Nat.le_refl _, Nat.le_refl _⟩ (Nat.le_of_ble_eq_true rfl) dX4_copyFrom_30 (fun H locs hR hS => ?_)
  refine g_aload_n C hl dX4_copyFrom_33 rfl ?_
  refine g_aload_n C hl dX4_copyFrom_34 rfl ?_
  refine gt_X4_3 C hk2 hR fl_X4_42 dX4_copyFrom_35 ?_
  rw [fU_n _ _ hkk]
  refine pt_X4_3 C hk hR hS fl_X4_42 dX4_copyFrom_38 (fun H locs hR hS => ?_)
  rw [gP_fU] at hR
  refine g_aload_n C hl dX4_copyFrom_41 rfl ?_
  refine g_aload_n C hl dX4_copyFrom_42 rfl ?_
  refine gt_X4_4 C hk2 hR fl_X4_46 dX4_copyFrom_43 ?_
  rw [fU_n _ _ hkk]
  refine pt_X4_4 C hk hR hS fl_X4_46 dX4_copyFrom_46 (fun H locs hR hS => ?_)
  rw [gP_fU] at hR
  refine g_aload_n C hl dX4_copyFrom_49 rfl ?_
  refine g_aload_n C hl dX4_copyFrom_50 rfl ?_
  refine gt_X4_5 C hk2 hR fl_X4_49 dX4_copyFrom_51 ?_
  rw [fU_n _ _ hkk]
  refine pt_X4_5 C hk hR hS fl_X4_49 dX4_copyFrom_54 (fun H locs hR hS => ?_)
  rw [gP_fU] at hR
  refine g_aload_n C hl dX4_copyFrom_57 rfl ?_
  refine g_aload_n C hl dX4_copyFrom_58 rfl ?_
  refine gt_X4_6 C hk2 hR fl_X4_52 dX4_copyFrom_59 ?_
  rw [fU_n _ _ hkk]
  refine pt_X4_6 C hk hR hS fl_X4_52 dX4_copyFrom_62 (fun H locs hR hS => ?_)
  rw [gP_fU] at hR
  refine g_aload_n C hl dX4_copyFrom_65 rfl ?_
  refine g_aload_n C hl dX4_copyFrom_66 rfl ?_
  refine gt_X4_7 C hk2 hR fl_X4_55 dX4_copyFrom_67 ?_
  rw [fU_n _ _ hkk]
  refine pt_X4_7 C hk hR hS fl_X4_55 dX4_copyFrom_70 (fun H locs hR hS => ?_)
  rw [gP_fU] at hR
  refine g_vret C hR hS dX4_copyFrom_73 ?_
  refine ⟨rfl, _, rfl, mR_eq hM2 ?_⟩
  exact ⟨⟨rfl, rfl, rfl, rfl, rfl, rfl, rfl⟩, rfl, rfl, rfl, rfl, rfl, rfl, rfl⟩
/-! ===== History ===== -/
def hHi (mem : gM) (n : Nat) (h : Nat → Nat → Nat) : Prop := mem 7 1 1 = n ∧ n ≤ 4 ∧ (∀ j, j < 4 → 3 ≤ mem 7 2 j ∧ mem 7 2 j < 7) ∧ (∀ i j, i < 4 → j < 4 → mem 7 2 i = mem 7 2 j → i = j) ∧ ∀ i, i < n → mR (mem (mem 7 2 i)) (h i)
def hFr (mem mem' : gM) : Prop := (∀ k, k < 3 ∨ 7 < k → mem' k = mem k) ∧ ∀ o, ¬ o = 1 → ¬ o = 2 → mem' 7 o = mem 7 o
def gRot (s : Nat → Nat) : Nat → Nat := fU (fU (fU (fU s 0 (s 1)) 1 (s 2)) 2 (s 3)) 3 (s 0)
theorem hR_rot {mem : gM} {h : Nat → Nat → Nat} (hh : hHi mem 4 h) : hHi (gP (gP mem 7 2 (gRot (mem 7 2))) 7 1 (fU (mem 7 1) 1 3)) 3 (fun i => h (i + 1)) := by
  obtain ⟨h1, h2, h3, h4, h5⟩ := hh
  have e2 : (gP (gP mem 7 2 (gRot (mem 7 2))) 7 1 (fU (mem 7 1) 1 3)) 7 2 = gRot (mem 7 2) := by
    rw [gP_n _ _ (by decide), gP_s]
  have r0 : gRot (mem 7 2) 0 = mem 7 2 1 := rfl
  have r1 : gRot (mem 7 2) 1 = mem 7 2 2 := rfl
  have r2 : gRot (mem 7 2) 2 = mem 7 2 3 := rfl
  have r3 : gRot (mem 7 2) 3 = mem 7 2 0 := rfl
  have a0 := h3 0 (by decide)
  have a1 := h3 1 (by decide)
  have a2 := h3 2 (by decide)
  have a3 := h3 3 (by decide)
  have b01 : ¬ mem 7 2 0 = mem 7 2 1 := fun e => absurd (h4 0 1 (by decide) (by decide) e) (by decide)
  have b02 : ¬ mem 7 2 0 = mem 7 2 2 := fun e => absurd (h4 0 2 (by decide) (by decide) e) (by decide)
  have b03 : ¬ mem 7 2 0 = mem 7 2 3 := fun e => absurd (h4 0 3 (by decide) (by decide) e) (by decide)
  have b12 : ¬ mem 7 2 1 = mem 7 2 2 := fun e => absurd (h4 1 2 (by decide) (by decide) e) (by decide)
  have b13 : ¬ mem 7 2 1 = mem 7 2 3 := fun e => absurd (h4 1 3 (by decide) (by decide) e) (by decide)
  have b23 : ¬ mem 7 2 2 = mem 7 2 3 := fun e => absurd (h4 2 3 (by decide) (by decide) e) (by decide)
  refine ⟨?_, by decide, ?_, ?_, ?_⟩
  · rw [gP_s]; rfl
  · rw [e2]
    intro j hj
    rcases (show j = 0 ∨ j = 1 ∨ j = 2 ∨ j = 3 by omega) with rfl | rfl | rfl | rfl
    · rw [r0]; exact a1
    · rw [r1]; exact a2
    · rw [r2]; exact a3
    · rw [r3]; exact a0
  · rw [e2]
    intro i j hi hj e
    rcases (show i = 0 ∨ i = 1 ∨ i = 2 ∨ i = 3 by omega) with rfl | rfl | rfl | rfl <;> rcases (show j = 0 ∨ j = 1 ∨ j = 2 ∨ j = 3 by omega) with rfl | rfl | rfl | rfl <;> simp only [r0, r1, r2, r3] at e <;> omega
  · rw [e2]
    intro i hi
    have key : ∀ q, q < 4 → mR ((gP (gP mem 7 2 (gRot (mem 7 2))) 7 1 (fU (mem 7 1) 1 3)) (mem 7 2 q)) (h q) := fun q hq => by
      have := h3 q hq
      rw [gP_nk _ _ (by omega), gP_nk _ _ (by omega)]
      exact h5 q hq
    rcases (show i = 0 ∨ i = 1 ∨ i = 2 by omega) with rfl | rfl | rfl
    · rw [r0]; exact key 1 (by decide)
    · rw [r1]; exact key 2 (by decide)
    · rw [r2]; exact key 3 (by decide)
theorem hR_add {mem : gM} {h : Nat → Nat → Nat} {n : Nat} {g : Nat → Nat → Nat} {z : Nat → Nat} (hh : hHi mem n h) (h4 : n < 4) (hM : mR g z) : hHi (gP (fU mem (mem 7 2 n) g) 7 1 (fU ((fU mem (mem 7 2 n) g) 7 1) 1 (n + 1))) (n + 1) (fU h n z) ∧ hFr mem (gP (fU mem (mem 7 2 n) g) 7 1 (fU ((fU mem (mem 7 2 n) g) 7 1) 1 (n + 1))) := by
  obtain ⟨h1, h2, h3, h4', h5⟩ := hh
  have hn := h3 n h4
  have e7 : fU mem (mem 7 2 n) g 7 = mem 7 := fU_n _ _ (by omega)
  have e2 : (gP (fU mem (mem 7 2 n) g) 7 1 (fU ((fU mem (mem 7 2 n) g) 7 1) 1 (n + 1))) 7 2 = mem 7 2 := by
    rw [gP_n _ _ (by decide), e7]
  refine ⟨⟨?_, by omega, ?_, ?_, ?_⟩, ?_, ?_⟩
  · rw [gP_s, fU_s]
  · rw [e2]; exact h3
  · rw [e2]; exact h4'
  · rw [e2]
    intro i hi
    have hi3 := h3 i (by omega)
    rw [gP_nk _ _ (by omega)]
    by_cases e : i = n
    · subst e
      rw [fU_s, fU_s]
      exact hM
    · rw [fU_n _ _ (fun e9 => e (h4' i n (by omega) h4 e9)), fU_n _ _ e]
      exact h5 i (by omega)
  · intro k hk
    rw [gP_nk _ _ (by omega), fU_n _ _ (by omega)]
  · intro o ho1 ho2
    rw [gP_n _ _ (by omega), e7]
theorem hFr.trans {a b c : gM} (h1 : hFr a b) (h2 : hFr b c) : hFr a c := ⟨fun k hk => (h2.1 k hk).trans (h1.1 k hk), fun o a b => (h2.2 o a b).trans (h1.2 o a b)⟩
theorem hFr_rot (mem : gM) (f f' : Nat → Nat) : hFr mem (gP (gP mem 7 2 f) 7 1 f') := ⟨fun k hk => by rw [gP_nk _ _ (by omega), gP_nk _ _ (by omega)], fun o h1 h2 => by rw [gP_n _ _ (by omega), gP_n _ _ (by omega)]⟩
set_option maxRecDepth 100000 in
set_option maxHeartbeats 4000000 in
/-- X3_dropOldest -/
theorem c_X3_dropOldest (l : Launch) {X : gX} (hI : gInj X) {mem : gM} (h4 : mem 7 1 1 = 4) (h7 : ∀ j, j < 4 → mem 7 2 j < 7) : gF l yX3_dropOldest cX3_dropOldest 3 none 0 0 X [.ref (gAd X 7 1)] mem none (gP (gP mem 7 2 (gRot (mem 7 2))) 7 1 (fU (mem 7 1) 1 3)) := by
  refine gMt.of (own := RX3) (by decide) rfl hI (by simp [Value.category]) (Nat.le_of_ble_eq_true rfl) ?_
  intro p e s m args below meth c ls H locs C hnm hl hR hS
  have a0 := h7 0 (by decide)
  have a1 := h7 1 (by decide)
  have a2 := h7 2 (by decide)
  have a3 := h7 3 (by decide)
  refine g_aload_n C hl dX3_dropOldest_0 rfl ?_
  refine gt_X3_0 C hR fl_X3_11 dX3_dropOldest_1 ?_
  refine g_iconst 0 C dX3_dropOldest_4 (by decide) ?_
  refine g_aald C hR (by omega) dX3_dropOldest_5 ?_
  refine g_astore_n C hl dX3_dropOldest_6 (Nat.le_of_ble_eq_true rfl) (fun ls hl => ?_)
  refine g_iconst 1 C dX3_dropOldest_7 (by decide) ?_
  refine g_istore_n C hl dX3_dropOldest_8 (Nat.le_of_ble_eq_true rfl) (fun ls hl => ?_)
  refine g_iload_n C hl dX3_dropOldest_9 rfl ?_
  refine g_aload_n C hl dX3_dropOldest_10 rfl ?_
  refine gt_X3_0 C hR fl_X3_11 dX3_dropOldest_11 ?_
  refine g_slen C hR dX3_dropOldest_14 ?_
  refine g_icmp_ge (tgt := 38) C dX3_dropOldest_15 (by decide) (by omega) (by omega) (fun z9 => absurd z9 (by omega)) (fun c15 => ?_)
  refine g_aload_n C hl dX3_dropOldest_18 rfl ?_
  refine gt_X3_0 C hR fl_X3_11 dX3_dropOldest_19 ?_
  refine g_iload_n C hl dX3_dropOldest_22 rfl ?_
  refine g_iconst 1 C dX3_dropOldest_23 (by decide) ?_
  refine g_isub C dX3_dropOldest_24 (by omega) ?_
  refine g_aload_n C hl dX3_dropOldest_25 rfl ?_
  refine gt_X3_0 C hR fl_X3_11 dX3_dropOldest_26 ?_
  refine g_iload_n C hl dX3_dropOldest_29 rfl ?_
  refine g_aald C hR (by omega) dX3_dropOldest_30 ?_
  refine g_aast C hR hS (by omega) (by first | exact a1 | exact a2 | exact a3) dX3_dropOldest_31 (fun H locs hR hS => ?_)
  refine g_iinc (k := 1) C hl dX3_dropOldest_32 rfl (by decide) (fun ls hl => ?_)
  refine g_goto (tgt := 9) C dX3_dropOldest_35 (by decide) ?_
  refine g_iload_n C hl dX3_dropOldest_9 rfl ?_
  refine g_aload_n C hl dX3_dropOldest_10 rfl ?_
  refine gt_X3_0 C hR fl_X3_11 dX3_dropOldest_11 ?_
  refine g_slen C hR dX3_dropOldest_14 ?_
  refine g_icmp_ge (tgt := 38) C dX3_dropOldest_15 (by decide) (by omega) (by omega) (fun z9 => absurd z9 (by omega)) (fun c15 => ?_)
  refine g_aload_n C hl dX3_dropOldest_18 rfl ?_
  refine gt_X3_0 C hR fl_X3_11 dX3_dropOldest_19 ?_
  refine g_iload_n C hl dX3_dropOldest_22 rfl ?_
  refine g_iconst 1 C dX3_dropOldest_23 (by decide) ?_
  refine g_isub C dX3_dropOldest_24 (by omega) ?_
  refine g_aload_n C hl dX3_dropOldest_25 rfl ?_
  refine gt_X3_0 C hR fl_X3_11 dX3_dropOldest_26 ?_
  refine g_iload_n C hl dX3_dropOldest_29 rfl ?_
  refine g_aald C hR (by omega) dX3_dropOldest_30 ?_
  rw [gP_s]
  refine g_aast C hR hS (by omega) (by first | exact a1 | exact a2 | exact a3) dX3_dropOldest_31 (fun H locs hR hS => ?_)
  rw [gP_s, gP_u] at hR
  refine g_iinc (k := 1) C hl dX3_dropOldest_32 rfl (by decide) (fun ls hl => ?_)
  refine g_goto (tgt := 9) C dX3_dropOldest_35 (by decide) ?_
  refine g_iload_n C hl dX3_dropOldest_9 rfl ?_
  refine g_aload_n C hl dX3_dropOldest_10 rfl ?_
  refine gt_X3_0 C hR fl_X3_11 dX3_dropOldest_11 ?_
  refine g_slen C hR dX3_dropOldest_14 ?_
  refine g_icmp_ge (tgt := 38) C dX3_dropOldest_15 (by decide) (by omega) (by omega) (fun z9 => absurd z9 (by omega)) (fun c15 => ?_)
  refine g_aload_n C hl dX3_dropOldest_18 rfl ?_
  refine gt_X3_0 C hR fl_X3_11 dX3_dropOldest_19 ?_
  refine g_iload_n C hl dX3_dropOldest_22 rfl ?_
  refine g_iconst 1 C dX3_dropOldest_23 (by decide) ?_
  refine g_isub C dX3_dropOldest_24 (by omega) ?_
  refine g_aload_n C hl dX3_dropOldest_25 rfl ?_
  refine gt_X3_0 C hR fl_X3_11 dX3_dropOldest_26 ?_
  refine g_iload_n C hl dX3_dropOldest_29 rfl ?_
  refine g_aald C hR (by omega) dX3_dropOldest_30 ?_
  rw [gP_s]
  refine g_aast C hR hS (by omega) (by first | exact a1 | exact a2 | exact a3) dX3_dropOldest_31 (fun H locs hR hS => ?_)
  rw [gP_s, gP_u] at hR
  refine g_iinc (k := 1) C hl dX3_dropOldest_32 rfl (by decide) (fun ls hl => ?_)
  refine g_goto (tgt := 9) C dX3_dropOldest_35 (by decide) ?_
  refine g_iload_n C hl dX3_dropOldest_9 rfl ?_
  refine g_aload_n C hl dX3_dropOldest_10 rfl ?_
  refine gt_X3_0 C hR fl_X3_11 dX3_dropOldest_11 ?_
  refine g_slen C hR dX3_dropOldest_14 ?_
  refine g_icmp_ge (tgt := 38) C dX3_dropOldest_15 (by decide) (by omega) (by omega) (fun c15 => ?_) (fun z9 => absurd z9 (by omega))
  refine g_aload_n C hl dX3_dropOldest_38 rfl ?_
  refine gt_X3_0 C hR fl_X3_11 dX3_dropOldest_39 ?_
  refine g_aload_n C hl dX3_dropOldest_42 rfl ?_
  refine gt_X3_0 C hR fl_X3_11 dX3_dropOldest_43 ?_
  refine g_slen C hR dX3_dropOldest_46 ?_
  refine g_iconst 1 C dX3_dropOldest_47 (by decide) ?_
  refine g_isub C dX3_dropOldest_48 (by omega) ?_
  refine g_aload_n C hl dX3_dropOldest_49 rfl ?_
  refine g_aast C hR hS (by omega) a0 dX3_dropOldest_50 (fun H locs hR hS => ?_)
  rw [gP_s, gP_u] at hR
  refine g_aload_n C hl dX3_dropOldest_51 rfl ?_
  refine g_dup C dX3_dropOldest_52 rfl ?_
  refine gt_X3_1 C hR fl_X3_18 dX3_dropOldest_53 ?_
  rw [gP_n _ _ (by decide), h4]
  refine g_iconst 1 C dX3_dropOldest_56 (by decide) ?_
  refine g_isub C dX3_dropOldest_57 (by omega) ?_
  refine pt_X3_1 C hR hS fl_X3_18 dX3_dropOldest_58 (fun H locs hR hS => ?_)
  rw [gP_n _ _ (show ¬ (7 = 7 ∧ 1 = 2) by decide)] at hR
  refine g_vret C hR hS dX3_dropOldest_61 ?_
  exact ⟨rfl, rfl⟩
end
section
/-! ===== History: remember, bringBack ===== -/
theorem hFr.rfl' (mem : gM) : hFr mem mem := ⟨fun _ _ => rfl, fun _ _ _ => rfl⟩
theorem hFr.m {a b : gM} (h : hFr a b) {k : Nat} (hk : k < 3 ∨ 7 < k) : b k = a k := h.1 k hk
set_option maxRecDepth 100000 in
set_option maxHeartbeats 4000000 in
/-- X3_remember -/
theorem c_X3_remember (l : Launch) {X : gX} (hI : gInj X) {mem : gM} {n : Nat} {h : Nat → Nat → Nat} {z : Nat → Nat} (hh : hHi mem n h) (hM : mR (mem 0) z) : gMt l yX3_remember cX3_remember 2 none 4 111 X [.ref (gAd X 7 1), .ref (gAd X 0 0)] mem (fun v9 m9 => v9 = none ∧ hHi m9 (rN n) (aHr n h z) ∧ hFr mem m9) := by
  refine gMt.of (own := RX3) (by decide) rfl hI (by simp [Value.category]) (Nat.le_of_ble_eq_true rfl) ?_
  intro p e s m args below meth c ls H locs C hnm hl hR hS
  have hn4 := hh.2.1
  have tail : ∀ (mem1 : gM) (n1 : Nat) (h1 : Nat → Nat → Nat), hHi mem1 n1 h1 → n1 < 4 → hFr mem mem1 → rN n = n1 + 1 → aHr n h z = fU h1 n1 z → ∀ (ls : Array Slot) (H : Heap) (locs : List Loc), gL ls [some (.ref (gAd X 7 1)), some (.ref (gAd X 0 0))] → gRep X mem1 H → va_S (gA X) s.heap H locs → W p l e { frames := 4, cells := 0, slots := 0, locals := 111 } s m args below meth c H locs 0 0 (MQ below (gQ X (fun v9 m9 => v9 = none ∧ hHi m9 (rN n) (aHr n h z) ∧ hFr mem m9)) args s 0 0 (gA X)) (F0 m 12 ls []) := by
    intro mem1 n1 h1 hh h4 hf en eh ls H locs hl hR9 hS
    have hR := hR9
    have hM1 : mR (mem1 0) z := by rw [hf.m (Or.inl (by decide))]; exact hM
    have hsz := hh.1
    have hK := hh.2.2.1 n1 h4
    refine g_aload_n C hl dX3_remember_12 rfl ?_
    refine gt_X3_1 C hR fl_X3_18 dX3_remember_13 ?_
    rw [hsz]
    refine g_if_lt (tgt := 54) C dX3_remember_16 (by decide) (by omega) ?_
    refine g_aload_n C hl dX3_remember_19 rfl ?_
    refine gt_X3_1 C hR fl_X3_18 dX3_remember_20 ?_
    rw [hsz]
    refine g_aload_n C hl dX3_remember_23 rfl ?_
    refine gt_X3_0 C hR fl_X3_11 dX3_remember_24 ?_
    refine g_slen C hR dX3_remember_27 ?_
    refine g_icmp_ge (tgt := 54) C dX3_remember_28 (by decide) (by omega) (by omega) (fun z9 => absurd z9 (by omega)) (fun c28 => ?_)
    refine g_aload_n C hl dX3_remember_31 rfl ?_
    refine gt_X3_0 C hR fl_X3_11 dX3_remember_32 ?_
    refine g_aload_n C hl dX3_remember_35 rfl ?_
    refine gt_X3_1 C hR fl_X3_18 dX3_remember_36 ?_
    rw [hsz]
    refine g_aald C hR (by omega) dX3_remember_39 ?_
    refine g_aload_n C hl dX3_remember_40 rfl ?_
    refine g_callKv C hl.1 hR hS (rc_X4 (by omega)) md_X4_copyFrom ml_X3_25 (c_X4_copyFrom l hI (k := mem1 7 2 n1) (k2 := 0) (by omega) (by decide) (by omega) hM1) rfl rfl ⟨Nat.le_of_ble_eq_true rfl, Nat.le_of_ble_eq_true rfl⟩ ⟨Nat.le_refl _, Nat.le_refl _⟩ (Nat.le_of_ble_eq_true rfl) dX3_remember_41 (fun g hM H locs hR hS => ?_)
    refine g_aload_n C hl dX3_remember_44 rfl ?_
    refine g_dup C dX3_remember_45 rfl ?_
    refine gt_X3_1 C hR fl_X3_18 dX3_remember_46 ?_
    rw [fU_n _ _ (show ¬ 7 = mem1 7 2 n1 by omega), hsz]
    refine g_iconst 1 C dX3_remember_49 (by decide) ?_
    refine g_iadd C dX3_remember_50 ?_
    refine pt_X3_1 C hR hS fl_X3_18 dX3_remember_51 (fun H locs hR hS => ?_)
    refine g_vret C hR hS dX3_remember_54 ?_
    obtain ⟨k1, k2⟩ := hR_add hh h4 hM
    refine ⟨rfl, ?_, hf.trans k2⟩
    rw [en, eh]
    exact k1
  refine g_aload_n C hl dX3_remember_0 rfl ?_
  refine gt_X3_1 C hR fl_X3_18 dX3_remember_1 ?_
  rw [hh.1]
  refine g_iconst 4 C dX3_remember_4 (by decide) ?_
  refine g_icmp_ne (tgt := 12) C dX3_remember_5 (by decide) (by omega) (by omega) (fun c5 => ?_) (fun c5 => ?_)
  · -- 5 T
    exact tail mem n h hh (by have := hh.2.1; omega) (hFr.rfl' mem) (by unfold rN; rw [if_neg (by omega)]) (by unfold aHr; rw [if_neg (by omega)]) _ _ _ hl hR hS
  · -- 5 F
    refine g_aload_n C hl dX3_remember_8 rfl ?_
    refine g_callVv C hl.1 hR hS rc_X3 md_X3_dropOldest ml_X3_22 (c_X3_dropOldest l hI (by rw [hh.1, c5]) (fun j hj => (hh.2.2.1 j hj).2)) rfl rfl ⟨Nat.le_of_ble_eq_true rfl, Nat.le_of_ble_eq_true rfl⟩ ⟨Nat.le_refl _, Nat.le_refl _⟩ (Nat.le_of_ble_eq_true rfl) dX3_remember_9 (fun H locs hR hS => ?_)
    subst c5
    exact tail _ 3 (fun i => h (i + 1)) (hR_rot hh) (by decide) (hFr_rot _ _ _) rfl rfl _ _ _ hl hR hS
theorem hR_sub {mem : gM} {n : Nat} {h : Nat → Nat → Nat} {g : Nat → Nat → Nat} (hh : hHi mem n h) (h0 : 0 < n) (hM : mR g (h (n - 1))) : hHi (fU (gP mem 7 1 (fU (mem 7 1) 1 (n - 1))) 0 g) (n - 1) h ∧ mR ((fU (gP mem 7 1 (fU (mem 7 1) 1 (n - 1))) 0 g) 0) (h (n - 1)) ∧ (∀ k, (0 < k ∧ k < 3) ∨ 7 < k → (fU (gP mem 7 1 (fU (mem 7 1) 1 (n - 1))) 0 g) k = mem k) ∧ ∀ o, ¬ o = 1 → (fU (gP mem 7 1 (fU (mem 7 1) 1 (n - 1))) 0 g) 7 o = mem 7 o := by
  obtain ⟨h1, h2, h3, h4, h5⟩ := hh
  have e7 : (fU (gP mem 7 1 (fU (mem 7 1) 1 (n - 1))) 0 g) 7 = gP mem 7 1 (fU (mem 7 1) 1 (n - 1)) 7 := fU_n _ _ (by decide)
  have e2 : (fU (gP mem 7 1 (fU (mem 7 1) 1 (n - 1))) 0 g) 7 2 = mem 7 2 := by
    rw [e7, gP_n _ _ (by decide)]
  refine ⟨⟨?_, by omega, ?_, ?_, ?_⟩, ?_, ?_, ?_⟩
  · rw [e7, gP_s, fU_s]
  · rw [e2]; exact h3
  · rw [e2]; exact h4
  · rw [e2]
    intro i hi
    have := h3 i (by omega)
    rw [fU_n _ _ (by omega), gP_nk _ _ (by omega)]
    exact h5 i (by omega)
  · rw [fU_s]; exact hM
  · intro k hk
    rw [fU_n _ _ (by omega), gP_nk _ _ (by omega)]
  · intro o ho
    rw [e7, gP_n _ _ (by omega)]
set_option maxRecDepth 100000 in
set_option maxHeartbeats 4000000 in
/-- X3_bringBack -/
theorem c_X3_bringBack (l : Launch) {X : gX} (hI : gInj X) {mem : gM} {n : Nat} {h : Nat → Nat → Nat} (hh : hHi mem n h) (h0 : 0 < n) : gMt l yX3_bringBack cX3_bringBack 2 none 4 111 X [.ref (gAd X 7 1), .ref (gAd X 0 0)] mem (fun v9 m9 => v9 = none ∧ hHi m9 (n - 1) h ∧ mR (m9 0) (h (n - 1)) ∧ (∀ k, (0 < k ∧ k < 3) ∨ 7 < k → m9 k = mem k) ∧ ∀ o, ¬ o = 1 → m9 7 o = mem 7 o) := by
  refine gMt.of (own := RX3) (by decide) rfl hI (by simp [Value.category]) (Nat.le_of_ble_eq_true rfl) ?_
  intro p e s m args below meth c ls H locs C hnm hl hR hS
  have hn4 := hh.2.1
  have hsz := hh.1
  have hK := hh.2.2.1 (n - 1) (by omega)
  have hM2 : mR ((gP mem 7 1 (fU (mem 7 1) 1 (n - 1))) (mem 7 2 (n - 1))) (h (n - 1)) := by
    rw [gP_nk _ _ (by omega)]
    exact hh.2.2.2.2 (n - 1) (by omega)
  refine g_aload_n C hl dX3_bringBack_0 rfl ?_
  refine gt_X3_1 C hR fl_X3_18 dX3_bringBack_1 ?_
  rw [hsz]
  refine g_if_le (tgt := 42) C dX3_bringBack_4 (by decide) (by omega) (fun z9 => absurd z9 (by omega)) (fun c4 => ?_)
  refine g_aload_n C hl dX3_bringBack_7 rfl ?_
  refine gt_X3_1 C hR fl_X3_18 dX3_bringBack_8 ?_
  rw [hsz]
  refine g_aload_n C hl dX3_bringBack_11 rfl ?_
  refine gt_X3_0 C hR fl_X3_11 dX3_bringBack_12 ?_
  refine g_slen C hR dX3_bringBack_15 ?_
  refine g_icmp_gt (tgt := 42) C dX3_bringBack_16 (by decide) (by omega) (by omega) (fun z9 => absurd z9 (by omega)) (fun c16 => ?_)
  refine g_aload_n C hl dX3_bringBack_19 rfl ?_
  refine g_dup C dX3_bringBack_20 rfl ?_
  refine gt_X3_1 C hR fl_X3_18 dX3_bringBack_21 ?_
  rw [hsz]
  refine g_iconst 1 C dX3_bringBack_24 (by decide) ?_
  refine g_isub C dX3_bringBack_25 (by omega) ?_
  refine pt_X3_1 C hR hS fl_X3_18 dX3_bringBack_26 (fun H locs hR hS => ?_)
  refine g_aload_n C hl dX3_bringBack_29 rfl ?_
  refine g_aload_n C hl dX3_bringBack_30 rfl ?_
  refine gt_X3_0 C hR fl_X3_11 dX3_bringBack_31 ?_
  refine g_aload_n C hl dX3_bringBack_34 rfl ?_
  refine gt_X3_1 C hR fl_X3_18 dX3_bringBack_35 ?_
  rw [gP_s, fU_s]
  refine g_aald C hR (by omega) dX3_bringBack_38 ?_
  rw [gP_n _ _ (show ¬ (7 = 7 ∧ 2 = 1) by decide)]
  refine g_callKv C hl.1 hR hS (rc_X4 (by decide)) md_X4_copyFrom ml_X3_25 (c_X4_copyFrom l hI (k := 0) (k2 := mem 7 2 (n - 1)) (by decide) (by omega) (by omega) hM2) rfl rfl ⟨Nat.le_of_ble_eq_true rfl, Nat.le_of_ble_eq_true rfl⟩ ⟨Nat.le_refl _, Nat.le_refl _⟩ (Nat.le_of_ble_eq_true rfl) dX3_bringBack_39 (fun g hM H locs hR hS => ?_)
  refine g_vret C hR hS dX3_bringBack_42 ?_
  exact ⟨rfl, hR_sub hh h0 hM⟩
end
section
/-! ===== Text, and the class's Code ===== -/
def hTx (mem : gM) (n : Nat) (t : Nat → Nat) : Prop := mem 7 3 1 = n ∧ mem 7 4 = t ∧ n ≤ 80 ∧ ∀ j, j < n → t j < 65536
end
section
/-! ===== FarBanks: what a call leaves ===== -/
def aCl (S : aS) (mem : gM) : Prop := mR (mem 0) (aZ S) ∧ hHi mem (aN S) (aH S) ∧ mem 7 0 6 = aK S ∧ aK S < 2 ∧ (aK S = 1 → mR (mem 2) (aKz S)) ∧ hTx mem (aL S) (aT S)
def aCm (S : aS) (mem m9 : gM) : Prop := aCl S m9 ∧ ∀ k, 7 < k → m9 k = mem k
theorem aCm_same {S : aS} {mem : gM} (hc : aCl S mem) : aCm S mem (fU mem 0 (mem 0)) := by
  rw [fU_self]
  exact ⟨hc, fun _ _ => rfl⟩
theorem hHi_f {mem : gM} {n : Nat} {h : Nat → Nat → Nat} {k : Nat} (g : Nat → Nat → Nat) (hh : hHi mem n h) (hk : k < 3) : hHi (fU mem k g) n h := by
  obtain ⟨h1, h2, h3, h4, h5⟩ := hh
  have e7 : fU mem k g 7 = mem 7 := fU_n _ _ (by omega)
  unfold hHi
  rw [e7]
  refine ⟨h1, h2, h3, h4, fun i hi => ?_⟩
  have := h3 i (by omega)
  rw [fU_n _ _ (by omega)]
  exact h5 i hi
theorem hTx_f {mem : gM} {n : Nat} {t : Nat → Nat} {k : Nat} (g : Nat → Nat → Nat) (hh : hTx mem n t) (hk : k < 3) : hTx (fU mem k g) n t := by
  unfold hTx
  rw [fU_n _ _ (show ¬ 7 = k by omega)]
  exact hh
theorem aCm_1 {S : aS} {mem : gM} (hc : aCl S mem) (g : Nat → Nat → Nat) : aCm S mem (fU mem 1 g) := by
  obtain ⟨h1, h2, h3, h4, h5, h6⟩ := hc
  refine ⟨⟨?_, hHi_f g h2 (by decide), ?_, h4, fun z => ?_, hTx_f g h6 (by decide)⟩, fun _ h9 => fU_n _ _ (by omega)⟩
  · rw [fU_n _ _ (by decide)]; exact h1
  · rw [fU_n _ _ (show ¬ 7 = 1 by decide)]; exact h3
  · rw [fU_n _ _ (by decide)]; exact h5 z
theorem aCm_rec {S : aS} {mem m2 : gM} {g : Nat → Nat → Nat} {z : Nat → Nat} (hc : aCl S mem) (hp : hHi m2 (rN (aN S)) (aHr (aN S) (aH S) (aZ S)) ∧ hFr mem m2) (hM : mR g z) : aCm (aPz (aRec S) z) mem (fU m2 0 g) := by
  obtain ⟨h1, h2, h3, h4, h5, h6⟩ := hc
  obtain ⟨p1, p2⟩ := hp
  refine ⟨⟨?_, hHi_f g p1 (by decide), ?_, h4, fun z => ?_, hTx_f g ?_ (by decide)⟩, ?_⟩
  · rw [fU_s]; exact hM
  · rw [fU_n _ _ (show ¬ 7 = 0 by decide), p2.2 0 (by decide) (by decide)]; exact h3
  · rw [fU_n _ _ (by decide), p2.1 2 (Or.inl (by decide))]; exact h5 z
  · obtain ⟨t1, t2, t3, t4⟩ := h6
    exact ⟨by rw [p2.2 3 (by decide) (by decide)]; exact t1, by rw [p2.2 4 (by decide) (by decide)]; exact t2, t3, t4⟩
  · intro k h9
    rw [fU_n _ _ (by omega), p2.1 k (Or.inr h9)]
set_option maxRecDepth 100000 in
set_option maxHeartbeats 4000000 in
/-- isBelow -/
theorem c_X8_isBelow (l : Launch) {X : gX} (hI : gInj X) {mem : gM} {v : Int32} {hi : Nat} (hh : hi + 1 < 2 ^ 31) : gF l yX8_isBelow cX8_isBelow 2 (some .boolean) 0 0 X [.int v, .int (nI (hi + 1))] mem (some (.int (nI (gb (gIw v 0 hi = true))))) mem := by
  refine gMt.of (own := RX8) (by decide) rfl hI (by simp [Value.category]) (Nat.le_of_ble_eq_true rfl) ?_
  intro p e s m args below meth c ls H locs C hnm hl hR hS
  refine g_iload_n C hl dX8_isBelow_0 rfl ?_
  refine lv_if_lt (tgt := 13) C.1 C.2.1 dX8_isBelow_1 (by decide) (fun c1 => ?_) (fun c1 => ?_)
  · refine g_iconst 0 C dX8_isBelow_13 (by decide) ?_
    refine g_zret C hR hS dX8_isBelow_14 rfl ⟨?_, rfl⟩
    rw [gb_f (fun z => by rw [Int32.lt_iff_toInt_lt] at c1; rw [gIw_iff] at z; have e0 : (0 : Int32).toInt = 0 := rfl; omega)]
  refine g_iload_n C hl dX8_isBelow_4 rfl ?_
  refine g_iload_n C hl dX8_isBelow_5 rfl ?_
  refine lv_icmp_ge (tgt := 13) C.1 C.2.1 dX8_isBelow_6 (by decide) (fun c6 => ?_) (fun c6 => ?_)
  · refine g_iconst 0 C dX8_isBelow_13 (by decide) ?_
    refine g_zret C hR hS dX8_isBelow_14 rfl ⟨?_, rfl⟩
    rw [gb_f (fun z => by rw [Int32.le_iff_toInt_le, nI_toInt (by omega)] at c6; rw [gIw_iff] at z; omega)]
  refine g_iconst 1 C dX8_isBelow_9 (by decide) ?_
  refine g_goto (tgt := 14) C dX8_isBelow_10 (by decide) ?_
  refine g_zret C hR hS dX8_isBelow_14 rfl ?_
  refine ⟨?_, rfl⟩
  rw [gb_t (by rw [Int32.lt_iff_toInt_lt] at c1; rw [Int32.le_iff_toInt_le, nI_toInt (by omega)] at c6; rw [gIw_iff]; have e0 : (0 : Int32).toInt = 0 := rfl; omega)]
set_option maxRecDepth 100000 in
set_option maxHeartbeats 4000000 in
/-- isStepsOfRun -/
theorem c_X8_isStepsOfRun (l : Launch) {X : gX} (hI : gInj X) {mem : gM} {v : Int32} : gF l yX8_isStepsOfRun cX8_isStepsOfRun 1 (some .boolean) 0 0 X [.int v] mem (some (.int (nI (gb (gIw v 1 999 = true))))) mem := by
  refine gMt.of (own := RX8) (by decide) rfl hI (by simp [Value.category]) (Nat.le_of_ble_eq_true rfl) ?_
  intro p e s m args below meth c ls H locs C hnm hl hR hS
  refine g_iload_n C hl dX8_isStepsOfRun_0 rfl ?_
  refine g_iconst 1 C dX8_isStepsOfRun_1 (by decide) ?_
  refine lv_icmp_lt (tgt := 16) C.1 C.2.1 dX8_isStepsOfRun_2 (by decide) (fun c2 => ?_) (fun c2 => ?_)
  · refine g_iconst 0 C dX8_isStepsOfRun_16 (by decide) ?_
    refine g_zret C hR hS dX8_isStepsOfRun_17 rfl ⟨?_, rfl⟩
    rw [gb_f (fun z => by rw [gIw_lt (by decide)] at c2; rw [gIw_iff] at z; omega)]
  refine g_iload_n C hl dX8_isStepsOfRun_5 rfl ?_
  refine g_sipush 999 C dX8_isStepsOfRun_6 (by decide) ?_
  refine lv_icmp_gt (tgt := 16) C.1 C.2.1 dX8_isStepsOfRun_9 (by decide) (fun c9 => ?_) (fun c9 => ?_)
  · refine g_iconst 0 C dX8_isStepsOfRun_16 (by decide) ?_
    refine g_zret C hR hS dX8_isStepsOfRun_17 rfl ⟨?_, rfl⟩
    rw [gb_f (fun z => by rw [gIw_gt (by decide)] at c9; rw [gIw_iff] at z; omega)]
  refine g_iconst 1 C dX8_isStepsOfRun_12 (by decide) ?_
  refine g_goto (tgt := 17) C dX8_isStepsOfRun_13 (by decide) ?_
  refine g_zret C hR hS dX8_isStepsOfRun_17 rfl ?_
  refine ⟨?_, rfl⟩
  rw [gb_t (by rw [gIw_lt (by decide)] at c2; rw [gIw_gt (by decide)] at c9; rw [gIw_iff]; omega)]
set_option maxRecDepth 100000 in
set_option maxHeartbeats 4000000 in
/-- X8_put -/
theorem c_X8_put (l : Launch) {X : gX} (hI : gInj X) {mem : gM} {S : aS} {b c9 n : Int32} (hJ : aI S) (hc : aCl S mem) : gMt l yX8_put cX8_put 5 (some .int) 5 132 X [.ref (gAd X 7 0), .int b, .int c9, .int n] mem (fun v9 m9 => v9 = some (.int (aPut S b c9 n).1) ∧ aCm (aPut S b c9 n).2 mem m9) := by
  refine gMt.of (own := RX8) (by decide) rfl hI (by simp [Value.category]) (Nat.le_of_ble_eq_true rfl) ?_
  intro p e s m args below meth c ls H locs C hnm hl hR hS
  have hz : zI (aZ S) := hJ.1.1
  have hg : zG (aZ S) := hJ.1.2.1
  have hB : aZ S 178 ≤ 999999 := hJ.1.2.2.1
  have hM : mR (mem 0) (aZ S) := hc.1
  have h115 := hz.2.2.2.2.2.2.1
  have h116 := hz.2.2.2.2.2.2.2.1
  rw [← fU_self mem 0] at hR
  refine g_iload_n C hl dX8_put_0 rfl ?_
  refine g_bipush 8 C dX8_put_1 (by decide) ?_
  refine g_callSi C hl.1 hR hS md_X8_isBelow ml_X8_43 (c_X8_isBelow l hI (hi := 7) (by decide)) rfl rfl ⟨Nat.le_of_ble_eq_true rfl, Nat.le_of_ble_eq_true rfl⟩ ⟨Nat.le_refl _, Nat.le_refl _⟩ (Nat.le_of_ble_eq_true rfl) dX8_put_3 (fun H locs hR hS => ?_)
  refine g_ifv_eq (tgt := 18) C dX8_put_6 (by decide) (by decide) (fun c6 => ?_) (fun b eb hb1 hb2 => ?_)
  · -- 6 T
    refine g_iconstM (-1) C dX8_put_18 (by decide) ?_
    refine g_iret C hR hS dX8_put_19 ?_
    rw [aPut_1 c6]
    exact ⟨rfl, aCm_same hc⟩
  · -- 6 F
    subst eb
    refine g_iload_n C hl dX8_put_9 rfl ?_
    refine g_bipush 16 C dX8_put_10 (by decide) ?_
    refine g_callSi C hl.1 hR hS md_X8_isBelow ml_X8_43 (c_X8_isBelow l hI (hi := 15) (by decide)) rfl rfl ⟨Nat.le_of_ble_eq_true rfl, Nat.le_of_ble_eq_true rfl⟩ ⟨Nat.le_refl _, Nat.le_refl _⟩ (Nat.le_of_ble_eq_true rfl) dX8_put_12 (fun H locs hR hS => ?_)
    refine g_ifv_ne (tgt := 20) C dX8_put_15 (by decide) (by decide) (fun c9 ec9 hc91 hc92 => ?_) (fun c15 => ?_)
    · -- 15 T
      subst ec9
      by_cases hn9 : gIw n 0 999 = true
      · obtain ⟨n, e9, -, hn2⟩ := gIw_t hn9 (by decide)
        subst e9
        refine g_iload_n C hl dX8_put_20 rfl ?_
        refine g_if_lt (tgt := 31) C dX8_put_21 (by decide) (by omega) ?_
        refine g_iload_n C hl dX8_put_24 rfl ?_
        refine g_sipush 999 C dX8_put_25 (by decide) ?_
        refine g_icmp_le (tgt := 34) C dX8_put_28 (by decide) (by omega) (by omega) (fun c28 => ?_) (fun z9 => absurd z9 (by omega))
        refine g_aload_n C hl dX8_put_34 rfl ?_
        refine gt_X8_0 C hR fl_X8_10 dX8_put_35 ?_
        refine gn_X4_0 C (by decide) hR fn_X8_47 dX8_put_38 ?_
        refine g_iload_n C hl dX8_put_41 rfl ?_
        refine g_iload_n C hl dX8_put_42 rfl ?_
        refine g_callVi C hl.1 hR hS (rc_X0 (by decide)) md_X0_numberIn ml_X8_51 (c_X0_numberIn l hI (by decide) hM (show b < 8 by omega) (show c9 < 16 by omega)) rfl rfl ⟨Nat.le_of_ble_eq_true rfl, Nat.le_of_ble_eq_true rfl⟩ ⟨Nat.le_refl _, Nat.le_refl _⟩ (Nat.le_of_ble_eq_true rfl) dX8_put_43 (fun H locs hR hS => ?_)
        refine g_istore C hl dX8_put_46 (Nat.le_of_ble_eq_true rfl) (fun ls hl => ?_)
        refine g_iload C hl dX8_put_48 rfl ?_
        refine g_iload_n C hl dX8_put_50 rfl ?_
        refine g_icmp_ne (tgt := 57) C dX8_put_51 (by decide) (by have := hz.1 (zIx b c9) (zIx_lt (by omega) (by omega)); omega) (by have := hz.1 (zIx b c9) (zIx_lt (by omega) (by omega)); omega) (fun c51 => ?_) (fun c51 => ?_)
        · -- 51 T
          refine g_aload_n C hl dX8_put_57 rfl ?_
          refine gt_X8_3 C hR fl_X8_25 dX8_put_58 ?_
          refine g_aload_n C hl dX8_put_61 rfl ?_
          refine gt_X8_0 C hR fl_X8_10 dX8_put_62 ?_
          rw [fU_self] at hR
          refine g_callV C hl.1 hR hS rc_X3 md_X3_remember ml_X8_57 (c_X3_remember l hI hc.2.1 hM) rfl rfl ⟨Nat.le_of_ble_eq_true rfl, Nat.le_of_ble_eq_true rfl⟩ ⟨Nat.le_refl _, Nat.le_refl _⟩ (Nat.le_of_ble_eq_true rfl) dX8_put_65 (fun v9 mem2 H locs hp hR hS => ?_)
          obtain ⟨e9, hp2⟩ := hp
          subst e9
          have hM2 : mR (mem2 0) (aZ S) := by
            rw [hp2.2.m (Or.inl (by decide))]
            exact hc.1
          have hM := hM2
          rw [← fU_self mem2 0] at hR
          refine g_aload_n C hl dX8_put_68 rfl ?_
          refine gt_X8_0 C hR fl_X8_10 dX8_put_69 ?_
          refine gn_X4_0 C (by decide) hR fn_X8_47 dX8_put_72 ?_
          refine g_iload_n C hl dX8_put_75 rfl ?_
          refine g_iload_n C hl dX8_put_76 rfl ?_
          refine g_iload_n C hl dX8_put_77 rfl ?_
          refine g_callKv C hl.1 hR hS (rc_X0 (by decide)) md_X0_fill ml_X8_61 (c_X0_fill l hI (by decide) hM (show b < 8 by omega) (show c9 < 16 by omega)) rfl rfl ⟨Nat.le_of_ble_eq_true rfl, Nat.le_of_ble_eq_true rfl⟩ ⟨Nat.le_refl _, Nat.le_refl _⟩ (Nat.le_of_ble_eq_true rfl) dX8_put_78 (fun g hM H locs hR hS => ?_)
          refine g_iload C hl dX8_put_81 rfl ?_
          refine g_iret C hR hS dX8_put_83 ?_
          rw [aPut_5 hb2 hc92 hn2 c51]
          exact ⟨rfl, aCm_rec hc hp2 hM⟩
        · -- 51 F
          refine g_bipushM (-5) C dX8_put_54 (by decide) ?_
          refine g_iret C hR hS dX8_put_56 ?_
          rw [aPut_4 hb2 hc92 hn2 c51]
          exact ⟨rfl, aCm_same hc⟩
      · have hn9 : gIw n 0 999 = false := by simpa using hn9
        rcases gIw_out hn9 with h9 | h9
        · -- neg
          refine g_iload_n C hl dX8_put_20 rfl ?_
          refine lv_if_lt (tgt := 31) C.1 C.2.1 dX8_put_21 (by decide) (fun _ => ?_) (fun z9 => absurd (by rw [Int32.lt_iff_toInt_lt]; have e0 : (0 : Int32).toInt = 0 := rfl; omega) z9)
          refine g_bipushM (-2) C dX8_put_31 (by decide) ?_
          refine g_iret C hR hS dX8_put_33 ?_
          rw [aPut_3 hb2 hc92 hn9]
          exact ⟨rfl, aCm_same hc⟩
        · -- big
          refine g_iload_n C hl dX8_put_20 rfl ?_
          refine lv_if_lt (tgt := 31) C.1 C.2.1 dX8_put_21 (by decide) (fun z9 => absurd z9 (by rw [Int32.lt_iff_toInt_lt]; have e0 : (0 : Int32).toInt = 0 := rfl; omega)) (fun _ => ?_)
          refine g_iload_n C hl dX8_put_24 rfl ?_
          refine g_sipush 999 C dX8_put_25 (by decide) ?_
          refine lv_icmp_le (tgt := 34) C.1 C.2.1 dX8_put_28 (by decide) (fun z9 => absurd z9 (by rw [Int32.le_iff_toInt_le, nI_toInt (by decide)]; omega)) (fun _ => ?_)
          refine g_bipushM (-2) C dX8_put_31 (by decide) ?_
          refine g_iret C hR hS dX8_put_33 ?_
          rw [aPut_3 hb2 hc92 hn9]
          exact ⟨rfl, aCm_same hc⟩
    · -- 15 F
      refine g_iconstM (-1) C dX8_put_18 (by decide) ?_
      refine g_iret C hR hS dX8_put_19 ?_
      rw [aPut_2 c15]
      exact ⟨rfl, aCm_same hc⟩
set_option maxRecDepth 100000 in
set_option maxHeartbeats 4000000 in
/-- X8_show -/
theorem c_X8_show (l : Launch) {X : gX} (hI : gInj X) {mem : gM} {S : aS} {w b : Int32} (hJ : aI S) (hc : aCl S mem) : gMt l yX8_show cX8_show 4 (some .int) 5 132 X [.ref (gAd X 7 0), .int w, .int b] mem (fun v9 m9 => v9 = some (.int (aShow S w b).1) ∧ aCm (aShow S w b).2 mem m9) := by
  refine gMt.of (own := RX8) (by decide) rfl hI (by simp [Value.category]) (Nat.le_of_ble_eq_true rfl) ?_
  intro p e s m args below meth c ls H locs C hnm hl hR hS
  have hz : zI (aZ S) := hJ.1.1
  have hg : zG (aZ S) := hJ.1.2.1
  have hB : aZ S 178 ≤ 999999 := hJ.1.2.2.1
  have hM : mR (mem 0) (aZ S) := hc.1
  have h115 := hz.2.2.2.2.2.2.1
  have h116 := hz.2.2.2.2.2.2.2.1
  rw [← fU_self mem 0] at hR
  refine g_iload_n C hl dX8_show_0 rfl ?_
  refine g_iconst 4 C dX8_show_1 (by decide) ?_
  refine g_callSi C hl.1 hR hS md_X8_isBelow ml_X8_43 (c_X8_isBelow l hI (hi := 3) (by decide)) rfl rfl ⟨Nat.le_of_ble_eq_true rfl, Nat.le_of_ble_eq_true rfl⟩ ⟨Nat.le_refl _, Nat.le_refl _⟩ (Nat.le_of_ble_eq_true rfl) dX8_show_2 (fun H locs hR hS => ?_)
  refine g_ifv_eq (tgt := 17) C dX8_show_5 (by decide) (by decide) (fun c5 => ?_) (fun w ew hw1 hw2 => ?_)
  · -- 5 T
    refine g_iconstM (-1) C dX8_show_17 (by decide) ?_
    refine g_iret C hR hS dX8_show_18 ?_
    rw [aShow_1 c5]
    exact ⟨rfl, aCm_same hc⟩
  · -- 5 F
    subst ew
    refine g_iload_n C hl dX8_show_8 rfl ?_
    refine g_bipush 8 C dX8_show_9 (by decide) ?_
    refine g_callSi C hl.1 hR hS md_X8_isBelow ml_X8_43 (c_X8_isBelow l hI (hi := 7) (by decide)) rfl rfl ⟨Nat.le_of_ble_eq_true rfl, Nat.le_of_ble_eq_true rfl⟩ ⟨Nat.le_refl _, Nat.le_refl _⟩ (Nat.le_of_ble_eq_true rfl) dX8_show_11 (fun H locs hR hS => ?_)
    refine g_ifv_ne (tgt := 19) C dX8_show_14 (by decide) (by decide) (fun b eb hb1 hb2 => ?_) (fun c14 => ?_)
    · -- 14 T
      subst eb
      refine g_aload_n C hl dX8_show_19 rfl ?_
      refine gt_X8_0 C hR fl_X8_10 dX8_show_20 ?_
      refine gn_X4_0 C (by decide) hR fn_X8_47 dX8_show_23 ?_
      refine gn_X0_2 C (by decide) hR fn_X8_83 dX8_show_26 ?_
      refine g_iload_n C hl dX8_show_29 rfl ?_
      refine g_callVi C hl.1 hR hS (rc_X5 (gRow_6 (by decide))) md_X5_read ml_X8_86 (c_zr l hI hM (gRow_6 (by decide)) mB_7 (show w < 4 by omega)) rfl rfl ⟨Nat.le_of_ble_eq_true rfl, Nat.le_of_ble_eq_true rfl⟩ ⟨Nat.le_refl _, Nat.le_refl _⟩ (Nat.le_of_ble_eq_true rfl) dX8_show_30 (fun H locs hR hS => ?_)
      refine g_istore_n C hl dX8_show_33 (Nat.le_of_ble_eq_true rfl) (fun ls hl => ?_)
      refine g_iload_n C hl dX8_show_34 rfl ?_
      refine g_iload_n C hl dX8_show_35 rfl ?_
      refine g_icmp_ne (tgt := 42) C dX8_show_36 (by decide) (by have := hz.2.1 w (by omega); omega) (by have := hz.2.1 w (by omega); omega) (fun c36 => ?_) (fun c36 => ?_)
      · -- 36 T
        refine g_aload_n C hl dX8_show_42 rfl ?_
        refine gt_X8_3 C hR fl_X8_25 dX8_show_43 ?_
        refine g_aload_n C hl dX8_show_46 rfl ?_
        refine gt_X8_0 C hR fl_X8_10 dX8_show_47 ?_
        rw [fU_self] at hR
        refine g_callV C hl.1 hR hS rc_X3 md_X3_remember ml_X8_57 (c_X3_remember l hI hc.2.1 hM) rfl rfl ⟨Nat.le_of_ble_eq_true rfl, Nat.le_of_ble_eq_true rfl⟩ ⟨Nat.le_refl _, Nat.le_refl _⟩ (Nat.le_of_ble_eq_true rfl) dX8_show_50 (fun v9 mem2 H locs hp hR hS => ?_)
        obtain ⟨e9, hp2⟩ := hp
        subst e9
        have hM2 : mR (mem2 0) (aZ S) := by
          rw [hp2.2.m (Or.inl (by decide))]
          exact hc.1
        have hM := hM2
        rw [← fU_self mem2 0] at hR
        refine g_aload_n C hl dX8_show_53 rfl ?_
        refine gt_X8_0 C hR fl_X8_10 dX8_show_54 ?_
        refine gn_X4_0 C (by decide) hR fn_X8_47 dX8_show_57 ?_
        refine gn_X0_2 C (by decide) hR fn_X8_83 dX8_show_60 ?_
        refine g_iload_n C hl dX8_show_63 rfl ?_
        refine g_iload_n C hl dX8_show_64 rfl ?_
        refine g_callKv C hl.1 hR hS (rc_X5 (gRow_6 (by decide))) md_X5_write ml_X8_73 (c_zw l hI hM (gRow_6 (by decide)) mB_7 (show w < 4 by omega)) rfl rfl ⟨Nat.le_of_ble_eq_true rfl, Nat.le_of_ble_eq_true rfl⟩ ⟨Nat.le_refl _, Nat.le_refl _⟩ (Nat.le_of_ble_eq_true rfl) dX8_show_65 (fun g hM H locs hR hS => ?_)
        refine g_iload_n C hl dX8_show_68 rfl ?_
        refine g_iret C hR hS dX8_show_69 ?_
        rw [aShow_4 hw2 hb2 c36]
        exact ⟨rfl, aCm_rec hc hp2 hM⟩
      · -- 36 F
        refine g_bipushM (-5) C dX8_show_39 (by decide) ?_
        refine g_iret C hR hS dX8_show_41 ?_
        rw [aShow_3 hw2 hb2 c36]
        exact ⟨rfl, aCm_same hc⟩
    · -- 14 F
      refine g_iconstM (-1) C dX8_show_17 (by decide) ?_
      refine g_iret C hR hS dX8_show_18 ?_
      rw [aShow_2 c14]
      exact ⟨rfl, aCm_same hc⟩
set_option maxRecDepth 100000 in
set_option maxHeartbeats 4000000 in
/-- X8_copyBank -/
theorem c_X8_copyBank (l : Launch) {X : gX} (hI : gInj X) {mem : gM} {S : aS} {w b : Int32} (hJ : aI S) (hc : aCl S mem) : gMt l yX8_copyBank cX8_copyBank 4 (some .int) 5 132 X [.ref (gAd X 7 0), .int w, .int b] mem (fun v9 m9 => v9 = some (.int (aCopy S w b).1) ∧ aCm (aCopy S w b).2 mem m9) := by
  refine gMt.of (own := RX8) (by decide) rfl hI (by simp [Value.category]) (Nat.le_of_ble_eq_true rfl) ?_
  intro p e s m args below meth c ls H locs C hnm hl hR hS
  have hz : zI (aZ S) := hJ.1.1
  have hg : zG (aZ S) := hJ.1.2.1
  have hB : aZ S 178 ≤ 999999 := hJ.1.2.2.1
  have hM : mR (mem 0) (aZ S) := hc.1
  have h115 := hz.2.2.2.2.2.2.1
  have h116 := hz.2.2.2.2.2.2.2.1
  rw [← fU_self mem 0] at hR
  refine g_iload_n C hl dX8_copyBank_0 rfl ?_
  refine g_bipush 8 C dX8_copyBank_1 (by decide) ?_
  refine g_callSi C hl.1 hR hS md_X8_isBelow ml_X8_43 (c_X8_isBelow l hI (hi := 7) (by decide)) rfl rfl ⟨Nat.le_of_ble_eq_true rfl, Nat.le_of_ble_eq_true rfl⟩ ⟨Nat.le_refl _, Nat.le_refl _⟩ (Nat.le_of_ble_eq_true rfl) dX8_copyBank_3 (fun H locs hR hS => ?_)
  refine g_ifv_eq (tgt := 18) C dX8_copyBank_6 (by decide) (by decide) (fun c6 => ?_) (fun w ew hw1 hw2 => ?_)
  · -- 6 T
    refine g_iconstM (-1) C dX8_copyBank_18 (by decide) ?_
    refine g_iret C hR hS dX8_copyBank_19 ?_
    rw [aCopy_1 c6]
    exact ⟨rfl, aCm_same hc⟩
  · -- 6 F
    subst ew
    refine g_iload_n C hl dX8_copyBank_9 rfl ?_
    refine g_bipush 8 C dX8_copyBank_10 (by decide) ?_
    refine g_callSi C hl.1 hR hS md_X8_isBelow ml_X8_43 (c_X8_isBelow l hI (hi := 7) (by decide)) rfl rfl ⟨Nat.le_of_ble_eq_true rfl, Nat.le_of_ble_eq_true rfl⟩ ⟨Nat.le_refl _, Nat.le_refl _⟩ (Nat.le_of_ble_eq_true rfl) dX8_copyBank_12 (fun H locs hR hS => ?_)
    refine g_ifv_ne (tgt := 20) C dX8_copyBank_15 (by decide) (by decide) (fun b eb hb1 hb2 => ?_) (fun c15 => ?_)
    · -- 15 T
      subst eb
      refine g_aload_n C hl dX8_copyBank_20 rfl ?_
      refine gt_X8_0 C hR fl_X8_10 dX8_copyBank_21 ?_
      refine gn_X4_0 C (by decide) hR fn_X8_47 dX8_copyBank_24 ?_
      refine g_iload_n C hl dX8_copyBank_27 rfl ?_
      refine g_iload_n C hl dX8_copyBank_28 rfl ?_
      refine g_callVi C hl.1 hR hS (rc_X0 (by decide)) md_X0_differencesOf ml_X8_90 (c_X0_differencesOf l hI (by decide) hM hz (show w < 8 by omega) (show b < 8 by omega)) rfl rfl ⟨Nat.le_of_ble_eq_true rfl, Nat.le_of_ble_eq_true rfl⟩ ⟨Nat.le_refl _, Nat.le_refl _⟩ (Nat.le_of_ble_eq_true rfl) dX8_copyBank_29 (fun H locs hR hS => ?_)
      refine g_istore_n C hl dX8_copyBank_32 (Nat.le_of_ble_eq_true rfl) (fun ls hl => ?_)
      refine g_iload_n C hl dX8_copyBank_33 rfl ?_
      refine g_if_ne (tgt := 40) C dX8_copyBank_34 (by decide) (by have := zUn_le (z := aZ S) (a := w) (b := b) 12; omega) (fun c34 => ?_) (fun c34 => ?_)
      · -- 34 T
        refine g_aload_n C hl dX8_copyBank_40 rfl ?_
        refine gt_X8_3 C hR fl_X8_25 dX8_copyBank_41 ?_
        refine g_aload_n C hl dX8_copyBank_44 rfl ?_
        refine gt_X8_0 C hR fl_X8_10 dX8_copyBank_45 ?_
        rw [fU_self] at hR
        refine g_callV C hl.1 hR hS rc_X3 md_X3_remember ml_X8_57 (c_X3_remember l hI hc.2.1 hM) rfl rfl ⟨Nat.le_of_ble_eq_true rfl, Nat.le_of_ble_eq_true rfl⟩ ⟨Nat.le_refl _, Nat.le_refl _⟩ (Nat.le_of_ble_eq_true rfl) dX8_copyBank_48 (fun v9 mem2 H locs hp hR hS => ?_)
        obtain ⟨e9, hp2⟩ := hp
        subst e9
        have hM2 : mR (mem2 0) (aZ S) := by
          rw [hp2.2.m (Or.inl (by decide))]
          exact hc.1
        have hM := hM2
        rw [← fU_self mem2 0] at hR
        refine g_aload_n C hl dX8_copyBank_51 rfl ?_
        refine gt_X8_0 C hR fl_X8_10 dX8_copyBank_52 ?_
        refine gn_X4_0 C (by decide) hR fn_X8_47 dX8_copyBank_55 ?_
        refine g_iload_n C hl dX8_copyBank_58 rfl ?_
        refine g_iload_n C hl dX8_copyBank_59 rfl ?_
        refine g_callKv C hl.1 hR hS (rc_X0 (by decide)) md_X0_copyCells ml_X8_93 (c_X0_copyCells l hI (by decide) hM (show w < 8 by omega) (show b < 8 by omega)) rfl rfl ⟨Nat.le_of_ble_eq_true rfl, Nat.le_of_ble_eq_true rfl⟩ ⟨Nat.le_refl _, Nat.le_refl _⟩ (Nat.le_of_ble_eq_true rfl) dX8_copyBank_60 (fun g hM H locs hR hS => ?_)
        refine g_iload_n C hl dX8_copyBank_63 rfl ?_
        refine g_iret C hR hS dX8_copyBank_64 ?_
        rw [aCopy_4 hw2 hb2 c34]
        exact ⟨rfl, aCm_rec hc hp2 hM⟩
      · -- 34 F
        refine g_bipushM (-5) C dX8_copyBank_37 (by decide) ?_
        refine g_iret C hR hS dX8_copyBank_39 ?_
        rw [aCopy_3 hw2 hb2 c34]
        exact ⟨rfl, aCm_same hc⟩
    · -- 15 F
      refine g_iconstM (-1) C dX8_copyBank_18 (by decide) ?_
      refine g_iret C hR hS dX8_copyBank_19 ?_
      rw [aCopy_2 c15]
      exact ⟨rfl, aCm_same hc⟩
set_option maxRecDepth 100000 in
set_option maxHeartbeats 4000000 in
/-- X8_set -/
theorem c_X8_set (l : Launch) {X : gX} (hI : gInj X) {mem : gM} {S : aS} {v : Int32} (hJ : aI S) (hc : aCl S mem) : gMt l yX8_set cX8_set 3 (some .int) 5 132 X [.ref (gAd X 7 0), .int v] mem (fun v9 m9 => v9 = some (.int (aSet S v).1) ∧ aCm (aSet S v).2 mem m9) := by
  refine gMt.of (own := RX8) (by decide) rfl hI (by simp [Value.category]) (Nat.le_of_ble_eq_true rfl) ?_
  intro p e s m args below meth c ls H locs C hnm hl hR hS
  have hz : zI (aZ S) := hJ.1.1
  have hg : zG (aZ S) := hJ.1.2.1
  have hB : aZ S 178 ≤ 999999 := hJ.1.2.2.1
  have hM : mR (mem 0) (aZ S) := hc.1
  have h115 := hz.2.2.2.2.2.2.1
  have h116 := hz.2.2.2.2.2.2.2.1
  rw [← fU_self mem 0] at hR
  refine g_iload_n C hl dX8_set_0 rfl ?_
  refine g_iconst 2 C dX8_set_1 (by decide) ?_
  refine g_callSi C hl.1 hR hS md_X8_isBelow ml_X8_43 (c_X8_isBelow l hI (hi := 1) (by decide)) rfl rfl ⟨Nat.le_of_ble_eq_true rfl, Nat.le_of_ble_eq_true rfl⟩ ⟨Nat.le_refl _, Nat.le_refl _⟩ (Nat.le_of_ble_eq_true rfl) dX8_set_2 (fun H locs hR hS => ?_)
  refine g_ifv_ne (tgt := 11) C dX8_set_5 (by decide) (by decide) (fun v ev hv1 hv2 => ?_) (fun c5 => ?_)
  · -- 5 T
    subst ev
    refine g_aload_n C hl dX8_set_11 rfl ?_
    refine gt_X8_0 C hR fl_X8_10 dX8_set_12 ?_
    refine zgn_X4_6 C (by decide) hM hR fn_X8_96 dX8_set_15 ?_
    refine g_istore_n C hl dX8_set_18 (Nat.le_of_ble_eq_true rfl) (fun ls hl => ?_)
    refine g_iload_n C hl dX8_set_19 rfl ?_
    refine g_iload_n C hl dX8_set_20 rfl ?_
    refine g_icmp_ne (tgt := 27) C dX8_set_21 (by decide) (by have := hz.2.2.2.1; omega) (by have := hz.2.2.2.1; omega) (fun c21 => ?_) (fun c21 => ?_)
    · -- 21 T
      refine g_aload_n C hl dX8_set_27 rfl ?_
      refine gt_X8_3 C hR fl_X8_25 dX8_set_28 ?_
      refine g_aload_n C hl dX8_set_31 rfl ?_
      refine gt_X8_0 C hR fl_X8_10 dX8_set_32 ?_
      rw [fU_self] at hR
      refine g_callV C hl.1 hR hS rc_X3 md_X3_remember ml_X8_57 (c_X3_remember l hI hc.2.1 hM) rfl rfl ⟨Nat.le_of_ble_eq_true rfl, Nat.le_of_ble_eq_true rfl⟩ ⟨Nat.le_refl _, Nat.le_refl _⟩ (Nat.le_of_ble_eq_true rfl) dX8_set_35 (fun v9 mem2 H locs hp hR hS => ?_)
      obtain ⟨e9, hp2⟩ := hp
      subst e9
      have hM2 : mR (mem2 0) (aZ S) := by
        rw [hp2.2.m (Or.inl (by decide))]
        exact hc.1
      have hM := hM2
      rw [← fU_self mem2 0] at hR
      refine g_aload_n C hl dX8_set_38 rfl ?_
      refine gt_X8_0 C hR fl_X8_10 dX8_set_39 ?_
      refine g_iload_n C hl dX8_set_42 rfl ?_
      refine zpn_X4_6 C (by decide) hM hR hS fn_X8_96 dX8_set_43 (fun g hM H locs hR hS => ?_)
      refine g_iload_n C hl dX8_set_46 rfl ?_
      refine g_iret C hR hS dX8_set_47 ?_
      rw [aSet_3 hv2 c21]
      exact ⟨rfl, aCm_rec hc hp2 hM⟩
    · -- 21 F
      refine g_bipushM (-5) C dX8_set_24 (by decide) ?_
      refine g_iret C hR hS dX8_set_26 ?_
      rw [aSet_2 hv2 c21]
      exact ⟨rfl, aCm_same hc⟩
  · -- 5 F
    refine g_bipushM (-2) C dX8_set_8 (by decide) ?_
    refine g_iret C hR hS dX8_set_10 ?_
    rw [aSet_1 c5]
    exact ⟨rfl, aCm_same hc⟩
set_option maxRecDepth 100000 in
set_option maxHeartbeats 4000000 in
/-- X8_begin -/
theorem c_X8_begin (l : Launch) {X : gX} (hI : gInj X) {mem : gM} {S : aS} {v : Int32} (hJ : aI S) (hc : aCl S mem) : gMt l yX8_begin cX8_begin 3 (some .int) 5 132 X [.ref (gAd X 7 0), .int v] mem (fun v9 m9 => v9 = some (.int (aBegin S v).1) ∧ aCm (aBegin S v).2 mem m9) := by
  refine gMt.of (own := RX8) (by decide) rfl hI (by simp [Value.category]) (Nat.le_of_ble_eq_true rfl) ?_
  intro p e s m args below meth c ls H locs C hnm hl hR hS
  have hz : zI (aZ S) := hJ.1.1
  have hg : zG (aZ S) := hJ.1.2.1
  have hB : aZ S 178 ≤ 999999 := hJ.1.2.2.1
  have hM : mR (mem 0) (aZ S) := hc.1
  have h115 := hz.2.2.2.2.2.2.1
  have h116 := hz.2.2.2.2.2.2.2.1
  rw [← fU_self mem 0] at hR
  refine g_iload_n C hl dX8_begin_0 rfl ?_
  refine g_bipush 64 C dX8_begin_1 (by decide) ?_
  refine g_callSi C hl.1 hR hS md_X8_isBelow ml_X8_43 (c_X8_isBelow l hI (hi := 63) (by decide)) rfl rfl ⟨Nat.le_of_ble_eq_true rfl, Nat.le_of_ble_eq_true rfl⟩ ⟨Nat.le_refl _, Nat.le_refl _⟩ (Nat.le_of_ble_eq_true rfl) dX8_begin_3 (fun H locs hR hS => ?_)
  refine g_ifv_ne (tgt := 11) C dX8_begin_6 (by decide) (by decide) (fun v ev hv1 hv2 => ?_) (fun c6 => ?_)
  · -- 6 T
    subst ev
    refine g_aload_n C hl dX8_begin_11 rfl ?_
    refine gt_X8_0 C hR fl_X8_10 dX8_begin_12 ?_
    refine zgn_X4_4 C (by decide) hM hR fn_X8_100 dX8_begin_15 ?_
    refine g_istore_n C hl dX8_begin_18 (Nat.le_of_ble_eq_true rfl) (fun ls hl => ?_)
    refine g_aload_n C hl dX8_begin_19 rfl ?_
    refine gt_X8_3 C hR fl_X8_25 dX8_begin_20 ?_
    refine g_aload_n C hl dX8_begin_23 rfl ?_
    refine gt_X8_0 C hR fl_X8_10 dX8_begin_24 ?_
    rw [fU_self] at hR
    refine g_callV C hl.1 hR hS rc_X3 md_X3_remember ml_X8_57 (c_X3_remember l hI hc.2.1 hM) rfl rfl ⟨Nat.le_of_ble_eq_true rfl, Nat.le_of_ble_eq_true rfl⟩ ⟨Nat.le_refl _, Nat.le_refl _⟩ (Nat.le_of_ble_eq_true rfl) dX8_begin_27 (fun v9 mem2 H locs hp hR hS => ?_)
    obtain ⟨e9, hp2⟩ := hp
    subst e9
    have hM2 : mR (mem2 0) (aZ S) := by
      rw [hp2.2.m (Or.inl (by decide))]
      exact hc.1
    have hM := hM2
    rw [← fU_self mem2 0] at hR
    refine g_aload_n C hl dX8_begin_30 rfl ?_
    refine gt_X8_0 C hR fl_X8_10 dX8_begin_31 ?_
    refine g_iload_n C hl dX8_begin_34 rfl ?_
    refine g_callKv C hl.1 hR hS (rc_X4 (by decide)) md_X4_startAt ml_X8_103 (c_X4_startAt l hI (by decide) hM) rfl rfl ⟨Nat.le_of_ble_eq_true rfl, Nat.le_of_ble_eq_true rfl⟩ ⟨Nat.le_refl _, Nat.le_refl _⟩ (Nat.le_of_ble_eq_true rfl) dX8_begin_35 (fun g hM H locs hR hS => ?_)
    refine g_iload_n C hl dX8_begin_38 rfl ?_
    refine g_iret C hR hS dX8_begin_39 ?_
    rw [aBegin_2 hv2]
    exact ⟨rfl, aCm_rec hc hp2 hM⟩
  · -- 6 F
    refine g_iconstM (-1) C dX8_begin_9 (by decide) ?_
    refine g_iret C hR hS dX8_begin_10 ?_
    rw [aBegin_1 c6]
    exact ⟨rfl, aCm_same hc⟩
set_option maxRecDepth 100000 in
set_option maxHeartbeats 4000000 in
/-- X8_run -/
theorem c_X8_run (l : Launch) {X : gX} (hI : gInj X) {mem : gM} {S : aS} {v : Int32} (hJ : aI S) (hc : aCl S mem) : gMt l yX8_run cX8_run 2 (some .int) 6 137 X [.ref (gAd X 7 0), .int v] mem (fun v9 m9 => v9 = some (.int (aRun S v).1) ∧ aCm (aRun S v).2 mem m9) := by
  refine gMt.of (own := RX8) (by decide) rfl hI (by simp [Value.category]) (Nat.le_of_ble_eq_true rfl) ?_
  intro p e s m args below meth c ls H locs C hnm hl hR hS
  have hz : zI (aZ S) := hJ.1.1
  have hg : zG (aZ S) := hJ.1.2.1
  have hB : aZ S 178 ≤ 999999 := hJ.1.2.2.1
  have hM : mR (mem 0) (aZ S) := hc.1
  have h115 := hz.2.2.2.2.2.2.1
  have h116 := hz.2.2.2.2.2.2.2.1
  rw [← fU_self mem 0] at hR
  refine g_iload_n C hl dX8_run_0 rfl ?_
  refine g_callSi C hl.1 hR hS md_X8_isStepsOfRun ml_X8_107 (c_X8_isStepsOfRun l hI) rfl rfl ⟨Nat.le_of_ble_eq_true rfl, Nat.le_of_ble_eq_true rfl⟩ ⟨Nat.le_refl _, Nat.le_refl _⟩ (Nat.le_of_ble_eq_true rfl) dX8_run_1 (fun H locs hR hS => ?_)
  refine g_ifv_ne (tgt := 10) C dX8_run_4 (by decide) (by decide) (fun v ev hv1 hv2 => ?_) (fun c4 => ?_)
  · -- 4 T
    subst ev
    refine g_aload_n C hl dX8_run_10 rfl ?_
    refine gt_X8_0 C hR fl_X8_10 dX8_run_11 ?_
    refine zgn_X4_5 C (by decide) hM hR fn_X8_110 dX8_run_14 ?_
    refine g_if_eq (tgt := 23) C dX8_run_17 (by decide) (by omega) (fun c17 => ?_) (fun c17 => ?_)
    · -- 17 T
      refine g_aload_n C hl dX8_run_23 rfl ?_
      refine gt_X8_0 C hR fl_X8_10 dX8_run_24 ?_
      refine gn_X4_2 C (by decide) hR fn_X8_113 dX8_run_27 ?_
      refine zgn_X7_1 C (by decide) hM hR fn_X8_117 dX8_run_30 ?_
      refine g_iload_n C hl dX8_run_33 rfl ?_
      refine g_iadd C dX8_run_34 ?_
      refine g_ldc 999999 C cn_X8_122 rfl dX8_run_35 ?_
      refine g_icmp_le (tgt := 43) C dX8_run_37 (by decide) (by omega) (by omega) (fun c37 => ?_) (fun c37 => ?_)
      · -- 37 T
        refine g_aload_n C hl dX8_run_43 rfl ?_
        refine gt_X8_3 C hR fl_X8_25 dX8_run_44 ?_
        refine g_aload_n C hl dX8_run_47 rfl ?_
        refine gt_X8_0 C hR fl_X8_10 dX8_run_48 ?_
        rw [fU_self] at hR
        refine g_callV C hl.1 hR hS rc_X3 md_X3_remember ml_X8_57 (c_X3_remember l hI hc.2.1 hM) rfl rfl ⟨Nat.le_of_ble_eq_true rfl, Nat.le_of_ble_eq_true rfl⟩ ⟨Nat.le_refl _, Nat.le_refl _⟩ (Nat.le_of_ble_eq_true rfl) dX8_run_51 (fun v9 mem2 H locs hp hR hS => ?_)
        obtain ⟨e9, hp2⟩ := hp
        subst e9
        have hM2 : mR (mem2 0) (aZ S) := by
          rw [hp2.2.m (Or.inl (by decide))]
          exact hc.1
        have hM := hM2
        rw [← fU_self mem2 0] at hR
        refine g_aload_n C hl dX8_run_54 rfl ?_
        refine gt_X8_0 C hR fl_X8_10 dX8_run_55 ?_
        refine g_iload_n C hl dX8_run_58 rfl ?_
        refine g_callKi C hl.1 hR hS (rc_X4 (by decide)) md_X4_takeSteps ml_X8_123 (c_X4_takeSteps l hI (by decide) hM hz hg hB (show v < 2000 by omega)) rfl rfl ⟨Nat.le_of_ble_eq_true rfl, Nat.le_of_ble_eq_true rfl⟩ ⟨Nat.le_refl _, Nat.le_refl _⟩ (Nat.le_of_ble_eq_true rfl) dX8_run_59 (fun g hM H locs hR hS => ?_)
        refine g_iret C hR hS dX8_run_62 ?_
        rw [aRun_4 hv1 hv2 c17 (by omega)]
        exact ⟨rfl, aCm_rec hc hp2 hM⟩
      · -- 37 F
        refine g_bipushM (-3) C dX8_run_40 (by decide) ?_
        refine g_iret C hR hS dX8_run_42 ?_
        rw [aRun_3 hv1 hv2 c17 (by omega)]
        exact ⟨rfl, aCm_same hc⟩
    · -- 17 F
      refine g_bipushM (-4) C dX8_run_20 (by decide) ?_
      refine g_iret C hR hS dX8_run_22 ?_
      rw [aRun_2 hv1 hv2 (by omega)]
      exact ⟨rfl, aCm_same hc⟩
  · -- 4 F
    refine g_bipushM (-2) C dX8_run_7 (by decide) ?_
    refine g_iret C hR hS dX8_run_9 ?_
    rw [aRun_1 c4]
    exact ⟨rfl, aCm_same hc⟩
end
section
theorem aCm_undo {S : aS} {mem m9 : gM} (hc : aCl S mem) (hp : hHi m9 (aN S - 1) (aH S) ∧ mR (m9 0) (aH S (aN S - 1)) ∧ (∀ k, (0 < k ∧ k < 3) ∨ 7 < k → m9 k = mem k) ∧ ∀ o, ¬ o = 1 → m9 7 o = mem 7 o) : aCm (aN S - 1, aH S, aH S (aN S - 1), aK S, aKz S, aL S, aT S) mem m9 := by
  obtain ⟨h1, h2, h3, h4, h5, t1, t2, t3, t4⟩ := hc
  obtain ⟨p1, p2, p3, p4⟩ := hp
  refine ⟨⟨p2, p1, ?_, h4, ?_, ?_, ?_, t3, t4⟩, fun k h9 => p3 k (Or.inr h9)⟩
  · rw [p4 0 (by decide)]; exact h3
  · rw [p3 2 (Or.inl (by decide))]; exact h5
  · rw [p4 3 (by decide)]; exact t1
  · rw [p4 4 (by decide)]; exact t2
set_option maxRecDepth 100000 in
set_option maxHeartbeats 4000000 in
/-- X8_lock -/
theorem c_X8_lock (l : Launch) {X : gX} (hI : gInj X) {mem : gM} {S : aS} {b : Int32} {v : Nat} (hv : v < 2) (hJ : aI S) (hc : aCl S mem) : gMt l yX8_lock cX8_lock 3 (some .int) 5 132 X [.ref (gAd X 7 0), .int b, .int (nI v)] mem (fun v9 m9 => v9 = some (.int (aLock S b v).1) ∧ aCm (aLock S b v).2 mem m9) := by
  refine gMt.of (own := RX8) (by decide) rfl hI (by simp [Value.category]) (Nat.le_of_ble_eq_true rfl) ?_
  intro p e s m args below meth c ls H locs C hnm hl hR hS
  have hz : zI (aZ S) := hJ.1.1
  have hg : zG (aZ S) := hJ.1.2.1
  have hB : aZ S 178 ≤ 999999 := hJ.1.2.2.1
  have hM : mR (mem 0) (aZ S) := hc.1
  have h115 := hz.2.2.2.2.2.2.1
  have h116 := hz.2.2.2.2.2.2.2.1
  rw [← fU_self mem 0] at hR
  refine g_iload_n C hl dX8_lock_0 rfl ?_
  refine g_bipush 8 C dX8_lock_1 (by decide) ?_
  refine g_callSi C hl.1 hR hS md_X8_isBelow ml_X8_43 (c_X8_isBelow l hI (hi := 7) (by decide)) rfl rfl ⟨Nat.le_of_ble_eq_true rfl, Nat.le_of_ble_eq_true rfl⟩ ⟨Nat.le_refl _, Nat.le_refl _⟩ (Nat.le_of_ble_eq_true rfl) dX8_lock_3 (fun H locs hR hS => ?_)
  refine g_ifv_ne (tgt := 11) C dX8_lock_6 (by decide) (by decide) (fun b eb hb1 hb2 => ?_) (fun c6 => ?_)
  · -- 6 T
    subst eb
    refine g_aload_n C hl dX8_lock_11 rfl ?_
    refine gt_X8_0 C hR fl_X8_10 dX8_lock_12 ?_
    refine gn_X4_0 C (by decide) hR fn_X8_47 dX8_lock_15 ?_
    refine g_iload_n C hl dX8_lock_18 rfl ?_
    refine g_callVi C hl.1 hR hS (rc_X0 (by decide)) md_X0_isAlone ml_X8_65 (c_X0_isAlone l hI (by decide) hM hz (show b < 8 by omega)) rfl rfl ⟨Nat.le_of_ble_eq_true rfl, Nat.le_of_ble_eq_true rfl⟩ ⟨Nat.le_refl _, Nat.le_refl _⟩ (Nat.le_of_ble_eq_true rfl) dX8_lock_19 (fun H locs hR hS => ?_)
    refine g_iload_n C hl dX8_lock_22 rfl ?_
    refine g_icmp_ne (tgt := 29) C dX8_lock_23 (by decide) (by have := hz.2.2.1 b (by omega); omega) (by have := hz.2.2.1 b (by omega); omega) (fun c23 => ?_) (fun c23 => ?_)
    · -- 23 T
      refine g_aload_n C hl dX8_lock_29 rfl ?_
      refine gt_X8_3 C hR fl_X8_25 dX8_lock_30 ?_
      refine g_aload_n C hl dX8_lock_33 rfl ?_
      refine gt_X8_0 C hR fl_X8_10 dX8_lock_34 ?_
      rw [fU_self] at hR
      refine g_callV C hl.1 hR hS rc_X3 md_X3_remember ml_X8_57 (c_X3_remember l hI hc.2.1 hM) rfl rfl ⟨Nat.le_of_ble_eq_true rfl, Nat.le_of_ble_eq_true rfl⟩ ⟨Nat.le_refl _, Nat.le_refl _⟩ (Nat.le_of_ble_eq_true rfl) dX8_lock_37 (fun v9 mem2 H locs hp hR hS => ?_)
      obtain ⟨e9, hp2⟩ := hp
      subst e9
      have hM2 : mR (mem2 0) (aZ S) := by
        rw [hp2.2.m (Or.inl (by decide))]
        exact hc.1
      have hM := hM2
      rw [← fU_self mem2 0] at hR
      refine g_aload_n C hl dX8_lock_40 rfl ?_
      refine gt_X8_0 C hR fl_X8_10 dX8_lock_41 ?_
      refine gn_X4_0 C (by decide) hR fn_X8_47 dX8_lock_44 ?_
      refine gn_X0_1 C (by decide) hR fn_X8_69 dX8_lock_47 ?_
      refine g_iload_n C hl dX8_lock_50 rfl ?_
      refine g_iload_n C hl dX8_lock_51 rfl ?_
      refine g_if_eq (tgt := 59) C dX8_lock_52 (by decide) (by omega) (fun c52 => ?_) (fun c52 => ?_)
      · -- 52 T
        refine g_iconst 0 C dX8_lock_59 (by decide) ?_
        obtain rfl : v = 0 := by omega
        refine g_callKv C hl.1 hR hS (rc_X5 (gRow_4 (by decide))) md_X5_write ml_X8_73 (c_zw l hI hM (gRow_4 (by decide)) mB_5 (show b < 8 by omega)) rfl rfl ⟨Nat.le_of_ble_eq_true rfl, Nat.le_of_ble_eq_true rfl⟩ ⟨Nat.le_refl _, Nat.le_refl _⟩ (Nat.le_of_ble_eq_true rfl) dX8_lock_60 (fun g hM H locs hR hS => ?_)
        refine g_aload_n C hl dX8_lock_63 rfl ?_
        refine gt_X8_0 C hR fl_X8_10 dX8_lock_64 ?_
        refine gn_X4_0 C (by decide) hR fn_X8_47 dX8_lock_67 ?_
        refine gn_X0_1 C (by decide) hR fn_X8_69 dX8_lock_70 ?_
        refine g_callVi C hl.1 hR hS (rc_X5 (gRow_4 (by decide))) md_X5_sum ml_X8_79 (c_X5_sum l hI (gRow_4 (by decide))) rfl rfl ⟨Nat.le_of_ble_eq_true rfl, Nat.le_of_ble_eq_true rfl⟩ ⟨Nat.le_refl _, Nat.le_refl _⟩ (Nat.le_of_ble_eq_true rfl) dX8_lock_73 (fun H locs hR hS => ?_)
        refine g_iret C hR hS dX8_lock_76 ?_
        rw [aLock_3 hb2 c23]
        refine ⟨?_, aCm_rec hc hp2 hM⟩
        rw [fU_s, gSum_cg (g := fun q => fU (aZ S) (104 + b) 0 (104 + q)) 8 (fun i hi => mR_arr hM mB_5 hi)]
      · -- 52 F
        refine g_iconst 1 C dX8_lock_55 (by decide) ?_
        obtain rfl : v = 1 := by omega
        refine g_goto (tgt := 60) C dX8_lock_56 (by decide) ?_
        refine g_callKv C hl.1 hR hS (rc_X5 (gRow_4 (by decide))) md_X5_write ml_X8_73 (c_zw l hI hM (gRow_4 (by decide)) mB_5 (show b < 8 by omega)) rfl rfl ⟨Nat.le_of_ble_eq_true rfl, Nat.le_of_ble_eq_true rfl⟩ ⟨Nat.le_refl _, Nat.le_refl _⟩ (Nat.le_of_ble_eq_true rfl) dX8_lock_60 (fun g hM H locs hR hS => ?_)
        refine g_aload_n C hl dX8_lock_63 rfl ?_
        refine gt_X8_0 C hR fl_X8_10 dX8_lock_64 ?_
        refine gn_X4_0 C (by decide) hR fn_X8_47 dX8_lock_67 ?_
        refine gn_X0_1 C (by decide) hR fn_X8_69 dX8_lock_70 ?_
        refine g_callVi C hl.1 hR hS (rc_X5 (gRow_4 (by decide))) md_X5_sum ml_X8_79 (c_X5_sum l hI (gRow_4 (by decide))) rfl rfl ⟨Nat.le_of_ble_eq_true rfl, Nat.le_of_ble_eq_true rfl⟩ ⟨Nat.le_refl _, Nat.le_refl _⟩ (Nat.le_of_ble_eq_true rfl) dX8_lock_73 (fun H locs hR hS => ?_)
        refine g_iret C hR hS dX8_lock_76 ?_
        rw [aLock_3 hb2 c23]
        refine ⟨?_, aCm_rec hc hp2 hM⟩
        rw [fU_s, gSum_cg (g := fun q => fU (aZ S) (104 + b) 1 (104 + q)) 8 (fun i hi => mR_arr hM mB_5 hi)]
    · -- 23 F
      refine g_bipushM (-5) C dX8_lock_26 (by decide) ?_
      refine g_iret C hR hS dX8_lock_28 ?_
      rw [aLock_2 hb2 c23]
      exact ⟨rfl, aCm_same hc⟩
  · -- 6 F
    refine g_iconstM (-1) C dX8_lock_9 (by decide) ?_
    refine g_iret C hR hS dX8_lock_10 ?_
    rw [aLock_1 c6]
    exact ⟨rfl, aCm_same hc⟩
set_option maxRecDepth 100000 in
set_option maxHeartbeats 4000000 in
/-- X8_undo -/
theorem c_X8_undo (l : Launch) {X : gX} (hI : gInj X) {mem : gM} {S : aS}  (hJ : aI S) (hc : aCl S mem) : gMt l yX8_undo cX8_undo 1 (some .int) 5 132 X [.ref (gAd X 7 0)] mem (fun v9 m9 => v9 = some (.int (aUndo S).1) ∧ aCm (aUndo S).2 mem m9) := by
  refine gMt.of (own := RX8) (by decide) rfl hI (by simp [Value.category]) (Nat.le_of_ble_eq_true rfl) ?_
  intro p e s m args below meth c ls H locs C hnm hl hR hS
  have hz : zI (aZ S) := hJ.1.1
  have hg : zG (aZ S) := hJ.1.2.1
  have hB : aZ S 178 ≤ 999999 := hJ.1.2.2.1
  have hM : mR (mem 0) (aZ S) := hc.1
  have h115 := hz.2.2.2.2.2.2.1
  have h116 := hz.2.2.2.2.2.2.2.1
  refine g_aload_n C hl dX8_undo_0 rfl ?_
  refine gt_X8_3 C hR fl_X8_25 dX8_undo_1 ?_
  refine gn_X3_1 C hR fn_X8_154 dX8_undo_4 ?_
  rw [hc.2.1.1]
  refine g_if_ne (tgt := 13) C dX8_undo_7 (by decide) (by have := hc.2.1.2.1; omega) (fun c7 => ?_) (fun c7 => ?_)
  · -- 7 T
    refine g_aload_n C hl dX8_undo_13 rfl ?_
    refine gt_X8_3 C hR fl_X8_25 dX8_undo_14 ?_
    refine g_aload_n C hl dX8_undo_17 rfl ?_
    refine gt_X8_0 C hR fl_X8_10 dX8_undo_18 ?_
    refine g_callV C hl.1 hR hS rc_X3 md_X3_bringBack ml_X8_155 (c_X3_bringBack l hI hc.2.1 (by omega)) rfl rfl ⟨Nat.le_of_ble_eq_true rfl, Nat.le_of_ble_eq_true rfl⟩ ⟨Nat.le_refl _, Nat.le_refl _⟩ (Nat.le_of_ble_eq_true rfl) dX8_undo_21 (fun v9 mem2 H locs hp hR hS => ?_)
    obtain ⟨e9, hp2⟩ := hp
    subst e9
    refine g_aload_n C hl dX8_undo_24 rfl ?_
    refine gt_X8_3 C hR fl_X8_25 dX8_undo_25 ?_
    refine gn_X3_1 C hR fn_X8_154 dX8_undo_28 ?_
    rw [hp2.1.1]
    refine g_iret C hR hS dX8_undo_31 ?_
    unfold aUndo
    rw [if_neg c7]
    exact ⟨rfl, aCm_undo hc hp2⟩
  · -- 7 F
    refine g_bipushM (-5) C dX8_undo_10 (by decide) ?_
    refine g_iret C hR hS dX8_undo_12 ?_
    unfold aUndo
    rw [if_pos c7]
    exact ⟨rfl, hc, fun _ _ => rfl⟩
set_option maxRecDepth 100000 in
set_option maxHeartbeats 4000000 in
/-- X8_restore -/
theorem c_X8_restore (l : Launch) {X : gX} (hI : gInj X) {mem : gM} {S : aS}  (hJ : aI S) (hc : aCl S mem) : gMt l yX8_restore cX8_restore 1 (some .int) 5 132 X [.ref (gAd X 7 0)] mem (fun v9 m9 => v9 = some (.int (aRest S).1) ∧ aCm (aRest S).2 mem m9) := by
  refine gMt.of (own := RX8) (by decide) rfl hI (by simp [Value.category]) (Nat.le_of_ble_eq_true rfl) ?_
  intro p e s m args below meth c ls H locs C hnm hl hR hS
  have hz : zI (aZ S) := hJ.1.1
  have hg : zG (aZ S) := hJ.1.2.1
  have hB : aZ S 178 ≤ 999999 := hJ.1.2.2.1
  have hM : mR (mem 0) (aZ S) := hc.1
  have h115 := hz.2.2.2.2.2.2.1
  have h116 := hz.2.2.2.2.2.2.2.1
  refine g_aload_n C hl dX8_restore_0 rfl ?_
  refine gt_X8_6 C hR fl_X8_161 dX8_restore_1 ?_
  rw [hc.2.2.1]
  refine g_if_ne (tgt := 10) C dX8_restore_4 (by decide) (by have := hc.2.2.2.1; omega) (fun c4 => ?_) (fun c4 => ?_)
  · -- 4 T
    refine g_aload_n C hl dX8_restore_10 rfl ?_
    refine gt_X8_3 C hR fl_X8_25 dX8_restore_11 ?_
    refine g_aload_n C hl dX8_restore_14 rfl ?_
    refine gt_X8_0 C hR fl_X8_10 dX8_restore_15 ?_
    refine g_callV C hl.1 hR hS rc_X3 md_X3_remember ml_X8_57 (c_X3_remember l hI hc.2.1 hM) rfl rfl ⟨Nat.le_of_ble_eq_true rfl, Nat.le_of_ble_eq_true rfl⟩ ⟨Nat.le_refl _, Nat.le_refl _⟩ (Nat.le_of_ble_eq_true rfl) dX8_restore_18 (fun v9 mem2 H locs hp hR hS => ?_)
    obtain ⟨e9, hp2⟩ := hp
    subst e9
    have hM2 : mR (mem2 0) (aZ S) := by
      rw [hp2.2.m (Or.inl (by decide))]
      exact hc.1
    have hM := hM2
    have hK : mR (mem2 2) (aKz S) := by
      rw [hp2.2.m (Or.inl (by decide))]
      exact hc.2.2.2.2.1 (by have := hc.2.2.2.1; omega)
    refine g_aload_n C hl dX8_restore_21 rfl ?_
    refine gt_X8_0 C hR fl_X8_10 dX8_restore_22 ?_
    refine g_aload_n C hl dX8_restore_25 rfl ?_
    refine gt_X8_2 C hR fl_X8_19 dX8_restore_26 ?_
    refine g_callKv C hl.1 hR hS (rc_X4 (by decide)) md_X4_copyFrom ml_X8_158 (c_X4_copyFrom l hI (k := 0) (k2 := 2) (by decide) (by decide) (by decide) hK) rfl rfl ⟨Nat.le_of_ble_eq_true rfl, Nat.le_of_ble_eq_true rfl⟩ ⟨Nat.le_refl _, Nat.le_refl _⟩ (Nat.le_of_ble_eq_true rfl) dX8_restore_29 (fun g hM H locs hR hS => ?_)
    refine g_aload_n C hl dX8_restore_32 rfl ?_
    refine gt_X8_0 C hR fl_X8_10 dX8_restore_33 ?_
    refine zgn_X4_4 C (by decide) hM hR fn_X8_100 dX8_restore_36 ?_
    refine g_iret C hR hS dX8_restore_39 ?_
    unfold aRest
    rw [if_neg c4]
    exact ⟨rfl, aCm_rec hc hp2 hM⟩
  · -- 4 F
    refine g_bipushM (-5) C dX8_restore_7 (by decide) ?_
    refine g_iret C hR hS dX8_restore_9 ?_
    unfold aRest
    rw [if_pos c4]
    exact ⟨rfl, hc, fun _ _ => rfl⟩
end
section
/-! ===== FarBanks: what is told ===== -/
theorem lmin (a b : Nat) : min a b = if a ≤ b then a else b := rfl
set_option maxRecDepth 100000 in
set_option maxHeartbeats 4000000 in
/-- X8_cell -/
theorem c_X8_cell (l : Launch) {X : gX} (hI : gInj X) {mem : gM} {S : aS} {b c9 : Int32} (hJ : aI S) (hc : aCl S mem) : gMt l yX8_cell cX8_cell 3 (some .int) 2 43 X [.ref (gAd X 7 0), .int b, .int c9] mem (fun v9 m9 => v9 = some (.int (sCell (aZ S) b c9)) ∧ aCm S mem m9) := by
  refine gMt.of (own := RX8) (by decide) rfl hI (by simp [Value.category]) (Nat.le_of_ble_eq_true rfl) ?_
  intro p e s m args below meth c ls H locs C hnm hl hR hS
  have hz : zI (aZ S) := hJ.1.1
  have hg : zG (aZ S) := hJ.1.2.1
  have hB : aZ S 178 ≤ 999999 := hJ.1.2.2.1
  have hM : mR (mem 0) (aZ S) := hc.1
  have h115 := hz.2.2.2.2.2.2.1
  have h116 := hz.2.2.2.2.2.2.2.1
  rw [← fU_self mem 0] at hR
  refine g_iload_n C hl dX8_cell_0 rfl ?_
  refine g_bipush 8 C dX8_cell_1 (by decide) ?_
  refine g_callSi C hl.1 hR hS md_X8_isBelow ml_X8_43 (c_X8_isBelow l hI (hi := 7) (by decide)) rfl rfl ⟨Nat.le_of_ble_eq_true rfl, Nat.le_of_ble_eq_true rfl⟩ ⟨Nat.le_refl _, Nat.le_refl _⟩ (Nat.le_of_ble_eq_true rfl) dX8_cell_3 (fun H locs hR hS => ?_)
  refine g_ifv_eq (tgt := 18) C dX8_cell_6 (by decide) (by decide) (fun c6 => ?_) (fun b eb hb1 hb2 => ?_)
  · -- 6 T
    refine g_iconstM (-1) C dX8_cell_18 (by decide) ?_
    refine g_iret C hR hS dX8_cell_19 ?_
    unfold sCell
    rw [if_neg (by rw [c6]; decide)]
    exact ⟨rfl, aCm_same hc⟩
  · -- 6 F
    subst eb
    refine g_iload_n C hl dX8_cell_9 rfl ?_
    refine g_bipush 16 C dX8_cell_10 (by decide) ?_
    refine g_callSi C hl.1 hR hS md_X8_isBelow ml_X8_43 (c_X8_isBelow l hI (hi := 15) (by decide)) rfl rfl ⟨Nat.le_of_ble_eq_true rfl, Nat.le_of_ble_eq_true rfl⟩ ⟨Nat.le_refl _, Nat.le_refl _⟩ (Nat.le_of_ble_eq_true rfl) dX8_cell_12 (fun H locs hR hS => ?_)
    refine g_ifv_ne (tgt := 20) C dX8_cell_15 (by decide) (by decide) (fun c9 ec9 hc91 hc92 => ?_) (fun c15 => ?_)
    · -- 15 T
      subst ec9
      refine g_aload_n C hl dX8_cell_20 rfl ?_
      refine gt_X8_0 C hR fl_X8_10 dX8_cell_21 ?_
      refine gn_X4_0 C (by decide) hR fn_X8_47 dX8_cell_24 ?_
      refine g_iload_n C hl dX8_cell_27 rfl ?_
      refine g_iload_n C hl dX8_cell_28 rfl ?_
      refine g_callVi C hl.1 hR hS (rc_X0 (by decide)) md_X0_numberIn ml_X8_51 (c_X0_numberIn l hI (by decide) hM (show b < 8 by omega) (show c9 < 16 by omega)) rfl rfl ⟨Nat.le_of_ble_eq_true rfl, Nat.le_of_ble_eq_true rfl⟩ ⟨Nat.le_refl _, Nat.le_refl _⟩ (Nat.le_of_ble_eq_true rfl) dX8_cell_29 (fun H locs hR hS => ?_)
      refine g_iret C hR hS dX8_cell_32 ?_
      unfold sCell
      rw [if_pos (gIw_ok (by omega) hb2 (by decide)), if_pos (gIw_ok (by omega) hc92 (by decide)), nI_clamp (by omega), nI_clamp (by omega)]
      exact ⟨rfl, aCm_same hc⟩
    · -- 15 F
      refine g_iconstM (-1) C dX8_cell_18 (by decide) ?_
      refine g_iret C hR hS dX8_cell_19 ?_
      unfold sCell
      rw [if_neg (show ¬ gIw c9 0 15 = true by rw [c15]; decide), ite_self]
      exact ⟨rfl, aCm_same hc⟩
set_option maxRecDepth 100000 in
set_option maxHeartbeats 4000000 in
/-- X8_window -/
theorem c_X8_window (l : Launch) {X : gX} (hI : gInj X) {mem : gM} {S : aS} {w : Int32} (hJ : aI S) (hc : aCl S mem) : gMt l yX8_window cX8_window 2 (some .int) 1 21 X [.ref (gAd X 7 0), .int w] mem (fun v9 m9 => v9 = some (.int (sWin (aZ S) w)) ∧ aCm S mem m9) := by
  refine gMt.of (own := RX8) (by decide) rfl hI (by simp [Value.category]) (Nat.le_of_ble_eq_true rfl) ?_
  intro p e s m args below meth c ls H locs C hnm hl hR hS
  have hz : zI (aZ S) := hJ.1.1
  have hg : zG (aZ S) := hJ.1.2.1
  have hB : aZ S 178 ≤ 999999 := hJ.1.2.2.1
  have hM : mR (mem 0) (aZ S) := hc.1
  have h115 := hz.2.2.2.2.2.2.1
  have h116 := hz.2.2.2.2.2.2.2.1
  rw [← fU_self mem 0] at hR
  refine g_iload_n C hl dX8_window_0 rfl ?_
  refine g_iconst 4 C dX8_window_1 (by decide) ?_
  refine g_callSi C hl.1 hR hS md_X8_isBelow ml_X8_43 (c_X8_isBelow l hI (hi := 3) (by decide)) rfl rfl ⟨Nat.le_of_ble_eq_true rfl, Nat.le_of_ble_eq_true rfl⟩ ⟨Nat.le_refl _, Nat.le_refl _⟩ (Nat.le_of_ble_eq_true rfl) dX8_window_2 (fun H locs hR hS => ?_)
  refine g_ifv_eq (tgt := 25) C dX8_window_5 (by decide) (by decide) (fun c5 => ?_) (fun w ew hw1 hw2 => ?_)
  · -- 5 T
    refine g_iconstM (-1) C dX8_window_25 (by decide) ?_
    refine g_iret C hR hS dX8_window_26 ?_
    unfold sWin
    rw [if_neg (by rw [c5]; decide)]
    exact ⟨rfl, aCm_same hc⟩
  · -- 5 F
    subst ew
    refine g_aload_n C hl dX8_window_8 rfl ?_
    refine gt_X8_0 C hR fl_X8_10 dX8_window_9 ?_
    refine gn_X4_0 C (by decide) hR fn_X8_47 dX8_window_12 ?_
    refine gn_X0_2 C (by decide) hR fn_X8_83 dX8_window_15 ?_
    refine g_iload_n C hl dX8_window_18 rfl ?_
    refine g_callVi C hl.1 hR hS (rc_X5 (gRow_6 (by decide))) md_X5_read ml_X8_86 (c_zr l hI hM (gRow_6 (by decide)) mB_7 (show w < 4 by omega)) rfl rfl ⟨Nat.le_of_ble_eq_true rfl, Nat.le_of_ble_eq_true rfl⟩ ⟨Nat.le_refl _, Nat.le_refl _⟩ (Nat.le_of_ble_eq_true rfl) dX8_window_19 (fun H locs hR hS => ?_)
    refine g_goto (tgt := 26) C dX8_window_22 (by decide) ?_
    refine g_iret C hR hS dX8_window_26 ?_
    unfold sWin
    rw [if_pos (gIw_ok (by omega) hw2 (by decide)), nI_clamp (by omega)]
    exact ⟨rfl, aCm_same hc⟩
set_option maxRecDepth 100000 in
set_option maxHeartbeats 4000000 in
/-- X8_address -/
theorem c_X8_address (l : Launch) {X : gX} (hI : gInj X) {mem : gM} {S : aS} {ad w : Int32} (hJ : aI S) (hc : aCl S mem) : gMt l yX8_address cX8_address 3 (some .int) 3 67 X [.ref (gAd X 7 0), .int ad, .int w] mem (fun v9 m9 => v9 = some (.int (sAddr (aZ S) ad w)) ∧ aCm S mem m9) := by
  refine gMt.of (own := RX8) (by decide) rfl hI (by simp [Value.category]) (Nat.le_of_ble_eq_true rfl) ?_
  intro p e s m args below meth c ls H locs C hnm hl hR hS
  have hz : zI (aZ S) := hJ.1.1
  have hg : zG (aZ S) := hJ.1.2.1
  have hB : aZ S 178 ≤ 999999 := hJ.1.2.2.1
  have hM : mR (mem 0) (aZ S) := hc.1
  have h115 := hz.2.2.2.2.2.2.1
  have h116 := hz.2.2.2.2.2.2.2.1
  rw [← fU_self mem 0] at hR
  refine g_iload_n C hl dX8_address_0 rfl ?_
  refine g_bipush 64 C dX8_address_1 (by decide) ?_
  refine g_callSi C hl.1 hR hS md_X8_isBelow ml_X8_43 (c_X8_isBelow l hI (hi := 63) (by decide)) rfl rfl ⟨Nat.le_of_ble_eq_true rfl, Nat.le_of_ble_eq_true rfl⟩ ⟨Nat.le_refl _, Nat.le_refl _⟩ (Nat.le_of_ble_eq_true rfl) dX8_address_3 (fun H locs hR hS => ?_)
  refine g_ifv_ne (tgt := 11) C dX8_address_6 (by decide) (by decide) (fun ad ead had1 had2 => ?_) (fun c6 => ?_)
  · -- 6 T
    subst ead
    refine g_iload_n C hl dX8_address_11 rfl ?_
    by_cases hsw : gIw w 0 3 = true
    · -- 12 in
      obtain ⟨w9, e9, -, h9⟩ := gIw_t hsw (by decide)
      subst e9
      rcases (show w9 = 0 ∨ w9 = 1 ∨ w9 = 2 ∨ w9 = 3 by omega) with e9 | e9 | e9 | e9
      · -- 12 case 0
        subst e9
        refine lv_tableIn (tgt := 44) C.1 C.2.1 dX8_address_12 (by decide) (by decide) rfl (by decide) ?_
        refine g_aload_n C hl dX8_address_44 rfl ?_
        refine gt_X8_0 C hR fl_X8_10 dX8_address_45 ?_
        refine gn_X4_0 C (by decide) hR fn_X8_47 dX8_address_48 ?_
        refine g_iload_n C hl dX8_address_51 rfl ?_
        refine g_callVi C hl.1 hR hS (rc_X0 (by decide)) md_X0_numberAt ml_X8_164 (c_X0_numberAt l hI (by decide) hM hz (show ad < 64 by omega)) rfl rfl ⟨Nat.le_of_ble_eq_true rfl, Nat.le_of_ble_eq_true rfl⟩ ⟨Nat.le_refl _, Nat.le_refl _⟩ (Nat.le_of_ble_eq_true rfl) dX8_address_52 (fun H locs hR hS => ?_)
        refine g_iret C hR hS dX8_address_55 ?_
        unfold sAddr
        rw [if_pos (gIw_ok (by omega) had2 (by decide)), if_pos (gIw_ok (by omega) (by omega) (by decide)), nI_clamp (by omega), nI_clamp (by omega)]
        exact ⟨rfl, aCm_same hc⟩
      · -- 12 case 1
        subst e9
        refine lv_tableIn (tgt := 56) C.1 C.2.1 dX8_address_12 (by decide) (by decide) rfl (by decide) ?_
        refine g_aload_n C hl dX8_address_56 rfl ?_
        refine gt_X8_0 C hR fl_X8_10 dX8_address_57 ?_
        refine gn_X4_0 C (by decide) hR fn_X8_47 dX8_address_60 ?_
        refine g_iload_n C hl dX8_address_63 rfl ?_
        refine g_callVi C hl.1 hR hS (rc_X0 (by decide)) md_X0_bankAt ml_X8_167 (c_X0_bankAt l hI (by decide) hM (show ad < 64 by omega)) rfl rfl ⟨Nat.le_of_ble_eq_true rfl, Nat.le_of_ble_eq_true rfl⟩ ⟨Nat.le_refl _, Nat.le_refl _⟩ (Nat.le_of_ble_eq_true rfl) dX8_address_64 (fun H locs hR hS => ?_)
        refine g_iret C hR hS dX8_address_67 ?_
        unfold sAddr
        rw [if_pos (gIw_ok (by omega) had2 (by decide)), if_pos (gIw_ok (by omega) (by omega) (by decide)), nI_clamp (by omega), nI_clamp (by omega)]
        exact ⟨rfl, aCm_same hc⟩
      · -- 12 case 2
        subst e9
        refine lv_tableIn (tgt := 68) C.1 C.2.1 dX8_address_12 (by decide) (by decide) rfl (by decide) ?_
        refine g_iload_n C hl dX8_address_68 rfl ?_
        refine g_bipush 16 C dX8_address_69 (by decide) ?_
        refine g_irem C dX8_address_71 (by omega) (by decide) (by decide) ?_
        refine g_iret C hR hS dX8_address_72 ?_
        unfold sAddr
        rw [if_pos (gIw_ok (by omega) had2 (by decide)), if_pos (gIw_ok (by omega) (by omega) (by decide)), nI_clamp (by omega), nI_clamp (by omega)]
        exact ⟨rfl, aCm_same hc⟩
      · -- 12 case 3
        subst e9
        refine lv_tableIn (tgt := 73) C.1 C.2.1 dX8_address_12 (by decide) (by decide) rfl (by decide) ?_
        refine g_aload_n C hl dX8_address_73 rfl ?_
        refine gt_X8_0 C hR fl_X8_10 dX8_address_74 ?_
        refine gn_X4_0 C (by decide) hR fn_X8_47 dX8_address_77 ?_
        refine g_iload_n C hl dX8_address_80 rfl ?_
        refine g_callVi C hl.1 hR hS (rc_X0 (by decide)) md_X0_twinOf ml_X8_170 (c_X0_twinOf l hI (by decide) hM hz (show ad < 64 by omega)) rfl rfl ⟨Nat.le_of_ble_eq_true rfl, Nat.le_of_ble_eq_true rfl⟩ ⟨Nat.le_refl _, Nat.le_refl _⟩ (Nat.le_of_ble_eq_true rfl) dX8_address_81 (fun H locs hR hS => ?_)
        refine g_iret C hR hS dX8_address_84 ?_
        unfold sAddr
        rw [if_pos (gIw_ok (by omega) had2 (by decide)), if_pos (gIw_ok (by omega) (by omega) (by decide)), nI_clamp (by omega), nI_clamp (by omega)]
        exact ⟨rfl, aCm_same hc⟩
    · -- 12 out
      have hsw2 : gIw w 0 3 = false := by simpa using hsw
      refine lv_tableOut (tgt := 85) C.1 C.2.1 dX8_address_12 (gIw_out hsw2) (by decide) ?_
      refine g_bipushM (-2) C dX8_address_85 (by decide) ?_
      refine g_iret C hR hS dX8_address_87 ?_
      unfold sAddr
      rw [if_pos (gIw_ok (by omega) had2 (by decide)), if_neg (by rw [hsw2]; decide)]
      exact ⟨rfl, aCm_same hc⟩
  · -- 6 F
    refine g_iconstM (-1) C dX8_address_9 (by decide) ?_
    refine g_iret C hR hS dX8_address_10 ?_
    unfold sAddr
    rw [if_neg (by rw [c6]; decide)]
    exact ⟨rfl, aCm_same hc⟩
set_option maxRecDepth 100000 in
set_option maxHeartbeats 4000000 in
/-- X8_bank -/
theorem c_X8_bank (l : Launch) {X : gX} (hI : gInj X) {mem : gM} {S : aS} {b w : Int32} (hJ : aI S) (hc : aCl S mem) : gMt l yX8_bank cX8_bank 3 (some .int) 3 66 X [.ref (gAd X 7 0), .int b, .int w] mem (fun v9 m9 => v9 = some (.int (sBank (aZ S) b w)) ∧ aCm S mem m9) := by
  refine gMt.of (own := RX8) (by decide) rfl hI (by simp [Value.category]) (Nat.le_of_ble_eq_true rfl) ?_
  intro p e s m args below meth c ls H locs C hnm hl hR hS
  have hz : zI (aZ S) := hJ.1.1
  have hg : zG (aZ S) := hJ.1.2.1
  have hB : aZ S 178 ≤ 999999 := hJ.1.2.2.1
  have hM : mR (mem 0) (aZ S) := hc.1
  have h115 := hz.2.2.2.2.2.2.1
  have h116 := hz.2.2.2.2.2.2.2.1
  rw [← fU_self mem 0] at hR
  refine g_iload_n C hl dX8_bank_0 rfl ?_
  refine g_bipush 8 C dX8_bank_1 (by decide) ?_
  refine g_callSi C hl.1 hR hS md_X8_isBelow ml_X8_43 (c_X8_isBelow l hI (hi := 7) (by decide)) rfl rfl ⟨Nat.le_of_ble_eq_true rfl, Nat.le_of_ble_eq_true rfl⟩ ⟨Nat.le_refl _, Nat.le_refl _⟩ (Nat.le_of_ble_eq_true rfl) dX8_bank_3 (fun H locs hR hS => ?_)
  refine g_ifv_ne (tgt := 11) C dX8_bank_6 (by decide) (by decide) (fun b eb hb1 hb2 => ?_) (fun c6 => ?_)
  · -- 6 T
    subst eb
    refine g_iload_n C hl dX8_bank_11 rfl ?_
    by_cases hsw : gIw w 0 5 = true
    · -- 12 in
      obtain ⟨w9, e9, -, h9⟩ := gIw_t hsw (by decide)
      subst e9
      rcases (show w9 = 0 ∨ w9 = 1 ∨ w9 = 2 ∨ w9 = 3 ∨ w9 = 4 ∨ w9 = 5 by omega) with e9 | e9 | e9 | e9 | e9 | e9
      · -- 12 case 0
        subst e9
        refine lv_tableIn (tgt := 52) C.1 C.2.1 dX8_bank_12 (by decide) (by decide) rfl (by decide) ?_
        refine g_aload_n C hl dX8_bank_52 rfl ?_
        refine gt_X8_0 C hR fl_X8_10 dX8_bank_53 ?_
        refine gn_X4_0 C (by decide) hR fn_X8_47 dX8_bank_56 ?_
        refine gn_X0_1 C (by decide) hR fn_X8_69 dX8_bank_59 ?_
        refine g_iload_n C hl dX8_bank_62 rfl ?_
        refine g_callVi C hl.1 hR hS (rc_X5 (gRow_4 (by decide))) md_X5_read ml_X8_86 (c_zr l hI hM (gRow_4 (by decide)) mB_5 (show b < 8 by omega)) rfl rfl ⟨Nat.le_of_ble_eq_true rfl, Nat.le_of_ble_eq_true rfl⟩ ⟨Nat.le_refl _, Nat.le_refl _⟩ (Nat.le_of_ble_eq_true rfl) dX8_bank_63 (fun H locs hR hS => ?_)
        refine g_iret C hR hS dX8_bank_66 ?_
        unfold sBank
        rw [if_pos (gIw_ok (by omega) hb2 (by decide)), if_pos (gIw_ok (by omega) (by omega) (by decide)), nI_clamp (by omega), nI_clamp (by omega)]
        exact ⟨rfl, aCm_same hc⟩
      · -- 12 case 1
        subst e9
        refine lv_tableIn (tgt := 67) C.1 C.2.1 dX8_bank_12 (by decide) (by decide) rfl (by decide) ?_
        refine g_aload_n C hl dX8_bank_67 rfl ?_
        refine gt_X8_0 C hR fl_X8_10 dX8_bank_68 ?_
        refine gn_X4_0 C (by decide) hR fn_X8_47 dX8_bank_71 ?_
        refine g_iload_n C hl dX8_bank_74 rfl ?_
        refine g_callVi C hl.1 hR hS (rc_X0 (by decide)) md_X0_windowsOf ml_X8_173 (c_X0_windowsOf l hI (by decide) hM hz (show b < 8 by omega)) rfl rfl ⟨Nat.le_of_ble_eq_true rfl, Nat.le_of_ble_eq_true rfl⟩ ⟨Nat.le_refl _, Nat.le_refl _⟩ (Nat.le_of_ble_eq_true rfl) dX8_bank_75 (fun H locs hR hS => ?_)
        refine g_iret C hR hS dX8_bank_78 ?_
        unfold sBank
        rw [if_pos (gIw_ok (by omega) hb2 (by decide)), if_pos (gIw_ok (by omega) (by omega) (by decide)), nI_clamp (by omega), nI_clamp (by omega)]
        exact ⟨rfl, aCm_same hc⟩
      · -- 12 case 2
        subst e9
        refine lv_tableIn (tgt := 79) C.1 C.2.1 dX8_bank_12 (by decide) (by decide) rfl (by decide) ?_
        refine g_aload_n C hl dX8_bank_79 rfl ?_
        refine gt_X8_0 C hR fl_X8_10 dX8_bank_80 ?_
        refine gn_X4_0 C (by decide) hR fn_X8_47 dX8_bank_83 ?_
        refine g_iload_n C hl dX8_bank_86 rfl ?_
        refine g_callVi C hl.1 hR hS (rc_X0 (by decide)) md_X0_usedCellsOf ml_X8_176 (c_X0_usedCellsOf l hI (by decide) hM hz (show b < 8 by omega)) rfl rfl ⟨Nat.le_of_ble_eq_true rfl, Nat.le_of_ble_eq_true rfl⟩ ⟨Nat.le_refl _, Nat.le_refl _⟩ (Nat.le_of_ble_eq_true rfl) dX8_bank_87 (fun H locs hR hS => ?_)
        refine g_iret C hR hS dX8_bank_90 ?_
        unfold sBank
        rw [if_pos (gIw_ok (by omega) hb2 (by decide)), if_pos (gIw_ok (by omega) (by omega) (by decide)), nI_clamp (by omega), nI_clamp (by omega)]
        exact ⟨rfl, aCm_same hc⟩
      · -- 12 case 3
        subst e9
        refine lv_tableIn (tgt := 91) C.1 C.2.1 dX8_bank_12 (by decide) (by decide) rfl (by decide) ?_
        refine g_aload_n C hl dX8_bank_91 rfl ?_
        refine gt_X8_0 C hR fl_X8_10 dX8_bank_92 ?_
        refine gn_X4_1 C (by decide) hR fn_X8_179 dX8_bank_95 ?_
        refine g_iload_n C hl dX8_bank_98 rfl ?_
        refine g_callVi C hl.1 hR hS (rc_X2 (by decide)) md_X2_howManyBackTo ml_X8_183 (c_X2_howManyBackTo l hI (by decide) hM hz (show b < 8 by omega)) rfl rfl ⟨Nat.le_of_ble_eq_true rfl, Nat.le_of_ble_eq_true rfl⟩ ⟨Nat.le_refl _, Nat.le_refl _⟩ (Nat.le_of_ble_eq_true rfl) dX8_bank_99 (fun H locs hR hS => ?_)
        refine g_iret C hR hS dX8_bank_102 ?_
        unfold sBank
        rw [if_pos (gIw_ok (by omega) hb2 (by decide)), if_pos (gIw_ok (by omega) (by omega) (by decide)), nI_clamp (by omega), nI_clamp (by omega)]
        exact ⟨rfl, aCm_same hc⟩
      · -- 12 case 4
        subst e9
        refine lv_tableIn (tgt := 103) C.1 C.2.1 dX8_bank_12 (by decide) (by decide) rfl (by decide) ?_
        refine g_aload_n C hl dX8_bank_103 rfl ?_
        refine gt_X8_0 C hR fl_X8_10 dX8_bank_104 ?_
        refine gn_X4_0 C (by decide) hR fn_X8_47 dX8_bank_107 ?_
        refine gn_X0_3 C (by decide) hR fn_X8_188 dX8_bank_110 ?_
        refine g_iload_n C hl dX8_bank_113 rfl ?_
        refine g_callVi C hl.1 hR hS (rc_X5 (gRow_8 (by decide))) md_X5_read ml_X8_86 (c_zr l hI hM (gRow_8 (by decide)) mB_9 (show b < 8 by omega)) rfl rfl ⟨Nat.le_of_ble_eq_true rfl, Nat.le_of_ble_eq_true rfl⟩ ⟨Nat.le_refl _, Nat.le_refl _⟩ (Nat.le_of_ble_eq_true rfl) dX8_bank_114 (fun H locs hR hS => ?_)
        refine g_iret C hR hS dX8_bank_117 ?_
        unfold sBank
        rw [if_pos (gIw_ok (by omega) hb2 (by decide)), if_pos (gIw_ok (by omega) (by omega) (by decide)), nI_clamp (by omega), nI_clamp (by omega)]
        exact ⟨rfl, aCm_same hc⟩
      · -- 12 case 5
        subst e9
        refine lv_tableIn (tgt := 118) C.1 C.2.1 dX8_bank_12 (by decide) (by decide) rfl (by decide) ?_
        refine g_aload_n C hl dX8_bank_118 rfl ?_
        refine gt_X8_0 C hR fl_X8_10 dX8_bank_119 ?_
        refine gn_X4_0 C (by decide) hR fn_X8_47 dX8_bank_122 ?_
        refine gn_X0_4 C (by decide) hR fn_X8_191 dX8_bank_125 ?_
        refine g_iload_n C hl dX8_bank_128 rfl ?_
        refine g_callVi C hl.1 hR hS (rc_X5 (gRow_10 (by decide))) md_X5_read ml_X8_86 (c_zr l hI hM (gRow_10 (by decide)) mB_11 (show b < 8 by omega)) rfl rfl ⟨Nat.le_of_ble_eq_true rfl, Nat.le_of_ble_eq_true rfl⟩ ⟨Nat.le_refl _, Nat.le_refl _⟩ (Nat.le_of_ble_eq_true rfl) dX8_bank_129 (fun H locs hR hS => ?_)
        refine g_iret C hR hS dX8_bank_132 ?_
        unfold sBank
        rw [if_pos (gIw_ok (by omega) hb2 (by decide)), if_pos (gIw_ok (by omega) (by omega) (by decide)), nI_clamp (by omega), nI_clamp (by omega)]
        exact ⟨rfl, aCm_same hc⟩
    · -- 12 out
      have hsw2 : gIw w 0 5 = false := by simpa using hsw
      refine lv_tableOut (tgt := 133) C.1 C.2.1 dX8_bank_12 (gIw_out hsw2) (by decide) ?_
      refine g_bipushM (-2) C dX8_bank_133 (by decide) ?_
      refine g_iret C hR hS dX8_bank_135 ?_
      unfold sBank
      rw [if_pos (gIw_ok (by omega) hb2 (by decide)), if_neg (by rw [hsw2]; decide)]
      exact ⟨rfl, aCm_same hc⟩
  · -- 6 F
    refine g_iconstM (-1) C dX8_bank_9 (by decide) ?_
    refine g_iret C hR hS dX8_bank_10 ?_
    unfold sBank
    rw [if_neg (by rw [c6]; decide)]
    exact ⟨rfl, aCm_same hc⟩
set_option maxRecDepth 100000 in
set_option maxHeartbeats 4000000 in
/-- X8_count -/
theorem c_X8_count (l : Launch) {X : gX} (hI : gInj X) {mem : gM} {S : aS} {w : Int32} (hJ : aI S) (hc : aCl S mem) : gMt l yX8_count cX8_count 2 (some .int) 1 25 X [.ref (gAd X 7 0), .int w] mem (fun v9 m9 => v9 = some (.int (sCount S w)) ∧ aCm S mem m9) := by
  refine gMt.of (own := RX8) (by decide) rfl hI (by simp [Value.category]) (Nat.le_of_ble_eq_true rfl) ?_
  intro p e s m args below meth c ls H locs C hnm hl hR hS
  have hz : zI (aZ S) := hJ.1.1
  have hg : zG (aZ S) := hJ.1.2.1
  have hB : aZ S 178 ≤ 999999 := hJ.1.2.2.1
  have hM : mR (mem 0) (aZ S) := hc.1
  have h115 := hz.2.2.2.2.2.2.1
  have h116 := hz.2.2.2.2.2.2.2.1
  rw [← fU_self mem 0] at hR
  refine g_iload_n C hl dX8_count_0 rfl ?_
  by_cases hsw : gIw w 0 11 = true
  · -- 1 in
    obtain ⟨w9, e9, -, h9⟩ := gIw_t hsw (by decide)
    subst e9
    rcases (show w9 = 0 ∨ w9 = 1 ∨ w9 = 2 ∨ w9 = 3 ∨ w9 = 4 ∨ w9 = 5 ∨ w9 = 6 ∨ w9 = 7 ∨ w9 = 8 ∨ w9 = 9 ∨ w9 = 10 ∨ w9 = 11 by omega) with e9 | e9 | e9 | e9 | e9 | e9 | e9 | e9 | e9 | e9 | e9 | e9
    · -- 1 case 0
      subst e9
      refine lv_tableIn (tgt := 64) C.1 C.2.1 dX8_count_1 (by decide) (by decide) rfl (by decide) ?_
      refine g_aload_n C hl dX8_count_64 rfl ?_
      refine gt_X8_0 C hR fl_X8_10 dX8_count_65 ?_
      refine zgn_X4_3 C (by decide) hM hR fn_X8_207 dX8_count_68 ?_
      refine g_iret C hR hS dX8_count_71 ?_
      unfold sCount
      rw [if_pos (gIw_ok (by omega) (by omega) (by decide)), nI_clamp (by omega)]
      exact ⟨rfl, aCm_same hc⟩
    · -- 1 case 1
      subst e9
      refine lv_tableIn (tgt := 72) C.1 C.2.1 dX8_count_1 (by decide) (by decide) rfl (by decide) ?_
      refine g_aload_n C hl dX8_count_72 rfl ?_
      refine gt_X8_0 C hR fl_X8_10 dX8_count_73 ?_
      refine zgn_X4_4 C (by decide) hM hR fn_X8_100 dX8_count_76 ?_
      refine g_iret C hR hS dX8_count_79 ?_
      unfold sCount
      rw [if_pos (gIw_ok (by omega) (by omega) (by decide)), nI_clamp (by omega)]
      exact ⟨rfl, aCm_same hc⟩
    · -- 1 case 2
      subst e9
      refine lv_tableIn (tgt := 80) C.1 C.2.1 dX8_count_1 (by decide) (by decide) rfl (by decide) ?_
      refine g_aload_n C hl dX8_count_80 rfl ?_
      refine gt_X8_0 C hR fl_X8_10 dX8_count_81 ?_
      refine gn_X4_1 C (by decide) hR fn_X8_179 dX8_count_84 ?_
      refine zgn_X2_1 C (by decide) hM hR fn_X8_194 dX8_count_87 ?_
      refine g_iret C hR hS dX8_count_90 ?_
      unfold sCount
      rw [if_pos (gIw_ok (by omega) (by omega) (by decide)), nI_clamp (by omega)]
      exact ⟨rfl, aCm_same hc⟩
    · -- 1 case 3
      subst e9
      refine lv_tableIn (tgt := 91) C.1 C.2.1 dX8_count_1 (by decide) (by decide) rfl (by decide) ?_
      refine g_aload_n C hl dX8_count_91 rfl ?_
      refine gt_X8_0 C hR fl_X8_10 dX8_count_92 ?_
      refine zgn_X4_5 C (by decide) hM hR fn_X8_110 dX8_count_95 ?_
      refine g_iret C hR hS dX8_count_98 ?_
      unfold sCount
      rw [if_pos (gIw_ok (by omega) (by omega) (by decide)), nI_clamp (by omega)]
      exact ⟨rfl, aCm_same hc⟩
    · -- 1 case 4
      subst e9
      refine lv_tableIn (tgt := 99) C.1 C.2.1 dX8_count_1 (by decide) (by decide) rfl (by decide) ?_
      refine g_aload_n C hl dX8_count_99 rfl ?_
      refine gt_X8_0 C hR fl_X8_10 dX8_count_100 ?_
      refine gn_X4_2 C (by decide) hR fn_X8_113 dX8_count_103 ?_
      refine zgn_X7_1 C (by decide) hM hR fn_X8_117 dX8_count_106 ?_
      refine g_iret C hR hS dX8_count_109 ?_
      unfold sCount
      rw [if_pos (gIw_ok (by omega) (by omega) (by decide)), nI_clamp (by omega)]
      exact ⟨rfl, aCm_same hc⟩
    · -- 1 case 5
      subst e9
      refine lv_tableIn (tgt := 110) C.1 C.2.1 dX8_count_1 (by decide) (by decide) rfl (by decide) ?_
      refine g_aload_n C hl dX8_count_110 rfl ?_
      refine gt_X8_0 C hR fl_X8_10 dX8_count_111 ?_
      refine zgn_X4_7 C (by decide) hM hR fn_X8_217 dX8_count_114 ?_
      refine g_iret C hR hS dX8_count_117 ?_
      unfold sCount
      rw [if_pos (gIw_ok (by omega) (by omega) (by decide)), nI_clamp (by omega)]
      exact ⟨rfl, aCm_same hc⟩
    · -- 1 case 6
      subst e9
      refine lv_tableIn (tgt := 118) C.1 C.2.1 dX8_count_1 (by decide) (by decide) rfl (by decide) ?_
      refine g_aload_n C hl dX8_count_118 rfl ?_
      refine gt_X8_0 C hR fl_X8_10 dX8_count_119 ?_
      refine gn_X4_0 C (by decide) hR fn_X8_47 dX8_count_122 ?_
      refine gn_X0_3 C (by decide) hR fn_X8_188 dX8_count_125 ?_
      refine g_callVi C hl.1 hR hS (rc_X5 (gRow_8 (by decide))) md_X5_sum ml_X8_79 (c_X5_sum l hI (gRow_8 (by decide))) rfl rfl ⟨Nat.le_of_ble_eq_true rfl, Nat.le_of_ble_eq_true rfl⟩ ⟨Nat.le_refl _, Nat.le_refl _⟩ (Nat.le_of_ble_eq_true rfl) dX8_count_128 (fun H locs hR hS => ?_)
      refine g_iret C hR hS dX8_count_131 ?_
      unfold sCount
      rw [if_pos (gIw_ok (by omega) (by omega) (by decide)), nI_clamp (by omega)]
      rw [fU_s, gSum_cg (g := fun b => aZ S (182 + b)) 8 (fun i hi => mR_arr hM mB_9 hi), ← hJ.1.2.2.2.2.1]
      exact ⟨rfl, aCm_same hc⟩
    · -- 1 case 7
      subst e9
      refine lv_tableIn (tgt := 132) C.1 C.2.1 dX8_count_1 (by decide) (by decide) rfl (by decide) ?_
      refine g_aload_n C hl dX8_count_132 rfl ?_
      refine gt_X8_0 C hR fl_X8_10 dX8_count_133 ?_
      refine gn_X4_0 C (by decide) hR fn_X8_47 dX8_count_136 ?_
      refine gn_X0_4 C (by decide) hR fn_X8_191 dX8_count_139 ?_
      refine g_callVi C hl.1 hR hS (rc_X5 (gRow_10 (by decide))) md_X5_sum ml_X8_79 (c_X5_sum l hI (gRow_10 (by decide))) rfl rfl ⟨Nat.le_of_ble_eq_true rfl, Nat.le_of_ble_eq_true rfl⟩ ⟨Nat.le_refl _, Nat.le_refl _⟩ (Nat.le_of_ble_eq_true rfl) dX8_count_142 (fun H locs hR hS => ?_)
      refine g_iret C hR hS dX8_count_145 ?_
      unfold sCount
      rw [if_pos (gIw_ok (by omega) (by omega) (by decide)), nI_clamp (by omega)]
      rw [fU_s, gSum_cg (g := fun b => aZ S (190 + b)) 8 (fun i hi => mR_arr hM mB_11 hi), ← hJ.1.2.2.2.2.2]
      exact ⟨rfl, aCm_same hc⟩
    · -- 1 case 8
      subst e9
      refine lv_tableIn (tgt := 146) C.1 C.2.1 dX8_count_1 (by decide) (by decide) rfl (by decide) ?_
      refine g_aload_n C hl dX8_count_146 rfl ?_
      refine gt_X8_0 C hR fl_X8_10 dX8_count_147 ?_
      refine gn_X4_0 C (by decide) hR fn_X8_47 dX8_count_150 ?_
      refine gn_X0_1 C (by decide) hR fn_X8_69 dX8_count_153 ?_
      refine g_callVi C hl.1 hR hS (rc_X5 (gRow_4 (by decide))) md_X5_sum ml_X8_79 (c_X5_sum l hI (gRow_4 (by decide))) rfl rfl ⟨Nat.le_of_ble_eq_true rfl, Nat.le_of_ble_eq_true rfl⟩ ⟨Nat.le_refl _, Nat.le_refl _⟩ (Nat.le_of_ble_eq_true rfl) dX8_count_156 (fun H locs hR hS => ?_)
      refine g_iret C hR hS dX8_count_159 ?_
      unfold sCount
      rw [if_pos (gIw_ok (by omega) (by omega) (by decide)), nI_clamp (by omega)]
      rw [fU_s, gSum_cg (g := fun b => aZ S (104 + b)) 8 (fun i hi => mR_arr hM mB_5 hi)]
      exact ⟨rfl, aCm_same hc⟩
    · -- 1 case 9
      subst e9
      refine lv_tableIn (tgt := 160) C.1 C.2.1 dX8_count_1 (by decide) (by decide) rfl (by decide) ?_
      refine g_aload_n C hl dX8_count_160 rfl ?_
      refine gt_X8_0 C hR fl_X8_10 dX8_count_161 ?_
      refine zgn_X4_6 C (by decide) hM hR fn_X8_96 dX8_count_164 ?_
      refine g_iret C hR hS dX8_count_167 ?_
      unfold sCount
      rw [if_pos (gIw_ok (by omega) (by omega) (by decide)), nI_clamp (by omega)]
      exact ⟨rfl, aCm_same hc⟩
    · -- 1 case 10
      subst e9
      refine lv_tableIn (tgt := 168) C.1 C.2.1 dX8_count_1 (by decide) (by decide) rfl (by decide) ?_
      refine g_aload_n C hl dX8_count_168 rfl ?_
      refine gt_X8_3 C hR fl_X8_25 dX8_count_169 ?_
      refine gn_X3_1 C hR fn_X8_154 dX8_count_172 ?_
      rw [fU_n _ _ (show ¬ 7 = 0 by decide), hc.2.1.1]
      refine g_iret C hR hS dX8_count_175 ?_
      unfold sCount
      rw [if_pos (gIw_ok (by omega) (by omega) (by decide)), nI_clamp (by omega)]
      exact ⟨rfl, aCm_same hc⟩
    · -- 1 case 11
      subst e9
      refine lv_tableIn (tgt := 176) C.1 C.2.1 dX8_count_1 (by decide) (by decide) rfl (by decide) ?_
      refine g_aload_n C hl dX8_count_176 rfl ?_
      refine gt_X8_4 C hR fl_X8_32 dX8_count_177 ?_
      refine gn_X6_1 C hR fn_X8_134 dX8_count_180 ?_
      rw [fU_n _ _ (show ¬ 7 = 0 by decide), hc.2.2.2.2.2.1]
      refine g_iret C hR hS dX8_count_183 ?_
      unfold sCount
      rw [if_pos (gIw_ok (by omega) (by omega) (by decide)), nI_clamp (by omega)]
      exact ⟨rfl, aCm_same hc⟩
  · -- 1 out
    have hsw2 : gIw w 0 11 = false := by simpa using hsw
    refine lv_tableOut (tgt := 184) C.1 C.2.1 dX8_count_1 (gIw_out hsw2) (by decide) ?_
    refine g_bipushM (-2) C dX8_count_184 (by decide) ?_
    refine g_iret C hR hS dX8_count_186 ?_
    unfold sCount
    rw [if_neg (by rw [hsw2]; decide)]
    exact ⟨rfl, aCm_same hc⟩
set_option maxRecDepth 100000 in
set_option maxHeartbeats 4000000 in
/-- X8_frame -/
theorem c_X8_frame (l : Launch) {X : gX} (hI : gInj X) {mem : gM} {S : aS} {rk w : Int32} (hJ : aI S) (hc : aCl S mem) : gMt l yX8_frame cX8_frame 3 (some .int) 2 43 X [.ref (gAd X 7 0), .int rk, .int w] mem (fun v9 m9 => v9 = some (.int (sFrame (aZ S) rk w)) ∧ aCm S mem m9) := by
  refine gMt.of (own := RX8) (by decide) rfl hI (by simp [Value.category]) (Nat.le_of_ble_eq_true rfl) ?_
  intro p e s m args below meth c ls H locs C hnm hl hR hS
  have hz : zI (aZ S) := hJ.1.1
  have hg : zG (aZ S) := hJ.1.2.1
  have hB : aZ S 178 ≤ 999999 := hJ.1.2.2.1
  have hM : mR (mem 0) (aZ S) := hc.1
  have h115 := hz.2.2.2.2.2.2.1
  have h116 := hz.2.2.2.2.2.2.2.1
  rw [← fU_self mem 0] at hR
  have h141 := hz.2.2.2.2.2.2.2.2.2
  by_cases hneg : rk < 0
  · refine g_iload_n C hl dX8_frame_0 rfl ?_
    refine lv_if_lt (tgt := 12) C.1 C.2.1 dX8_frame_1 (by decide) (fun _ => ?_) (fun z9 => absurd hneg z9)
    refine g_bipushM (-2) C dX8_frame_12 (by decide) ?_
    refine g_iret C hR hS dX8_frame_14 ?_
    unfold sFrame
    rw [if_pos hneg]
    exact ⟨rfl, aCm_same hc⟩
  obtain ⟨j, hj, ej⟩ := nI_of hneg
  subst ej
  refine g_iload_n C hl dX8_frame_0 rfl ?_
  refine g_if_lt (tgt := 12) C dX8_frame_1 (by decide) (by omega) ?_
  refine g_iload_n C hl dX8_frame_4 rfl ?_
  refine g_iconst 3 C dX8_frame_5 (by decide) ?_
  refine g_callSi C hl.1 hR hS md_X8_isBelow ml_X8_43 (c_X8_isBelow l hI (hi := 2) (by decide)) rfl rfl ⟨Nat.le_of_ble_eq_true rfl, Nat.le_of_ble_eq_true rfl⟩ ⟨Nat.le_refl _, Nat.le_refl _⟩ (Nat.le_of_ble_eq_true rfl) dX8_frame_6 (fun H locs hR hS => ?_)
  refine g_ifv_ne (tgt := 15) C dX8_frame_9 (by decide) (by decide) (fun w ew hw1 hw2 => ?_) (fun c9 => ?_)
  · -- 9 T
    subst ew
    refine g_iload_n C hl dX8_frame_15 rfl ?_
    refine g_aload_n C hl dX8_frame_16 rfl ?_
    refine gt_X8_0 C hR fl_X8_10 dX8_frame_17 ?_
    refine gn_X4_1 C (by decide) hR fn_X8_179 dX8_frame_20 ?_
    refine zgn_X2_1 C (by decide) hM hR fn_X8_194 dX8_frame_23 ?_
    refine g_icmp_lt (tgt := 32) C dX8_frame_26 (by decide) (by omega) (by omega) (fun c26 => ?_) (fun c26 => ?_)
    · -- 26 T
      refine g_aload_n C hl dX8_frame_32 rfl ?_
      refine gt_X8_0 C hR fl_X8_10 dX8_frame_33 ?_
      refine gn_X4_1 C (by decide) hR fn_X8_179 dX8_frame_36 ?_
      refine g_iload_n C hl dX8_frame_39 rfl ?_
      refine g_iload_n C hl dX8_frame_40 rfl ?_
      refine g_callVi C hl.1 hR hS (rc_X2 (by decide)) md_X2_tell ml_X8_195 (c_X2_tell l hI (by decide) hM (show aZ S 116 ≤ 8 by omega) (show j < aZ S 116 by omega) (show w < 3 by omega)) rfl rfl ⟨Nat.le_of_ble_eq_true rfl, Nat.le_of_ble_eq_true rfl⟩ ⟨Nat.le_refl _, Nat.le_refl _⟩ (Nat.le_of_ble_eq_true rfl) dX8_frame_41 (fun H locs hR hS => ?_)
      refine g_iret C hR hS dX8_frame_44 ?_
      unfold sFrame
      rw [if_neg hneg, if_pos (gIw_ok (by omega) hw2 (by decide)), nI_clamp (by omega), nI_clamp (by omega)]
      first | rw [if_pos (by omega)] | rw [if_neg (by omega)]
      exact ⟨rfl, aCm_same hc⟩
    · -- 26 F
      refine g_bipushM (-5) C dX8_frame_29 (by decide) ?_
      refine g_iret C hR hS dX8_frame_31 ?_
      unfold sFrame
      rw [if_neg hneg, if_pos (gIw_ok (by omega) hw2 (by decide)), nI_clamp (by omega), nI_clamp (by omega)]
      first | rw [if_pos (by omega)] | rw [if_neg (by omega)]
      exact ⟨rfl, aCm_same hc⟩
  · -- 9 F
    refine g_bipushM (-2) C dX8_frame_12 (by decide) ?_
    refine g_iret C hR hS dX8_frame_14 ?_
    unfold sFrame
    rw [if_neg hneg, if_neg (by rw [c9]; decide)]
    exact ⟨rfl, aCm_same hc⟩
set_option maxRecDepth 100000 in
set_option maxHeartbeats 4000000 in
/-- X8_latest -/
theorem c_X8_latest (l : Launch) {X : gX} (hI : gInj X) {mem : gM} {S : aS} {rk w : Int32} (hJ : aI S) (hc : aCl S mem) : gMt l yX8_latest cX8_latest 3 (some .int) 2 43 X [.ref (gAd X 7 0), .int rk, .int w] mem (fun v9 m9 => v9 = some (.int (sLate (aZ S) rk w)) ∧ aCm S mem m9) := by
  refine gMt.of (own := RX8) (by decide) rfl hI (by simp [Value.category]) (Nat.le_of_ble_eq_true rfl) ?_
  intro p e s m args below meth c ls H locs C hnm hl hR hS
  have hz : zI (aZ S) := hJ.1.1
  have hg : zG (aZ S) := hJ.1.2.1
  have hB : aZ S 178 ≤ 999999 := hJ.1.2.2.1
  have hM : mR (mem 0) (aZ S) := hc.1
  have h115 := hz.2.2.2.2.2.2.1
  have h116 := hz.2.2.2.2.2.2.2.1
  rw [← fU_self mem 0] at hR
  have h141 := hz.2.2.2.2.2.2.2.2.2
  have hmin : aZ S 141 = min (aZ S 178) 12 := hM.2.1
  have e12 : (if nI 12 < nI (aZ S 178) then nI 12 else nI (aZ S 178)) = nI (aZ S 141) := by
    by_cases h9 : 12 < aZ S 178
    · rw [if_pos ((nI_ltI (by decide) (by omega)).mpr h9), hmin, Nat.min_eq_right (by omega)]
    · rw [if_neg (fun z9 => h9 ((nI_ltI (by decide) (by omega)).mp z9)), hmin, Nat.min_eq_left (by omega)]
  by_cases hneg : rk < 0
  · refine g_iload_n C hl dX8_latest_0 rfl ?_
    refine lv_if_lt (tgt := 12) C.1 C.2.1 dX8_latest_1 (by decide) (fun _ => ?_) (fun z9 => absurd hneg z9)
    refine g_bipushM (-2) C dX8_latest_12 (by decide) ?_
    refine g_iret C hR hS dX8_latest_14 ?_
    unfold sLate
    rw [if_pos hneg]
    exact ⟨rfl, aCm_same hc⟩
  obtain ⟨j, hj, ej⟩ := nI_of hneg
  subst ej
  refine g_iload_n C hl dX8_latest_0 rfl ?_
  refine g_if_lt (tgt := 12) C dX8_latest_1 (by decide) (by omega) ?_
  refine g_iload_n C hl dX8_latest_4 rfl ?_
  refine g_iconst 3 C dX8_latest_5 (by decide) ?_
  refine g_callSi C hl.1 hR hS md_X8_isBelow ml_X8_43 (c_X8_isBelow l hI (hi := 2) (by decide)) rfl rfl ⟨Nat.le_of_ble_eq_true rfl, Nat.le_of_ble_eq_true rfl⟩ ⟨Nat.le_refl _, Nat.le_refl _⟩ (Nat.le_of_ble_eq_true rfl) dX8_latest_6 (fun H locs hR hS => ?_)
  refine g_ifv_ne (tgt := 15) C dX8_latest_9 (by decide) (by decide) (fun w ew hw1 hw2 => ?_) (fun c9 => ?_)
  · -- 9 T
    subst ew
    refine g_iload_n C hl dX8_latest_15 rfl ?_
    refine g_aload_n C hl dX8_latest_16 rfl ?_
    refine gt_X8_0 C hR fl_X8_10 dX8_latest_17 ?_
    refine gn_X4_2 C (by decide) hR fn_X8_113 dX8_latest_20 ?_
    refine zgn_X7_1 C (by decide) hM hR fn_X8_117 dX8_latest_23 ?_
    refine g_bipush 12 C dX8_latest_26 (by decide) ?_
    refine va_mmin C.1 C.2.1 (C.2.2.2.1.trans hl.1.symm) C.2.2.2.2.1 (C.2.2.2.2.2.1 _ ml_X8_198) (C.2.2.2.2.2.1 _ st_min) (C.2.2.2.2.2.1 _ in_J9) (C.2.2.2.2.2.1 _ co_min) (Nat.le_of_ble_eq_true rfl) (Nat.le_of_ble_eq_true rfl) (cells := 0) (slots := 0) (Nat.le_refl 0) (Nat.le_refl 0) dX8_latest_28 ?_
    rw [e12]
    refine g_icmp_lt (tgt := 37) C dX8_latest_31 (by decide) (by omega) (by omega) (fun c31 => ?_) (fun c31 => ?_)
    · -- 31 T
      refine g_aload_n C hl dX8_latest_37 rfl ?_
      refine gt_X8_0 C hR fl_X8_10 dX8_latest_38 ?_
      refine gn_X4_2 C (by decide) hR fn_X8_113 dX8_latest_41 ?_
      refine g_iload_n C hl dX8_latest_44 rfl ?_
      refine g_iload_n C hl dX8_latest_45 rfl ?_
      refine g_callVi C hl.1 hR hS (rc_X7 (by decide)) md_X7_tell ml_X8_203 (c_X7_tell l hI (by decide) hM (show aZ S 178 < 2 ^ 31 by omega) (show j < aZ S 141 by omega) (show w < 3 by omega)) rfl rfl ⟨Nat.le_of_ble_eq_true rfl, Nat.le_of_ble_eq_true rfl⟩ ⟨Nat.le_refl _, Nat.le_refl _⟩ (Nat.le_of_ble_eq_true rfl) dX8_latest_46 (fun H locs hR hS => ?_)
      refine g_iret C hR hS dX8_latest_49 ?_
      unfold sLate
      rw [if_neg hneg, if_pos (gIw_ok (by omega) hw2 (by decide)), nI_clamp (by omega), nI_clamp (by omega)]
      first | rw [if_pos (by omega)] | rw [if_neg (by omega)]
      exact ⟨rfl, aCm_same hc⟩
    · -- 31 F
      refine g_bipushM (-5) C dX8_latest_34 (by decide) ?_
      refine g_iret C hR hS dX8_latest_36 ?_
      unfold sLate
      rw [if_neg hneg, if_pos (gIw_ok (by omega) hw2 (by decide)), nI_clamp (by omega), nI_clamp (by omega)]
      first | rw [if_pos (by omega)] | rw [if_neg (by omega)]
      exact ⟨rfl, aCm_same hc⟩
  · -- 9 F
    refine g_bipushM (-2) C dX8_latest_12 (by decide) ?_
    refine g_iret C hR hS dX8_latest_14 ?_
    unfold sLate
    rw [if_neg hneg, if_neg (by rw [c9]; decide)]
    exact ⟨rfl, aCm_same hc⟩
end
section
/-! ===== FarBanks: trial runs ===== -/
set_option maxRecDepth 100000 in
set_option maxHeartbeats 4000000 in
/-- X5_differencesTo -/
theorem c_X5_differencesTo (l : Launch) {X : gX} (hI : gInj X) {mem : gM} {k o a n k2 o2 a2 : Nat} (hw : gRow k o a n) (hw2 : gRow k2 o2 a2 n) (hb1 : ∀ i, i < n → mem k a i < 2 ^ 31) (hb2 : ∀ i, i < n → mem k2 a2 i < 2 ^ 31) : gF l yX5_differencesTo cX5_differencesTo 4 (some .int) 1 21 X [.ref (gAd X k o), .ref (gAd X k2 o2)] mem (some (.int (nI (gSum (fun j => if mem k a j = mem k2 a2 j then 0 else 1) n)))) mem := by
  refine gMt.of (own := RX5) (by decide) rfl hI (by simp [Value.category]) (Nat.le_of_ble_eq_true rfl) ?_
  intro p e s m args below meth c ls H locs C hnm hl hR hS
  have hn := hw.2.2.1
  have loop : ∀ (d i : Nat), i + d = n → ∀ (ls : Array Slot) (H : Heap) (locs : List Loc), gL ls [some (.ref (gAd X k o)), some (.ref (gAd X k2 o2)), some (.int (nI (gSum (fun j => if mem k a j = mem k2 a2 j then 0 else 1) i))), some (.int (nI i))] → gRep X (mem) H → va_S (gA X) s.heap H locs → W p l e { frames := 1, cells := 0, slots := 0, locals := 21 } s m args below meth c H locs 0 0 (MQ below (gQ X (fun v m => v = some (.int (nI (gSum (fun j => if mem k a j = mem k2 a2 j then 0 else 1) n))) ∧ m = mem)) args s 0 0 (gA X)) (F0 m 4 ls []) := by
    intro d
    induction d with
    | zero =>
      intro i hi  ls H locs  hl hR hS
      have hi2 : i = n := by omega
      subst hi2
      refine g_iload_n C hl dX5_differencesTo_4 rfl ?_
      refine g_aload_n C hl dX5_differencesTo_5 rfl ?_
      refine gt_X5 C hw hR fl_X5_13 dX5_differencesTo_6 ?_
      refine g_alen_w C hw hR dX5_differencesTo_9 ?_
      refine g_icmp_ge (tgt := 36) C dX5_differencesTo_10 (by decide) (by omega) (by omega) (fun c10 => ?_) (fun z9 => absurd z9 (by omega))
      refine g_iload_n C hl dX5_differencesTo_36 rfl ?_
      refine g_iret C hR hS dX5_differencesTo_37 ?_
      exact ⟨rfl, rfl⟩
    | succ d ih =>
      intro i hi  ls H locs  hl hR hS
      refine g_iload_n C hl dX5_differencesTo_4 rfl ?_
      refine g_aload_n C hl dX5_differencesTo_5 rfl ?_
      refine gt_X5 C hw hR fl_X5_13 dX5_differencesTo_6 ?_
      refine g_alen_w C hw hR dX5_differencesTo_9 ?_
      refine g_icmp_ge (tgt := 36) C dX5_differencesTo_10 (by decide) (by omega) (by omega) (fun z9 => absurd z9 (by omega)) (fun c10 => ?_)
      refine g_aload_n C hl dX5_differencesTo_13 rfl ?_
      refine gt_X5 C hw hR fl_X5_13 dX5_differencesTo_14 ?_
      refine g_iload_n C hl dX5_differencesTo_17 rfl ?_
      refine g_iald_w C hw hR (by omega) dX5_differencesTo_18 ?_
      refine g_aload_n C hl dX5_differencesTo_19 rfl ?_
      refine g_iload_n C hl dX5_differencesTo_20 rfl ?_
      refine g_callVi C hl.1 hR hS (rc_X5 hw2) md_X5_read ml_X5_19 (c_X5_read l hI hw2 (show i < n by omega)) rfl rfl ⟨Nat.le_of_ble_eq_true rfl, Nat.le_of_ble_eq_true rfl⟩ ⟨Nat.le_refl _, Nat.le_refl _⟩ (Nat.le_of_ble_eq_true rfl) dX5_differencesTo_21 (fun H locs hR hS => ?_)
      refine g_icmp_eq (tgt := 30) C dX5_differencesTo_24 (by decide) (hb1 i (by omega)) (hb2 i (by omega)) (fun c24 => ?_) (fun c24 => ?_)
      · -- 24 T
        refine g_iinc (k := 1) C hl dX5_differencesTo_30 rfl (by decide) (fun ls hl => ?_)
        refine g_goto (tgt := 4) C dX5_differencesTo_33 (by decide) ?_
        have e9 : gSum (fun j => if mem k a j = mem k2 a2 j then 0 else 1) (i + 1) = gSum (fun j => if mem k a j = mem k2 a2 j then 0 else 1) i + (if mem k a i = mem k2 a2 i then 0 else 1) := rfl
        first | rw [if_pos c24, Nat.add_zero (gSum (fun j => if mem k a j = mem k2 a2 j then 0 else 1) i)] at e9 | rw [if_neg c24] at e9
        rw [← e9] at hl
        refine ih (i + 1) (by omega)  ls H locs hl ?_ hS
        exact hR
      · -- 24 F
        refine g_iinc (k := 1) C hl dX5_differencesTo_27 rfl (by decide) (fun ls hl => ?_)
        refine g_iinc (k := 1) C hl dX5_differencesTo_30 rfl (by decide) (fun ls hl => ?_)
        refine g_goto (tgt := 4) C dX5_differencesTo_33 (by decide) ?_
        have e9 : gSum (fun j => if mem k a j = mem k2 a2 j then 0 else 1) (i + 1) = gSum (fun j => if mem k a j = mem k2 a2 j then 0 else 1) i + (if mem k a i = mem k2 a2 i then 0 else 1) := rfl
        first | rw [if_pos c24, Nat.add_zero (gSum (fun j => if mem k a j = mem k2 a2 j then 0 else 1) i)] at e9 | rw [if_neg c24] at e9
        rw [← e9] at hl
        refine ih (i + 1) (by omega)  ls H locs hl ?_ hS
        exact hR
  refine g_iconst 0 C dX5_differencesTo_0 (by decide) ?_
  refine g_istore_n C hl dX5_differencesTo_1 (Nat.le_of_ble_eq_true rfl) (fun ls hl => ?_)
  refine g_iconst 0 C dX5_differencesTo_2 (by decide) ?_
  refine g_istore_n C hl dX5_differencesTo_3 (Nat.le_of_ble_eq_true rfl) (fun ls hl => ?_)
  exact loop n 0 (by omega) _ _ _ hl hR hS
set_option maxRecDepth 100000 in
set_option maxHeartbeats 4000000 in
/-- X8_next -/
theorem c_X8_next (l : Launch) {X : gX} (hI : gInj X) {mem : gM} {S : aS} {w : Int32} (hJ : aI S) (hc : aCl S mem) : gMt l yX8_next cX8_next 2 (some .int) 5 115 X [.ref (gAd X 7 0), .int w] mem (fun v9 m9 => v9 = some (.int (sNext (aZ S) w)) ∧ aCm S mem m9) := by
  refine gMt.of (own := RX8) (by decide) rfl hI (by simp [Value.category]) (Nat.le_of_ble_eq_true rfl) ?_
  intro p e s m args below meth c ls H locs C hnm hl hR hS
  have hz : zI (aZ S) := hJ.1.1
  have hg : zG (aZ S) := hJ.1.2.1
  have hB : aZ S 178 ≤ 999999 := hJ.1.2.2.1
  have hM : mR (mem 0) (aZ S) := hc.1
  have h115 := hz.2.2.2.2.2.2.1
  have h116 := hz.2.2.2.2.2.2.2.1
  rw [← fU_self mem 0] at hR
  refine g_iload_n C hl dX8_next_0 rfl ?_
  refine g_iconst 3 C dX8_next_1 (by decide) ?_
  refine g_callSi C hl.1 hR hS md_X8_isBelow ml_X8_43 (c_X8_isBelow l hI (hi := 2) (by decide)) rfl rfl ⟨Nat.le_of_ble_eq_true rfl, Nat.le_of_ble_eq_true rfl⟩ ⟨Nat.le_refl _, Nat.le_refl _⟩ (Nat.le_of_ble_eq_true rfl) dX8_next_2 (fun H locs hR hS => ?_)
  refine g_ifv_ne (tgt := 11) C dX8_next_5 (by decide) (by decide) (fun w ew hw1 hw2 => ?_) (fun c5 => ?_)
  · -- 5 T
    subst ew
    refine g_aload_n C hl dX8_next_11 rfl ?_
    refine gt_X8_0 C hR fl_X8_10 dX8_next_12 ?_
    refine zgn_X4_5 C (by decide) hM hR fn_X8_110 dX8_next_15 ?_
    refine g_if_eq (tgt := 24) C dX8_next_18 (by decide) (by omega) (fun c18 => ?_) (fun c18 => ?_)
    · -- 18 T
      refine g_iload_n C hl dX8_next_24 rfl ?_
      refine g_if_ne (tgt := 46) C dX8_next_25 (by decide) (by omega) (fun c25 => ?_) (fun c25 => ?_)
      · -- 25 T
        refine g_aload_n C hl dX8_next_46 rfl ?_
        refine gt_X8_1 C hR fl_X8_16 dX8_next_47 ?_
        refine g_aload_n C hl dX8_next_50 rfl ?_
        refine gt_X8_0 C hR fl_X8_10 dX8_next_51 ?_
        rw [fU_self] at hR
        refine g_callKv C hl.1 hR hS (rc_X4 (by decide)) md_X4_copyFrom ml_X8_158 (c_X4_copyFrom l hI (k := 1) (k2 := 0) (by decide) (by decide) (by decide) hM) rfl rfl ⟨Nat.le_of_ble_eq_true rfl, Nat.le_of_ble_eq_true rfl⟩ ⟨Nat.le_refl _, Nat.le_refl _⟩ (Nat.le_of_ble_eq_true rfl) dX8_next_54 (fun g hM H locs hR hS => ?_)
        refine g_aload_n C hl dX8_next_57 rfl ?_
        refine gt_X8_1 C hR fl_X8_16 dX8_next_58 ?_
        refine g_callKv C hl.1 hR hS (rc_X4 (by decide)) md_X4_step ml_X8_204 (c_X4_step l hI (k := 1) (by decide) hM hz (hg c18) (by omega)) rfl rfl ⟨Nat.le_of_ble_eq_true rfl, Nat.le_of_ble_eq_true rfl⟩ ⟨Nat.le_refl _, Nat.le_refl _⟩ (Nat.le_of_ble_eq_true rfl) dX8_next_61 (fun g hM H locs hR hS => ?_)
        refine g_iload_n C hl dX8_next_64 rfl ?_
        refine g_iconst 1 C dX8_next_65 (by decide) ?_
        refine g_icmp_ne (tgt := 79) C dX8_next_66 (by decide) (by omega) (by omega) (fun c66 => ?_) (fun c66 => ?_)
        · -- 66 T
          refine g_aload_n C hl dX8_next_79 rfl ?_
          refine gt_X8_1 C hR fl_X8_16 dX8_next_80 ?_
          refine zgn_X4_4 C (by decide) hM hR fn_X8_100 dX8_next_83 ?_
          refine g_iret C hR hS dX8_next_86 ?_
          unfold sNext
          rw [if_pos (gIw_ok (by omega) hw2 (by decide)), if_neg (by omega), nI_clamp (by omega)]
          obtain rfl : w = 2 := by omega
          exact ⟨rfl, aCm_1 hc _⟩
        · -- 66 F
          refine g_aload_n C hl dX8_next_69 rfl ?_
          refine gt_X8_1 C hR fl_X8_16 dX8_next_70 ?_
          refine zgn_X4_5 C (by decide) hM hR fn_X8_110 dX8_next_73 ?_
          refine g_goto (tgt := 86) C dX8_next_76 (by decide) ?_
          refine g_iret C hR hS dX8_next_86 ?_
          unfold sNext
          rw [if_pos (gIw_ok (by omega) hw2 (by decide)), if_neg (by omega), nI_clamp (by omega)]
          obtain rfl : w = 1 := by omega
          exact ⟨rfl, aCm_1 hc _⟩
      · -- 25 F
        refine g_aload_n C hl dX8_next_28 rfl ?_
        refine gt_X8_0 C hR fl_X8_10 dX8_next_29 ?_
        refine gn_X4_0 C (by decide) hR fn_X8_47 dX8_next_32 ?_
        refine g_aload_n C hl dX8_next_35 rfl ?_
        refine gt_X8_0 C hR fl_X8_10 dX8_next_36 ?_
        refine zgn_X4_4 C (by decide) hM hR fn_X8_100 dX8_next_39 ?_
        refine g_callVi C hl.1 hR hS (rc_X0 (by decide)) md_X0_numberAt ml_X8_164 (c_X0_numberAt l hI (by decide) hM hz (hg c18)) rfl rfl ⟨Nat.le_of_ble_eq_true rfl, Nat.le_of_ble_eq_true rfl⟩ ⟨Nat.le_refl _, Nat.le_refl _⟩ (Nat.le_of_ble_eq_true rfl) dX8_next_42 (fun H locs hR hS => ?_)
        refine g_iret C hR hS dX8_next_45 ?_
        unfold sNext
        rw [if_pos (gIw_ok (by omega) hw2 (by decide)), if_neg (by omega), nI_clamp (by omega)]
        obtain rfl : w = 0 := by omega
        exact ⟨rfl, aCm_same hc⟩
    · -- 18 F
      refine g_bipushM (-5) C dX8_next_21 (by decide) ?_
      refine g_iret C hR hS dX8_next_23 ?_
      unfold sNext
      rw [if_pos (gIw_ok (by omega) hw2 (by decide)), if_pos (by omega)]
      exact ⟨rfl, aCm_same hc⟩
  · -- 5 F
    refine g_bipushM (-2) C dX8_next_8 (by decide) ?_
    refine g_iret C hR hS dX8_next_10 ?_
    unfold sNext
    rw [if_neg (by rw [c5]; decide)]
    exact ⟨rfl, aCm_same hc⟩
set_option maxRecDepth 100000 in
set_option maxHeartbeats 4000000 in
/-- X8_ifRun -/
theorem c_X8_ifRun (l : Launch) {X : gX} (hI : gInj X) {mem : gM} {S : aS} {n w : Int32} (hJ : aI S) (hc : aCl S mem) : gMt l yX8_ifRun cX8_ifRun 4 (some .int) 6 137 X [.ref (gAd X 7 0), .int n, .int w] mem (fun v9 m9 => v9 = some (.int (sIf (aZ S) n w)) ∧ aCm S mem m9) := by
  refine gMt.of (own := RX8) (by decide) rfl hI (by simp [Value.category]) (Nat.le_of_ble_eq_true rfl) ?_
  intro p e s m args below meth c ls H locs C hnm hl hR hS
  have hz : zI (aZ S) := hJ.1.1
  have hg : zG (aZ S) := hJ.1.2.1
  have hB : aZ S 178 ≤ 999999 := hJ.1.2.2.1
  have hM : mR (mem 0) (aZ S) := hc.1
  have h115 := hz.2.2.2.2.2.2.1
  have h116 := hz.2.2.2.2.2.2.2.1
  rw [← fU_self mem 0] at hR
  refine g_iload_n C hl dX8_ifRun_0 rfl ?_
  refine g_callSi C hl.1 hR hS md_X8_isStepsOfRun ml_X8_107 (c_X8_isStepsOfRun l hI) rfl rfl ⟨Nat.le_of_ble_eq_true rfl, Nat.le_of_ble_eq_true rfl⟩ ⟨Nat.le_refl _, Nat.le_refl _⟩ (Nat.le_of_ble_eq_true rfl) dX8_ifRun_1 (fun H locs hR hS => ?_)
  refine g_ifv_eq (tgt := 15) C dX8_ifRun_4 (by decide) (by decide) (fun c4 => ?_) (fun n en hn1 hn2 => ?_)
  · -- 4 T
    refine g_bipushM (-2) C dX8_ifRun_15 (by decide) ?_
    refine g_iret C hR hS dX8_ifRun_17 ?_
    unfold sIf
    rw [if_neg (by rw [c4]; decide)]
    exact ⟨rfl, aCm_same hc⟩
  · -- 4 F
    subst en
    refine g_iload_n C hl dX8_ifRun_7 rfl ?_
    refine g_iconst 5 C dX8_ifRun_8 (by decide) ?_
    refine g_callSi C hl.1 hR hS md_X8_isBelow ml_X8_43 (c_X8_isBelow l hI (hi := 4) (by decide)) rfl rfl ⟨Nat.le_of_ble_eq_true rfl, Nat.le_of_ble_eq_true rfl⟩ ⟨Nat.le_refl _, Nat.le_refl _⟩ (Nat.le_of_ble_eq_true rfl) dX8_ifRun_9 (fun H locs hR hS => ?_)
    refine g_ifv_ne (tgt := 18) C dX8_ifRun_12 (by decide) (by decide) (fun w ew hw1 hw2 => ?_) (fun c12 => ?_)
    · -- 12 T
      subst ew
      refine g_aload_n C hl dX8_ifRun_18 rfl ?_
      refine gt_X8_0 C hR fl_X8_10 dX8_ifRun_19 ?_
      refine zgn_X4_5 C (by decide) hM hR fn_X8_110 dX8_ifRun_22 ?_
      refine g_if_eq (tgt := 31) C dX8_ifRun_25 (by decide) (by omega) (fun c25 => ?_) (fun c25 => ?_)
      · -- 25 T
        refine g_aload_n C hl dX8_ifRun_31 rfl ?_
        refine gt_X8_1 C hR fl_X8_16 dX8_ifRun_32 ?_
        refine g_aload_n C hl dX8_ifRun_35 rfl ?_
        refine gt_X8_0 C hR fl_X8_10 dX8_ifRun_36 ?_
        rw [fU_self] at hR
        refine g_callKv C hl.1 hR hS (rc_X4 (by decide)) md_X4_copyFrom ml_X8_158 (c_X4_copyFrom l hI (k := 1) (k2 := 0) (by decide) (by decide) (by decide) hM) rfl rfl ⟨Nat.le_of_ble_eq_true rfl, Nat.le_of_ble_eq_true rfl⟩ ⟨Nat.le_refl _, Nat.le_refl _⟩ (Nat.le_of_ble_eq_true rfl) dX8_ifRun_39 (fun g hM H locs hR hS => ?_)
        refine g_aload_n C hl dX8_ifRun_42 rfl ?_
        refine gt_X8_1 C hR fl_X8_16 dX8_ifRun_43 ?_
        refine g_iload_n C hl dX8_ifRun_46 rfl ?_
        refine g_callKi C hl.1 hR hS (rc_X4 (by decide)) md_X4_takeSteps ml_X8_123 (c_X4_takeSteps l hI (k := 1) (by decide) hM hz hg hB (show n < 2000 by omega)) rfl rfl ⟨Nat.le_of_ble_eq_true rfl, Nat.le_of_ble_eq_true rfl⟩ ⟨Nat.le_refl _, Nat.le_refl _⟩ (Nat.le_of_ble_eq_true rfl) dX8_ifRun_47 (fun g hM H locs hR hS => ?_)
        refine g_istore_n C hl dX8_ifRun_50 (Nat.le_of_ble_eq_true rfl) (fun ls hl => ?_)
        refine g_iload_n C hl dX8_ifRun_51 rfl ?_
        by_cases hsw : gIw (nI w) 0 3 = true
        · -- 52 in
          obtain ⟨w9, e9, -, h9⟩ := gIw_t hsw (by decide)
          have e9 : w9 = w := ((nI_eq (show w < 2 ^ 31 by omega) (show w9 < 2 ^ 31 by omega)).mp e9).symm
          subst e9
          rcases (show w9 = 0 ∨ w9 = 1 ∨ w9 = 2 ∨ w9 = 3 by omega) with e9 | e9 | e9 | e9
          · -- 52 case 0
            subst e9
            refine lv_tableIn (tgt := 84) C.1 C.2.1 dX8_ifRun_52 (by decide) (by decide) rfl (by decide) ?_
            refine g_iload_n C hl dX8_ifRun_84 rfl ?_
            refine g_iret C hR hS dX8_ifRun_85 ?_
            unfold sIf
            rw [if_pos (gIw_ok hn1 hn2 (by decide)), if_pos (gIw_ok (by omega) hw2 (by decide)), if_neg (by omega), nI_clamp (by omega), nI_clamp (by omega)]
            exact ⟨rfl, aCm_1 hc _⟩
          · -- 52 case 1
            subst e9
            refine lv_tableIn (tgt := 86) C.1 C.2.1 dX8_ifRun_52 (by decide) (by decide) rfl (by decide) ?_
            refine g_aload_n C hl dX8_ifRun_86 rfl ?_
            refine gt_X8_1 C hR fl_X8_16 dX8_ifRun_87 ?_
            refine zgn_X4_5 C (by decide) hM hR fn_X8_110 dX8_ifRun_90 ?_
            refine g_iret C hR hS dX8_ifRun_93 ?_
            unfold sIf
            rw [if_pos (gIw_ok hn1 hn2 (by decide)), if_pos (gIw_ok (by omega) hw2 (by decide)), if_neg (by omega), nI_clamp (by omega), nI_clamp (by omega)]
            exact ⟨rfl, aCm_1 hc _⟩
          · -- 52 case 2
            subst e9
            refine lv_tableIn (tgt := 94) C.1 C.2.1 dX8_ifRun_52 (by decide) (by decide) rfl (by decide) ?_
            refine g_aload_n C hl dX8_ifRun_94 rfl ?_
            refine gt_X8_1 C hR fl_X8_16 dX8_ifRun_95 ?_
            refine zgn_X4_3 C (by decide) hM hR fn_X8_207 dX8_ifRun_98 ?_
            refine g_iret C hR hS dX8_ifRun_101 ?_
            unfold sIf
            rw [if_pos (gIw_ok hn1 hn2 (by decide)), if_pos (gIw_ok (by omega) hw2 (by decide)), if_neg (by omega), nI_clamp (by omega), nI_clamp (by omega)]
            exact ⟨rfl, aCm_1 hc _⟩
          · -- 52 case 3
            subst e9
            refine lv_tableIn (tgt := 102) C.1 C.2.1 dX8_ifRun_52 (by decide) (by decide) rfl (by decide) ?_
            refine g_aload_n C hl dX8_ifRun_102 rfl ?_
            refine gt_X8_1 C hR fl_X8_16 dX8_ifRun_103 ?_
            refine gn_X4_1 C (by decide) hR fn_X8_179 dX8_ifRun_106 ?_
            refine zgn_X2_1 C (by decide) hM hR fn_X8_194 dX8_ifRun_109 ?_
            refine g_iret C hR hS dX8_ifRun_112 ?_
            unfold sIf
            rw [if_pos (gIw_ok hn1 hn2 (by decide)), if_pos (gIw_ok (by omega) hw2 (by decide)), if_neg (by omega), nI_clamp (by omega), nI_clamp (by omega)]
            exact ⟨rfl, aCm_1 hc _⟩
        · -- 52 out
          have hsw2 : gIw (nI w) 0 3 = false := by simpa using hsw
          refine lv_tableOut (tgt := 113) C.1 C.2.1 dX8_ifRun_52 (gIw_out hsw2) (by decide) ?_
          refine g_aload_n C hl dX8_ifRun_113 rfl ?_
          refine gt_X8_1 C hR fl_X8_16 dX8_ifRun_114 ?_
          refine gn_X4_0 C (by decide) hR fn_X8_47 dX8_ifRun_117 ?_
          refine gn_X0_0 C (by decide) hR fn_X8_210 dX8_ifRun_120 ?_
          refine g_aload_n C hl dX8_ifRun_123 rfl ?_
          refine gt_X8_0 C hR fl_X8_10 dX8_ifRun_124 ?_
          refine gn_X4_0 C (by decide) hR fn_X8_47 dX8_ifRun_127 ?_
          refine gn_X0_0 C (by decide) hR fn_X8_210 dX8_ifRun_130 ?_
          refine g_callVi C hl.1 hR hS (rc_X5 (gRow_2 (k := 1) (by decide))) md_X5_differencesTo ml_X8_213 (c_X5_differencesTo l hI (gRow_2 (k := 1) (by decide)) (gRow_2 (k := 0) (by decide)) (fun i hi => by rw [fU_s, mR_arr hM mB_3 hi]; have := (zRun_I hz hg n).1.1 (0 + i) (by omega); omega) (fun i hi => by rw [fU_n _ _ (by decide), mR_arr hc.1 mB_3 hi]; have := hz.1 (0 + i) (by omega); omega)) rfl rfl ⟨Nat.le_of_ble_eq_true rfl, Nat.le_of_ble_eq_true rfl⟩ ⟨Nat.le_refl _, Nat.le_refl _⟩ (Nat.le_of_ble_eq_true rfl) dX8_ifRun_133 (fun H locs hR hS => ?_)
          refine g_iret C hR hS dX8_ifRun_136 ?_
          unfold sIf
          rw [if_pos (gIw_ok hn1 hn2 (by decide)), if_pos (gIw_ok (by omega) hw2 (by decide)), if_neg (by omega), nI_clamp (by omega), nI_clamp (by omega)]
          obtain rfl : w = 4 := by rcases gIw_out hsw2 with h9 | h9 <;> rw [nI_toInt (by omega)] at h9 <;> omega
          refine ⟨?_, aCm_1 hc _⟩
          have e1 : ∀ i, i < 100 → (fU mem 1 g) 1 3 i = zRun (aZ S) n i := fun i hi => by rw [fU_s, mR_arr hM mB_3 hi, Nat.zero_add i]
          have e2 : ∀ i, i < 100 → (fU mem 1 g) 0 3 i = aZ S i := fun i hi => by rw [fU_n _ _ (by decide), mR_arr hc.1 mB_3 hi, Nat.zero_add i]
          rw [gSum_cg (g := fun j => if zRun (aZ S) n j = aZ S j then 0 else 1) 100 (fun i hi => by rw [e1 i hi, e2 i hi])]
          rfl
      · -- 25 F
        refine g_bipushM (-4) C dX8_ifRun_28 (by decide) ?_
        refine g_iret C hR hS dX8_ifRun_30 ?_
        unfold sIf
        rw [if_pos (gIw_ok hn1 hn2 (by decide)), if_pos (gIw_ok (by omega) hw2 (by decide)), if_pos (by omega)]
        exact ⟨rfl, aCm_same hc⟩
    · -- 12 F
      refine g_bipushM (-2) C dX8_ifRun_15 (by decide) ?_
      refine g_iret C hR hS dX8_ifRun_17 ?_
      unfold sIf
      rw [if_neg (show ¬ gIw w 0 4 = true by rw [c12]; decide), ite_self]
      exact ⟨rfl, aCm_same hc⟩
end
section
/-! ===== FarBanks: backIn ===== -/
set_option maxRecDepth 100000 in
set_option maxHeartbeats 4000000 in
/-- X8_backIn -/
theorem c_X8_backIn (l : Launch) {X : gX} (hI : gInj X) {mem : gM} {S : aS}  (hJ : aI S) (hc : aCl S mem) : gMt l yX8_backIn cX8_backIn 3 (some .int) 5 115 X [.ref (gAd X 7 0)] mem (fun v9 m9 => v9 = some (.int (sBack (aZ S))) ∧ aCm S mem m9) := by
  refine gMt.of (own := RX8) (by decide) rfl hI (by simp [Value.category]) (Nat.le_of_ble_eq_true rfl) ?_
  intro p e s m args below meth c ls H locs C hnm hl hR hS
  have hz : zI (aZ S) := hJ.1.1
  have hg : zG (aZ S) := hJ.1.2.1
  have hB : aZ S 178 ≤ 999999 := hJ.1.2.2.1
  have hM : mR (mem 0) (aZ S) := hc.1
  have h115 := hz.2.2.2.2.2.2.1
  have h116 := hz.2.2.2.2.2.2.2.1
  rw [← fU_self mem 0] at hR
  have loop : ∀ (d i : Nat), i + d = 500 → zBack (aZ S) i = 0 → ∀ (ls : Array Slot) (H : Heap) (locs : List Loc) (g : Nat → Nat → Nat), mR g (zRun (aZ S) i) → gL ls [some (.ref (gAd X 7 0)), some (.int (nI (aZ S 116))), some (.int (nI (i + 1)))] → gRep X (fU mem 1 g) H → va_S (gA X) s.heap H locs → W p l e { frames := 5, cells := 0, slots := 0, locals := 115 } s m args below meth c H locs 0 0 (MQ below (gQ X (fun v9 m9 => v9 = some (.int (sBack (aZ S))) ∧ aCm S mem m9)) args s 0 0 (gA X)) (F0 m 31 ls []) := by
    intro d
    induction d with
    | zero =>
      intro i hi hb ls H locs g hM hl hR hS
      obtain rfl : i = 500 := by omega
      have hb5 := hb
      refine g_iload_n C hl dX8_backIn_31 rfl ?_
      refine g_sipush 500 C dX8_backIn_32 (by decide) ?_
      refine g_icmp_gt (tgt := 77) C dX8_backIn_35 (by decide) (by omega) (by omega) (fun c35 => ?_) (fun z9 => absurd z9 (by omega))
      refine g_bipushM (-5) C dX8_backIn_77 (by decide) ?_
      refine g_iret C hR hS dX8_backIn_79 ?_
      unfold sBack
      rw [if_pos hb5]
      exact ⟨rfl, aCm_1 hc _⟩
    | succ d ih =>
      intro i hi hb ls H locs g hM hl hR hS
      obtain ⟨hzi, hgi⟩ := zRun_I hz hg i
      have b115 := hzi.2.2.2.2.2.2.1
      have b178 := zRun_178 hz hg i
      refine g_iload_n C hl dX8_backIn_31 rfl ?_
      refine g_sipush 500 C dX8_backIn_32 (by decide) ?_
      refine g_icmp_gt (tgt := 77) C dX8_backIn_35 (by decide) (by omega) (by omega) (fun z9 => absurd z9 (by omega)) (fun c35 => ?_)
      refine g_aload_n C hl dX8_backIn_38 rfl ?_
      refine gt_X8_1 C hR fl_X8_16 dX8_backIn_39 ?_
      refine zgn_X4_5 C (by decide) hM hR fn_X8_110 dX8_backIn_42 ?_
      refine g_if_ne (tgt := 77) C dX8_backIn_45 (by decide) (by omega) (fun c45 => ?_) (fun c45 => ?_)
      · -- 45 T
        refine g_bipushM (-5) C dX8_backIn_77 (by decide) ?_
        refine g_iret C hR hS dX8_backIn_79 ?_
        have hb5 := zBack_st hb c45 (500 - i)
        rw [show i + (500 - i) = 500 by omega] at hb5
        unfold sBack
        rw [if_pos hb5]
        exact ⟨rfl, aCm_1 hc _⟩
      · -- 45 F
        refine g_aload_n C hl dX8_backIn_48 rfl ?_
        refine gt_X8_1 C hR fl_X8_16 dX8_backIn_49 ?_
        refine g_callKv C hl.1 hR hS (rc_X4 (by decide)) md_X4_step ml_X8_204 (c_X4_step l hI (k := 1) (by decide) hM hzi (hgi c45) (by omega)) rfl rfl ⟨Nat.le_of_ble_eq_true rfl, Nat.le_of_ble_eq_true rfl⟩ ⟨Nat.le_refl _, Nat.le_refl _⟩ (Nat.le_of_ble_eq_true rfl) dX8_backIn_52 (fun g hM H locs hR hS => ?_)
        have e1 : zRun (aZ S) (i + 1) = zStep (zRun (aZ S) i) := if_pos c45
        rw [← e1] at hM
        refine g_aload_n C hl dX8_backIn_55 rfl ?_
        refine gt_X8_1 C hR fl_X8_16 dX8_backIn_56 ?_
        refine gn_X4_1 C (by decide) hR fn_X8_179 dX8_backIn_59 ?_
        refine zgn_X2_1 C (by decide) hM hR fn_X8_194 dX8_backIn_62 ?_
        refine g_iload_n C hl dX8_backIn_65 rfl ?_
        refine g_icmp_ge (tgt := 71) C dX8_backIn_66 (by decide) (by have := (zRun_I hz hg (i + 1)).1.2.2.2.2.2.2.2.1; omega) (by have := (zRun_I hz hg (i + 1)).1.2.2.2.2.2.2.2.1; omega) (fun c66 => ?_) (fun c66 => ?_)
        · -- 66 T
          refine g_iinc (k := 1) C hl dX8_backIn_71 rfl (by decide) (fun ls hl => ?_)
          refine g_goto (tgt := 31) C dX8_backIn_74 (by decide) ?_
          exact ih (i + 1) (by omega) (zBack_0 hb c45 (by omega)) ls H locs g hM hl hR hS
        · -- 66 F
          refine g_iload_n C hl dX8_backIn_69 rfl ?_
          refine g_iret C hR hS dX8_backIn_70 ?_
          have hb5 := zBack_1 hb c45 c66 (500 - (i + 1))
          rw [show i + 1 + (500 - (i + 1)) = 500 by omega] at hb5
          unfold sBack
          rw [if_neg (by omega), hb5]
          exact ⟨rfl, aCm_1 hc _⟩
  refine g_aload_n C hl dX8_backIn_0 rfl ?_
  refine gt_X8_0 C hR fl_X8_10 dX8_backIn_1 ?_
  refine gn_X4_1 C (by decide) hR fn_X8_179 dX8_backIn_4 ?_
  refine zgn_X2_1 C (by decide) hM hR fn_X8_194 dX8_backIn_7 ?_
  refine g_istore_n C hl dX8_backIn_10 (Nat.le_of_ble_eq_true rfl) (fun ls hl => ?_)
  refine g_iload_n C hl dX8_backIn_11 rfl ?_
  refine g_if_ne (tgt := 18) C dX8_backIn_12 (by decide) (by omega) (fun c12 => ?_) (fun c12 => ?_)
  · -- 12 T
    refine g_aload_n C hl dX8_backIn_18 rfl ?_
    refine gt_X8_1 C hR fl_X8_16 dX8_backIn_19 ?_
    refine g_aload_n C hl dX8_backIn_22 rfl ?_
    refine gt_X8_0 C hR fl_X8_10 dX8_backIn_23 ?_
    rw [fU_self] at hR
    refine g_callKv C hl.1 hR hS (rc_X4 (by decide)) md_X4_copyFrom ml_X8_158 (c_X4_copyFrom l hI (k := 1) (k2 := 0) (by decide) (by decide) (by decide) hM) rfl rfl ⟨Nat.le_of_ble_eq_true rfl, Nat.le_of_ble_eq_true rfl⟩ ⟨Nat.le_refl _, Nat.le_refl _⟩ (Nat.le_of_ble_eq_true rfl) dX8_backIn_26 (fun g hM H locs hR hS => ?_)
    refine g_iconst 1 C dX8_backIn_29 (by decide) ?_
    refine g_istore_n C hl dX8_backIn_30 (Nat.le_of_ble_eq_true rfl) (fun ls hl => ?_)
    exact loop 500 0 (by omega) rfl _ _ _ g hM hl hR hS
  · -- 12 F
    refine g_bipushM (-5) C dX8_backIn_15 (by decide) ?_
    refine g_iret C hR hS dX8_backIn_17 ?_
    unfold sBack
    rw [if_pos (zBack_no c12 500)]
    exact ⟨rfl, aCm_same hc⟩
end
section
/-! ===== what always holds goes on to hold ===== -/
theorem zT_lo {z : Nat → Nat} {i x : Nat} (h : zT z) (hi : i < 141 ∨ i = 179) : zT (fU z i x) := by
  obtain ⟨h1, h2, h3⟩ := h
  refine ⟨?_, ?_, ?_⟩
  · rw [fU_n _ _ (by omega), fU_n _ _ (by omega)]; exact h1
  · rw [fU_n _ _ (by omega), h2]
    exact gSum_cg 8 (fun b hb => (fU_n _ _ (by omega)).symm)
  · rw [fU_n _ _ (by omega), h3]
    exact gSum_cg 8 (fun b hb => (fU_n _ _ (by omega)).symm)
theorem zT_cg {z y : Nat → Nat} (h : zT z) (e : ∀ j, j = 141 ∨ 178 ≤ j → y j = z j) : zT y := by
  obtain ⟨h1, h2, h3⟩ := h
  refine ⟨?_, ?_, ?_⟩
  · rw [e _ (by omega), e _ (by omega)]; exact h1
  · rw [e _ (by omega), h2]
    exact gSum_cg 8 (fun b hb => (e _ (by omega)).symm)
  · rw [e _ (by omega), h3]
    exact gSum_cg 8 (fun b hb => (e _ (by omega)).symm)
theorem gSum_inc {f : Nat → Nat} {k : Nat} : ∀ n, k < n → gSum (fU f k (f k + 1)) n = gSum f n + 1
  | 0, h => absurd h (Nat.not_lt_zero _)
  | n + 1, h => by
    show gSum (fU f k (f k + 1)) n + fU f k (f k + 1) n = gSum f n + f n + 1
    by_cases e : k = n
    · subst e
      rw [fU_s, gSum_cg (g := f) k (fun i hi => fU_n _ _ (by omega))]
      omega
    · rw [gSum_inc n (by omega), fU_n _ _ (by omega)]
      omega
theorem gSum_inc2 {z : Nat → Nat} {base b : Nat} (hb : b < 8) : gSum (fun q => fU z (base + b) (z (base + b) + 1) (base + q)) 8 = gSum (fun q => z (base + q)) 8 + 1 := by
  rw [← gSum_inc (f := fun q => z (base + q)) (k := b) 8 hb]
  refine gSum_cg 8 (fun q hq => ?_)
  by_cases e : q = b
  · subst e
    rw [fU_s, fU_s]
  · rw [fU_n _ _ e, fU_n _ _ (by omega)]
theorem zT_w0 {z : Nat → Nat} {b : Nat} (h : zT z) (hb : b < 8) : zT (fU (fU z 180 (z 180 + 1)) (182 + b) (fU z 180 (z 180 + 1) (182 + b) + 1)) := by
  obtain ⟨h1, h2, h3⟩ := h
  have e : fU z 180 (z 180 + 1) (182 + b) = z (182 + b) := fU_n _ _ (by omega)
  rw [e]
  refine ⟨?_, ?_, ?_⟩
  · rw [fU_n _ _ (by omega), fU_n _ _ (by omega), fU_n _ _ (by omega), fU_n _ _ (by omega)]; exact h1
  · rw [fU_n _ _ (by omega), fU_s, h2, ← gSum_inc2 hb]
    refine gSum_cg 8 (fun q hq => ?_)
    by_cases e : q = b
    · subst e; rw [fU_s, fU_s]
    · rw [fU_n _ _ (by omega), fU_n _ _ (by omega), fU_n _ _ (by omega)]
  · rw [fU_n _ _ (by omega), fU_n _ _ (by omega), h3]
    exact gSum_cg 8 (fun q hq => by rw [fU_n _ _ (by omega), fU_n _ _ (by omega)])
theorem zT_w1 {z : Nat → Nat} {b : Nat} (h : zT z) (hb : b < 8) : zT (fU (fU z 181 (z 181 + 1)) (190 + b) (fU z 181 (z 181 + 1) (190 + b) + 1)) := by
  obtain ⟨h1, h2, h3⟩ := h
  have e : fU z 181 (z 181 + 1) (190 + b) = z (190 + b) := fU_n _ _ (by omega)
  rw [e]
  refine ⟨?_, ?_, ?_⟩
  · rw [fU_n _ _ (by omega), fU_n _ _ (by omega), fU_n _ _ (by omega), fU_n _ _ (by omega)]; exact h1
  · rw [fU_n _ _ (by omega), fU_n _ _ (by omega), h2]
    exact gSum_cg 8 (fun q hq => by rw [fU_n _ _ (by omega), fU_n _ _ (by omega)])
  · rw [fU_n _ _ (by omega), fU_s, h3, ← gSum_inc2 hb]
    refine gSum_cg 8 (fun q hq => ?_)
    by_cases e : q = b
    · subst e; rw [fU_s, fU_s]
    · rw [fU_n _ _ (by omega), fU_n _ _ (by omega), fU_n _ _ (by omega)]
theorem zT_wr {z : Nat → Nat} {a : Nat} (h : zT z) (hb : zBk z a < 8) (hat : zAt z a < 100) : zT (zWr z a) := by
  unfold zWr
  by_cases c : z (104 + zBk z a) = 1
  · rw [if_pos c]
    exact zT_lo (zT_w1 h hb) (by omega)
  · rw [if_neg c]
    exact zT_w0 (zT_lo h (by omega)) hb
theorem zT_ord {z : Nat → Nat} {kind n w : Nat} (h : zT z) (hz : zI z) (hk : kind < 10) (hn : n < 100) (hw : w < 4) (hy : zWhy z kind n = 0) : zT (zOrd z kind n w) := by
  have h116 := hz.2.2.2.2.2.2.2.1
  obtain ⟨y1, y2, y3⟩ := zWhy_0 hy
  match kind, hk with
  | 0, _ => exact zT_lo h (by omega)
  | 1, _ => exact zT_lo h (by omega)
  | 2, _ => exact zT_lo h (by omega)
  | 3, _ => exact zT_wr h (hz.bk (by omega)) (hz.at (by omega))
  | 4, _ => exact zT_lo h (by omega)
  | 5, _ => exact zT_lo h (by omega)
  | 6, _ => exact zT_lo h (by omega)
  | 7, _ =>
    show zT (zCl z w n)
    rw [zCl_eq hw (by omega)]
    exact zT_lo (zT_lo (zT_lo (zT_lo (zT_lo (zT_lo (zT_lo h (by omega)) (by omega)) (by omega)) (by omega)) (by omega)) (by omega)) (by omega)
  | 8, _ =>
    obtain ⟨q1, q2, q3⟩ := hz.2.2.2.2.2.2.2.2.1 (z 116 - 1) (by omega)
    show zT (zBc z)
    rw [zBc_eq (by omega) h116 q1]
    exact zT_lo (zT_lo (zT_lo h (by omega)) (by omega)) (by omega)
  | 9, _ => exact zT_lo h (by omega)
  | k + 10, h => exact absurd h (by omega)
theorem zT_st2 {z : Nat → Nat} (h : zT z) (hz : zI z) (had : z 114 < 64) : zT (zSt2 z) := by
  have h12 := hz.2.2.2.2.2.2.2.2.2
  rw [zSt1_eq had h12]
  obtain ⟨h1, h2, h3⟩ := h
  have k1 : zKp0 z 141 = min (z 178 + 1) 12 := by
    unfold zKp0
    by_cases e : z 141 < 12
    · rw [if_pos e, fU_s]; omega
    · rw [if_neg e]; omega
  have hi : ∀ j, 179 ≤ j → fU (zKq z (z 114) (zBk z (z 114)) (z (zAt z (z 114)))) 178 (z 178 + 1) j = z j := by
    intro j hj
    rw [fU_n _ _ (by omega)]
    unfold zKq
    rw [fU_n _ _ (by omega), fU_n _ _ (by omega), fU_n _ _ (by omega)]
    unfold zSh
    rw [if_neg (by omega), zKp0_hi (by omega)]
  refine ⟨?_, ?_, ?_⟩
  · rw [fU_s, fU_n _ _ (by omega)]
    unfold zKq
    rw [fU_n _ _ (by omega), fU_n _ _ (by omega), fU_n _ _ (by omega)]
    unfold zSh
    rw [if_neg (by omega)]
    exact k1
  · rw [hi _ (by omega), h2]
    exact gSum_cg 8 (fun q hq => (hi _ (by omega)).symm)
  · rw [hi _ (by omega), h3]
    exact gSum_cg 8 (fun q hq => (hi _ (by omega)).symm)
theorem zT_step {z : Nat → Nat} (h : zT z) (hz : zI z) (had : z 114 < 64) : zT (zStep z) := by
  have hord := hz.1 _ (hz.at had)
  have h4 : zT (zSt4 z) := zT_lo (zT_lo (zT_st2 h hz had) (by omega)) (by omega)
  have h5 : zT (zSt5 z) := by
    unfold zSt5
    by_cases c : zSt4 z 115 = 0
    · rw [if_pos c]
      exact zT_ord h4 (zI_st4 hz had) (by omega) (by omega) (by omega) (zSt4_why c)
    · rw [if_neg c]; exact h4
  unfold zStep
  by_cases c : zSt5 z 115 = 0 ∧ zSt5 z 114 = 64
  · rw [if_pos c]; exact zT_lo h5 (by omega)
  · rw [if_neg c]; exact h5
theorem zT_run {z : Nat → Nat} (h : zT z) (hz : zI z) (hg : zG z) : ∀ n, zT (zRun z n)
  | 0 => h
  | n + 1 => by
    have ih := zT_run h hz hg n
    obtain ⟨h1, h2⟩ := zRun_I hz hg n
    show zT (if zRun z n 115 = 0 then zStep (zRun z n) else zRun z n)
    by_cases c : zRun z n 115 = 0
    · rw [if_pos c]; exact zT_step ih h1 (h2 c)
    · rw [if_neg c]; exact ih
theorem zV_lo {z : Nat → Nat} {i x : Nat} (h : zV z) (hi : i < 114) (hz : zI (fU z i x)) : zV (fU z i x) := by
  obtain ⟨h1, h2, h3, h4⟩ := h
  refine ⟨hz, ?_, ?_, zT_lo h4 (by omega)⟩
  · unfold zG
    rw [fU_n _ _ (by omega), fU_n _ _ (by omega)]
    exact h2
  · unfold zB
    rw [fU_n _ _ (by omega)]
    exact h3
theorem zV_cell {z : Nat → Nat} {i x : Nat} (h : zV z) (hi : i < 100) (hx : x ≤ 999) : zV (fU z i x) := zV_lo h (by omega) (h.1.upd9 (by omega) (by omega) (by omega) (by omega) (by omega) (by omega) (by omega) (by omega) (fun q hq => by omega) (by omega))
theorem zV_cp {z : Nat → Nat} {fr to : Nat} (h : zV z) (hf : fr < 8) (ht : to < 8) : ∀ n, n ≤ 12 → zV (zCp z fr to n)
  | 0, _ => h
  | n + 1, hn => by
    have ih := zV_cp h hf ht n (by omega)
    exact zV_cell ih (zIx_lt ht (by omega)) (ih.1.1 _ (zIx_lt hf (by omega)))
theorem zV_bg {z : Nat → Nat} {p9 : Nat} (h : zV z) (hp : p9 < 64) : zV (zBg z p9) := by
  obtain ⟨h1, h2, h3, h4⟩ := h
  refine ⟨?_, ?_, ?_, zT_lo (zT_lo (zT_lo (zT_lo h4 (by omega)) (by omega)) (by omega)) (by omega)⟩
  · have a1 : zI (fU z 114 p9) := h1.upd9 (by omega) (by omega) (by omega) (by omega) (by omega) (by omega) (by omega) (by omega) (fun q hq => by omega) (by omega)
    have a2 : zI (fU (fU z 114 p9) 113 0) := a1.upd9 (by omega) (by omega) (by omega) (by omega) (by omega) (by omega) (by omega) (by omega) (fun q hq => by omega) (by omega)
    have a3 : zI (fU (fU (fU z 114 p9) 113 0) 115 0) := a2.upd9 (by omega) (by omega) (by omega) (by omega) (by omega) (by omega) (by omega) (by omega) (fun q hq => by omega) (by omega)
    exact a3.upd9 (by omega) (by omega) (by omega) (by omega) (by omega) (by omega) (by omega) (by omega) (fun q hq => by omega) (by omega)
  · intro _
    unfold zBg
    rw [fU_n _ _ (by omega), fU_n _ _ (by omega), fU_n _ _ (by omega), fU_s]
    exact hp
  · unfold zB zBg
    rw [fU_n _ _ (by omega), fU_n _ _ (by omega), fU_n _ _ (by omega), fU_n _ _ (by omega)]
    exact h3
theorem zV_run {z : Nat → Nat} {n : Nat} (h : zV z) (hn : z 178 + n ≤ 999999) : zV (zRun z n) := by
  obtain ⟨h1, h2, h3, h4⟩ := h
  have a := zRun_I h1 h2 n
  have b := zRun_178 h1 h2 n
  exact ⟨a.1, a.2, by unfold zB; omega, zT_run h4 h1 h2 n⟩
theorem aI_rec {S : aS} (h : aI S) (h4 : aN S ≤ 4) : aI (aRec S) := by
  obtain ⟨h1, h2, h3, h5⟩ := h
  refine ⟨h1, fun i hi => ?_, h3, h5⟩
  have hi' : i < rN (aN S) := hi
  show zV (aHr (aN S) (aH S) (aZ S) i)
  unfold aHr
  unfold rN at hi'
  by_cases c : aN S = 4
  · rw [if_pos c] at hi'
    rw [if_pos c]
    by_cases e : i = 3
    · rw [if_pos e]; exact h1
    · rw [if_neg e]; exact h2 _ (by omega)
  · rw [if_neg c] at hi'
    rw [if_neg c]
    by_cases e : i = aN S
    · rw [e, fU_s]; exact h1
    · rw [fU_n _ _ e]; exact h2 _ (by omega)
theorem aI_z {S : aS} {y : Nat → Nat} (h : aI S) (hy : zV y) : aI (aPz S y) := ⟨hy, h.2⟩
end
section
/-! ===== every call keeps what always holds ===== -/
theorem aI_s {S : aS} {y : Nat → Nat} (h : aI S) (h4 : aN S ≤ 4) (hy : zV y) : aI (aPz (aRec S) y) := aI_z (aI_rec h h4) hy
theorem aI_put {S : aS} (h : aI S) (h4 : aN S ≤ 4) (b c9 n : Int32) : aI (aPut S b c9 n).2 := by
  by_cases hb : gIw b 0 7 = true
  · obtain ⟨b, rfl, -, hb⟩ := gIw_t hb (by decide)
    by_cases hc : gIw c9 0 15 = true
    · obtain ⟨c9, rfl, -, hc⟩ := gIw_t hc (by decide)
      by_cases hn : gIw n 0 999 = true
      · obtain ⟨n, rfl, -, hn⟩ := gIw_t hn (by decide)
        by_cases e : aZ S (zIx b c9) = n
        · rw [aPut_4 hb hc hn e]; exact h
        · rw [aPut_5 hb hc hn e]; exact aI_s h h4 (zV_cell h.1 (zIx_lt (by omega) (by omega)) hn)
      · rw [aPut_3 hb hc (by simpa using hn)]; exact h
    · rw [aPut_2 (by simpa using hc)]; exact h
  · rw [aPut_1 (by simpa using hb)]; exact h
theorem aI_lock {S : aS} (h : aI S) (h4 : aN S ≤ 4) (b : Int32) {v : Nat} (hv : v < 2) : aI (aLock S b v).2 := by
  by_cases hb : gIw b 0 7 = true
  · obtain ⟨b, rfl, -, hb⟩ := gIw_t hb (by decide)
    by_cases e : aZ S (104 + b) = v
    · rw [aLock_2 hb e]; exact h
    · rw [aLock_3 hb e]
      exact aI_s h h4 (zV_lo h.1 (by omega) (h.1.1.upd9 (by omega) (by omega) (by omega) (by omega) (by omega) (by omega) (by omega) (by omega) (fun q hq => by omega) (by omega)))
  · rw [aLock_1 (by simpa using hb)]; exact h
theorem aI_show {S : aS} (h : aI S) (h4 : aN S ≤ 4) (w b : Int32) : aI (aShow S w b).2 := by
  by_cases hw : gIw w 0 3 = true
  · obtain ⟨w, rfl, -, hw⟩ := gIw_t hw (by decide)
    by_cases hb : gIw b 0 7 = true
    · obtain ⟨b, rfl, -, hb⟩ := gIw_t hb (by decide)
      by_cases e : aZ S (100 + w) = b
      · rw [aShow_3 hw hb e]; exact h
      · rw [aShow_4 hw hb e]
        exact aI_s h h4 (zV_lo h.1 (by omega) (h.1.1.upd9 (by omega) (by omega) (by omega) (by omega) (by omega) (by omega) (by omega) (by omega) (fun q hq => by omega) (by omega)))
    · rw [aShow_2 (by simpa using hb)]; exact h
  · rw [aShow_1 (by simpa using hw)]; exact h
theorem aI_copy {S : aS} (h : aI S) (h4 : aN S ≤ 4) (w b : Int32) : aI (aCopy S w b).2 := by
  by_cases hw : gIw w 0 7 = true
  · obtain ⟨w, rfl, -, hw⟩ := gIw_t hw (by decide)
    by_cases hb : gIw b 0 7 = true
    · obtain ⟨b, rfl, -, hb⟩ := gIw_t hb (by decide)
      by_cases e : zUn (aZ S) w b 12 = 0
      · rw [aCopy_3 hw hb e]; exact h
      · rw [aCopy_4 hw hb e]
        exact aI_s h h4 (zV_cp h.1 (by omega) (by omega) 12 (Nat.le_refl _))
    · rw [aCopy_2 (by simpa using hb)]; exact h
  · rw [aCopy_1 (by simpa using hw)]; exact h
theorem aI_set {S : aS} (h : aI S) (h4 : aN S ≤ 4) (v : Int32) : aI (aSet S v).2 := by
  by_cases hv : gIw v 0 1 = true
  · obtain ⟨v, rfl, -, hv⟩ := gIw_t hv (by decide)
    by_cases e : aZ S 112 = v
    · rw [aSet_2 hv e]; exact h
    · rw [aSet_3 hv e]
      exact aI_s h h4 (zV_lo h.1 (by omega) (h.1.1.upd9 (by omega) (by omega) (by omega) (by omega) (by omega) (by omega) (by omega) (by omega) (fun q hq => by omega) (by omega)))
  · rw [aSet_1 (by simpa using hv)]; exact h
theorem aI_begin {S : aS} (h : aI S) (h4 : aN S ≤ 4) (v : Int32) : aI (aBegin S v).2 := by
  by_cases hv : gIw v 0 63 = true
  · obtain ⟨v, rfl, -, hv⟩ := gIw_t hv (by decide)
    rw [aBegin_2 hv]
    exact aI_s h h4 (zV_bg h.1 (by omega))
  · rw [aBegin_1 (by simpa using hv)]; exact h
theorem aI_run {S : aS} (h : aI S) (h4 : aN S ≤ 4) (v : Int32) : aI (aRun S v).2 := by
  by_cases hv : gIw v 1 999 = true
  · obtain ⟨v, rfl, hv1, hv⟩ := gIw_t hv (by decide)
    by_cases e : 0 < aZ S 115
    · rw [aRun_2 hv1 hv e]; exact h
    · by_cases e2 : 999999 < aZ S 178 + v
      · rw [aRun_3 hv1 hv (by omega) e2]; exact h
      · rw [aRun_4 hv1 hv (by omega) (by omega)]
        exact aI_s h h4 (zV_run h.1 (by omega))
  · rw [aRun_1 (by simpa using hv)]; exact h
theorem aI_undo {S : aS} (h : aI S) : aI (aUndo S).2 := by
  unfold aUndo
  by_cases e : aN S = 0
  · rw [if_pos e]; exact h
  · rw [if_neg e]
    exact ⟨h.2.1 _ (by omega), fun i hi => h.2.1 i (by have : i < aN S - 1 := hi; omega), h.2.2.1, h.2.2.2⟩
theorem aI_rest {S : aS} (h : aI S) (h4 : aN S ≤ 4) (h2 : aK S < 2) : aI (aRest S).2 := by
  unfold aRest
  by_cases e : aK S = 0
  · rw [if_pos e]; exact h
  · rw [if_neg e]
    exact aI_s h h4 (h.2.2.1 (by omega))
/-! the state at the start -/
def z0 : Nat → Nat := fun j => if j = 101 then 1 else if j = 102 then 2 else if j = 103 then 3 else 0
def S0 : aS := (0, fun _ _ => 0, z0, 0, fun _ => 0, 0, fun _ => 0)
theorem z0_V : zV z0 := by
  refine ⟨⟨?_, ?_, ?_, by decide, by decide, by decide, by decide, by decide, ?_, by decide⟩, fun _ => by decide, by unfold zB; decide, by decide, by decide, by decide⟩
  · intro i hi
    unfold z0
    rw [if_neg (by omega), if_neg (by omega), if_neg (by omega)]
    decide
  · intro w hw
    rcases (show w = 0 ∨ w = 1 ∨ w = 2 ∨ w = 3 by omega) with rfl | rfl | rfl | rfl <;> decide
  · intro b hb
    unfold z0
    rw [if_neg (by omega), if_neg (by omega), if_neg (by omega)]
    decide
  · intro q hq
    unfold z0
    rw [if_neg (by omega), if_neg (by omega), if_neg (by omega), if_neg (by omega), if_neg (by omega), if_neg (by omega), if_neg (by omega), if_neg (by omega), if_neg (by omega)]
    decide
theorem S0_I : aI S0 := ⟨z0_V, fun i hi => absurd (show i < 0 from hi) (Nat.not_lt_zero i), fun h => absurd (show 0 = 1 from h) (by decide), fun j hj => absurd (show j < 0 from hj) (Nat.not_lt_zero j)⟩
end
section
/-! ===== the law's arrays beside the machine's row: which array, which place, whether they hold it ===== -/
def uO (j : Nat) : Nat := if j < 48 then 1 else if j < 96 then 2 else if j < 100 then 1 else if j < 116 then 0 else if j < 141 then 3 else 0
def uX (j : Nat) : Nat := if j < 48 then j else if j < 100 then j - 48 else if j < 116 then j - 100 else if j < 141 then j - 116 else j - 162
def uK (j : Nat) : Bool := Nat.blt j 141 || (Nat.ble 178 j && Nat.blt j 198)
def uJb (j o i : Nat) : Bool := Nat.blt j 198 && (uK j && (Nat.beq (uO j) o && (Nat.beq (uX j) i && (Nat.blt i (gLn o) && Nat.blt o 4))))
theorem uJ_get {j o i : Nat} (h : uJb j o i = true) : j < 198 ∧ uK j = true ∧ uO j = o ∧ uX j = i ∧ i < gLn o ∧ o < 4 := by
  simp only [uJb, Bool.and_eq_true, Nat.blt_eq, Nat.beq_eq] at h
  exact h
theorem uK_lt {j : Nat} (h : uK j = true) : j < 198 := by
  simp only [uK, Bool.or_eq_true, Bool.and_eq_true, Nat.blt_eq, Nat.ble_eq] at h
  omega
theorem uInj : ∀ j, j < 198 → ∀ j', j' < 198 → (uK j && (uK j' && (Nat.beq (uO j) (uO j') && Nat.beq (uX j) (uX j')))) = true → j = j' := by decide +kernel
theorem gLn_lt (o : Nat) : gLn o < 2 ^ 31 := by
  unfold gLn
  split <;> decide
def uR (g : Nat → Nat → Nat) (z : Nat → Nat) : Prop := ∀ j, uK j = true → g (uO j) (uX j) = z j
theorem uR_set {g : Nat → Nat → Nat} {z : Nat → Nat} {j o i : Nat} (x : Nat) (hM : uR g z) (h : uJb j o i = true) : uR (fU g o (fU (g o) i x)) (fU z j x) := by
  obtain ⟨h1, h2, h3, h4, h5, h6⟩ := uJ_get h
  intro j' hk
  by_cases e : j' = j
  · subst e
    rw [fU_s, h3, h4, fU_s, fU_s]
  · rw [fU_n _ _ e]
    by_cases eo : uO j' = o
    · rw [eo, fU_s, fU_n _ _ (show ¬ uX j' = i from fun e2 => e (uInj _ (uK_lt hk) _ h1 (by
        simp only [Bool.and_eq_true, Nat.beq_eq]
        exact ⟨hk, h2, eo.trans h3.symm, e2.trans h4.symm⟩))), ← eo]
      exact hM j' hk
    · rw [fU_n _ _ eo]
      exact hM j' hk
theorem uR_eq {g : Nat → Nat → Nat} {z y : Nat → Nat} (hM : uR g z) (h : ∀ j, uK j = true → z j = y j) : uR g y := fun j hk => (hM j hk).trans (h j hk)
theorem uK_ne {j : Nat} (h : uK j = true) : j < 141 ∨ (178 ≤ j ∧ j < 198) := by
  simp only [uK, Bool.or_eq_true, Bool.and_eq_true, Nat.blt_eq, Nat.ble_eq] at h
  exact h
theorem uJ_w0 : ∀ i, i < 16 → uJb (100 + i) 0 i = true := by decide +kernel
theorem uJ_w {j i : Nat} (e : j = 100 + i) (h : i < 16) : uJb j 0 i = true := by
  rw [e]
  exact uJ_w0 i h
theorem uJ_s0 : ∀ i, i < 36 → Nat.ble 16 i = true → uJb (162 + i) 0 i = true := by decide +kernel
theorem uJ_s {j i : Nat} (e : j = 162 + i) (h0 : 16 ≤ i) (h : i < 36) : uJb j 0 i = true := by
  rw [e]
  exact uJ_s0 i h (Nat.ble_eq.mpr h0)
theorem uJ_c0 : ∀ i, i < 48 → uJb i 1 i = true := by decide +kernel
theorem uJ_c {j i : Nat} (e : j = i) (h : i < 48) : uJb j 1 i = true := by
  rw [e]
  exact uJ_c0 i h
theorem uJ_m0 : ∀ i, i < 52 → Nat.ble 48 i = true → uJb (48 + i) 1 i = true := by decide +kernel
theorem uJ_m {j i : Nat} (e : j = 48 + i) (h0 : 48 ≤ i) (h : i < 52) : uJb j 1 i = true := by
  rw [e]
  exact uJ_m0 i h (Nat.ble_eq.mpr h0)
theorem uJ_d0 : ∀ i, i < 48 → uJb (48 + i) 2 i = true := by decide +kernel
theorem uJ_d {j i : Nat} (e : j = 48 + i) (h : i < 48) : uJb j 2 i = true := by
  rw [e]
  exact uJ_d0 i h
theorem uJ_f0 : ∀ i, i < 25 → uJb (116 + i) 3 i = true := by decide +kernel
theorem uJ_f {j i : Nat} (e : j = 116 + i) (h : i < 25) : uJb j 3 i = true := by
  rw [e]
  exact uJ_f0 i h
/-- only group k is written -/
def uF (k : Nat) (mem m9 : gM) : Prop := ∀ k', ¬ k' = k → m9 k' = mem k'
theorem uF.rf {k : Nat} {mem : gM} : uF k mem mem := fun _ _ => rfl
theorem uF.tr {k : Nat} {a b d : gM} (h1 : uF k a b) (h2 : uF k b d) : uF k a d := fun k' h => (h2 k' h).trans (h1 k' h)
theorem uF.gP {k o : Nat} {mem0 mem : gM} {f : Nat → Nat} (h : uF k mem0 mem) : uF k mem0 (gP mem k o f) := fun k' hk => (gP_nk _ _ hk).trans (h k' hk)
/-- the law's group k stands -/
def uG (X : gX) (k : Nat) : Prop := 8 ≤ k ∧ 4 * (k - 8) + 4 ≤ gXt X
theorem uG.mem {X : gX} {k o : Nat} (h : uG X k) (ho : o < 4) : (k, o) ∈ gId X := List.mem_append_right _ (gLx_mem h.1 ho (by have := h.2; omega))
theorem uG.sh {X : gX} {k o : Nat} (h : uG X k) (g : Nat → Nat) : gE X k o g = gAr X (gLn o) g := gE_l (by have := h.1; omega) o g
/-- what a static method of the law leaves -/
def uP (k : Nat) (mem : gM) (z : Nat → Nat) (r : Option Value) : Option Value → gM → Prop := fun v m => v = r ∧ uF k mem m ∧ uR (m k) z
section GU
variable {p : Program} {l : Launch} {e : Env} {R : Room} {s : State} {m : MethodId} {args : Array Value} {below : List Frame} {meth : Method} {c : Code} {H : Heap} {locs : List Loc} {cells slots : Nat} {Q : State → Prop}
variable {cc : ByteArray} {pc : Nat} {ls : Array Slot} {rest : List Value} {X : gX} {own : String} {ret : Option FieldType} {nL : Nat} {mem mem0 : gM} {k : Nat} {z : Nat → Nat}
theorem u_ald (j : Nat) {o i : Nat} (C : gC X own cc ret nL p s m args meth c) (hk : uG X k) (hM : uR (mem k) z) (hR : gRep X mem H) (h : uJb j o i = true) (hdg : decode cc pc = .ok (.iaload, 1)) (kk : W p l e R s m args below meth c H locs cells slots Q (F0 m (pc + 1) ls (.int (nI (z j)) :: rest))) : W p l e R s m args below meth c H locs cells slots Q (F0 m pc ls (.int (nI i) :: .ref (gAd X k o) :: rest)) := by
  obtain ⟨h1, h2, h3, h4, h5, h6⟩ := uJ_get h
  have e : mem k o i = z j := by
    rw [← h3, ← h4]
    exact hM j h2
  refine g_iald C hR (hk.mem h6) (fun g => hk.sh g) h5 (gLn_lt o) hdg ?_
  rw [e]
  exact kk
theorem u_ast (j : Nat) {o i x : Nat} (C : gC X own cc ret nL p s m args meth c) (hk : uG X k) (hM : uR (mem k) z) (hF : uF k mem0 mem) (hR : gRep X mem H) (hS : va_S (gA X) s.heap H locs) (h : uJb j o i = true) (hdg : decode cc pc = .ok (.iastore, 1)) (kk : ∀ (mem1 : gM), uR (mem1 k) (fU z j x) → uF k mem0 mem1 → ∀ (H1 : Heap) (locs1 : List Loc), gRep X mem1 H1 → va_S (gA X) s.heap H1 locs1 → W p l e R s m args below meth c H1 locs1 cells slots Q (F0 m (pc + 1) ls rest)) : W p l e R s m args below meth c H locs cells slots Q (F0 m pc ls (.int (nI x) :: .int (nI i) :: .ref (gAd X k o) :: rest)) := by
  obtain ⟨h1, h2, h3, h4, h5, h6⟩ := uJ_get h
  refine g_iast C hR hS (hk.mem h6) (fun g => hk.sh g) h5 (gLn_lt o) hdg (fun H1 locs1 hR1 hS1 => kk _ ?_ hF.gP H1 locs1 hR1 hS1)
  rw [gP_k]
  exact uR_set x hM h
theorem g_callU {index fr2 lo2 nL2 n : Nat} {z2 : Nat → Nat} {r : Option Value} {y : MethodName} {cc2 : ByteArray} {ret2 : Option FieldType} {As st0 : List Value} (C : gC X own cc ret nL p s m args meth c) (hz : ls.size = nL) (hF : uF k mem0 mem) (hR : gRep X mem H) (hS : va_S (gA X) s.heap H locs) (md : gMs y cc2 nL2 ret2 n) (hlink : Cond.methodLink own index y ∈ wA) (hM : gMt l y cc2 nL2 ret2 fr2 lo2 X As mem (uP k mem z2 r)) (hn : As.length = n) (hst : st0 = As.reverse ++ rest) (hroom : fr2 + 1 ≤ R.frames ∧ 8 + (nL2 + 11) + lo2 ≤ R.locals) (hf : cells ≤ R.cells ∧ slots ≤ R.slots) (hw : (rest.map fun v => v.category).sum ≤ 8) (hdg : decode cc pc = .ok (.invokestatic index, 3)) (kk : ∀ (mem1 : gM), uR (mem1 k) z2 → uF k mem0 mem1 → ∀ (H1 : Heap) (locs1 : List Loc), gRep X mem1 H1 → va_S (gA X) s.heap H1 locs1 → W p l e R s m args below meth c H1 locs1 cells slots Q (F0 m (pc + 3) ls (r.toList ++ rest))) : W p l e R s m args below meth c H locs cells slots Q (F0 m pc ls st0) := g_callS C hz hR hS md hlink hM hn hst hroom hf hw hdg (fun v mem9 H1 locs1 hp hR1 hS1 => by
  obtain ⟨rfl, h1, h2⟩ := hp
  exact kk mem9 h2 (hF.tr h1) H1 locs1 hR1 hS1)
end GU
/-! the state that the class and the law's arrays hold -/
def lR (S : aS) (mem : gM) : Prop := aI S ∧ aCl S mem ∧ uR (mem 8) (aZ S)
theorem lR.ob {S : aS} {mem m9 : gM} (h : lR S mem) (hc : aCm S mem m9) : lR S m9 := ⟨h.1, hc.1, by
  rw [hc.2 8 (by decide)]
  exact h.2.2⟩
theorem aCl_hi {S : aS} {mem m9 : gM} (h : aCl S mem) (he : ∀ k, k < 8 → m9 k = mem k) : aCl S m9 := by
  obtain ⟨h1, h2, h3, h4, h5, h6⟩ := h
  refine ⟨?_, ?_, ?_, h4, ?_, ?_⟩
  · rw [he 0 (by decide)]; exact h1
  · obtain ⟨a1, a2, a3, a4, a5⟩ := h2
    unfold hHi
    rw [he 7 (by decide)]
    refine ⟨a1, a2, a3, a4, fun i hi => ?_⟩
    have := a3 i (by omega)
    rw [he _ (by omega)]
    exact a5 i hi
  · rw [he 7 (by decide)]; exact h3
  · rw [he 2 (by decide)]; exact h5
  · unfold hTx
    rw [he 7 (by decide)]
    exact h6
theorem aCl_u {S : aS} {k : Nat} {mem m9 : gM} (h : aCl S mem) (hk : 8 ≤ k) (hF : uF k mem m9) : aCl S m9 := aCl_hi h (fun k' h' => hF k' (by omega))
theorem lR.n4 {S : aS} {mem : gM} (h : lR S mem) : aN S ≤ 4 ∧ aK S < 2 := ⟨h.2.1.2.1.2.1, h.2.1.2.2.2.1⟩
end
section
/-! ===== constructors: contracts ===== -/
def kBg (X : gX) (h a : Nat) (e0 : va_E) (U : State) : Prop := U.heap.size = h ∧ a < h ∧ gSz X ≤ a ∧ va_at (gD X) vwCl (a, e0) U.heap ∧ gEnv X U U.heap ∧ va_AO RX4 U
def kFr (a h : Nat) : Nat → Prop := fun q => q = a ∨ h ≤ q
def kQ (X : gX) (a h n : Nat) (res : va_W) : Array Value → State → Outcome → State → Prop := fun _ st oc t => (oc = .returned none ∧ t.heap.size = h + n ∧ va_P (gD X) vwCl res t.heap ∧ gEnv X t t.heap) ∧ va_F (kFr a h) st t
def kMt (l : Launch) (y : MethodName) (cc : ByteArray) (nL fr lo ce sl : Nat) (X : gX) (av : List Value) (a h : Nat) (e0 : va_E) (n : Nat) (res : va_W) : Prop :=
  Met l y (.code y cc nL none :: wA) { frames := fr, cells := ce, slots := sl, locals := lo } (va_Pc (.ref a :: av) (kBg X h a e0)) (kQ X a h n res) ce sl (kFr a h)
theorem kMt.of {l : Launch} {own : String} {y : MethodName} {cc : ByteArray} {nL fr lo ce sl : Nat} {X : gX} {av : List Value} {a h n : Nat} {e0 : va_E} {res : va_W} (hy : plainName y.cls = true) (ho : y.cls = own) (hI : gInj X) (hc : ∀ v ∈ Value.ref a :: av, v.category = 1) (hn : (Value.ref a :: av).length ≤ nL)
    (body : ∀ (p : Program) (e : Env) (s : State) (m : MethodId) (args : Array Value) (below : List Frame) (meth : Method) (c : Code) (ls : Array Slot), gC X own cc none nL p s m args meth c → meth.name = y.name → gL ls ((Value.ref a :: av).map some ++ List.replicate (nL - (Value.ref a :: av).length) none) → s.heap.size = h → a < h → gSz X ≤ a → va_at (gD X) vwCl (a, e0) s.heap → va_AO RX4 s →
      W p l e { frames := fr, cells := ce, slots := sl, locals := lo } s m args below meth c s.heap [] 0 0 (MQ below (kQ X a h n res) args s ce sl (kFr a h)) (F0 m 0 ls [])) : kMt l y cc nL fr lo ce sl X av a h e0 n res := by
  refine Met.ofW (cc := cc) (maxL := nL) (ret := none) hy rfl ?_
  intro p e s m args below meth c s₁ B hml hv
  obtain ⟨rfl, h1, h2, h3, h4, hE, hO⟩ := hv
  have hts := atoms_spec (ws := Cond.code y cc nL none :: wA) B.pre
  rw [lg_entry_eq]
  exact body p e s m _ below meth c _ ⟨B.exec, B.bytes, B.returns, hml, by rw [← ho]; exact findClass_of_methodNamed B.named, fun w hw => hts w (List.mem_cons_of_mem _ hw), B.notSynchronized, hI, hE⟩ (name_of_methodNamed B.named B.method).1 (gL.entry _ nL hc hn) h1 h2 h3 h4 hO
section GK
variable {p : Program} {l : Launch} {e : Env} {R : Room} {s : State} {m : MethodId} {args : Array Value} {below : List Frame} {meth : Method} {c : Code} {H : Heap} {locs : List Loc} {cells slots : Nat} {Q : State → Prop}
variable {cc : ByteArray} {pc : Nat} {ls : Array Slot} {rest : List Value} {X : gX} {own : String} {ret : Option FieldType} {nL : Nat}
theorem k_env {H1 : Heap} {t : State} {locs1 : List Loc} {a h : Nat} (C : gC X own cc ret nL p s m args meth c) (hz : s.heap.size = h) (hah : a < h) (ha : gSz X ≤ a) (hS : va_S (kFr a h) s.heap H1 locs1) (ht : t.heap = H1) (hW : s.WarmedH t.vm) : gEnv X t t.heap := by
  obtain ⟨-, -, -, -, -, -, -, -, hE⟩ := C
  rw [ht]
  refine hE.to hW hS.1 (fun q h1 h2 => hS.2.1 q h1 ?_)
  have h3 : ¬ gSz X ≤ q := h2
  unfold kFr
  omega
theorem k_vret {R0 : Room} {a h n ce sl : Nat} {res : va_W} (C : gC X own cc none nL p s m args meth c) (hz : s.heap.size = h) (hah : a < h) (ha : gSz X ≤ a) (hP : va_P (gD X) vwCl res H) (hS : va_S (kFr a h) s.heap H locs) (hn : H.size = h + n) (hdg : decode cc pc = .ok (.return_, 1)) : W p l e R0 s m args below meth c H locs ce sl (MQ below (kQ X a h n res) args s ce sl (kFr a h)) (F0 m pc ls []) := by
  have C' := C
  obtain ⟨hx, hb, hr, -, -, -, hlocks, -, -⟩ := C
  exact W.vret hx hb hr (fun t ht hW => ⟨⟨rfl, by rw [ht]; exact hn, by rw [ht]; exact hP, k_env C' hz hah ha hS ht hW⟩, hS.F ht⟩) hS.2.2 hdg hlocks
theorem k_obj {index x : Nat} (C : gC X own cc ret nL p s m args meth c) (hl : ls.size = nL) (hlink : Cond.methodLink own index objectInit ∈ wA) (hfr : 1 ≤ R.frames) (hlo : 24 ≤ R.locals) (hdg : decode cc pc = .ok (.invokespecial index, 3)) (kk : W p l e R s m args below meth c H locs cells slots Q (F0 m (pc + 3) ls [])) : W p l e R s m args below meth c H locs cells slots Q (F0 m pc ls [.ref x]) := by
  obtain ⟨hx, hb, -, hml, hown, hA, -, -, hE⟩ := C
  refine W.objInit hx hb hown (hA _ hlink) (hA _ im_obj) (hA _ co_obj) rfl (by rw [hml]; exact hl) rfl hdg hfr (Nat.le_trans (Nat.le_of_ble_eq_true rfl) hlo) kk
theorem k_size {g : JFrame} (kk : H.size ≤ s.heap.size + cells → W p l e R s m args below meth c H locs cells slots Q g) : W p l e R s m args below meth c H locs cells slots Q g := fun T hT Y => kk (by rw [← hT]; exact Y.heapSize) T hT Y
end GK
set_option maxRecDepth 100000 in
set_option maxHeartbeats 4000000 in
/-- Row's constructor -/
theorem k_X5_init (l : Launch) {X : gX} (hI : gInj X) {a h n : Nat} (hn : n ≤ 1000) : kMt l yX5_init cX5_init 2 1 24 1 n X [.int (nI n)] a h (.inr (5, [.null])) 1 [(a, .inr (5, [.ref h])), (h, gAr X n (fun _ => 0))] := by
  refine kMt.of (own := RX5) (by decide) rfl hI (by simp [Value.category]) (Nat.le_of_ble_eq_true rfl) ?_
  intro p e s m args below meth c ls C hnm hl hz hah ha hat hO
  refine g_aload_n C hl dX5_init_0 rfl ?_
  refine k_obj C hl.1 ml_X5_1 (Nat.le_of_ble_eq_true rfl) (Nat.le_of_ble_eq_true rfl) dX5_init_1 ?_
  refine g_aload_n C hl dX5_init_4 rfl ?_
  refine g_iload_n C hl dX5_init_5 rfl ?_
  refine g_iconst 0 C dX5_init_6 (by decide) ?_
  have hmx : (if nI n < nI 0 then nI 0 else nI n) = nI n := if_neg (fun z => by have := (nI_ltI (by omega) (by decide)).mp z; omega)
  refine va_mmax C.1 C.2.1 (C.2.2.2.1.trans hl.1.symm) C.2.2.2.2.1 (C.2.2.2.2.2.1 _ ml_X5_7) (C.2.2.2.2.2.1 _ st_max) (C.2.2.2.2.2.1 _ in_J9) (C.2.2.2.2.2.1 _ co_max) (Nat.le_of_ble_eq_true rfl) (Nat.le_of_ble_eq_true rfl) (Nat.zero_le _) (Nat.zero_le _) dX5_init_7 ?_
  rw [hmx]
  have hE := C.2.2.2.2.2.2.2.2
  have hty := hE.1.2 0 _ rfl
  refine va_newaK (atype := .int) C.1 C.2.1 (C.2.2.2.2.2.1 _ ac_int) rfl dX5_init_10 rfl (nI_pos (by omega)) (nI_clamp (by omega)) (by show n * 4 ≤ 536870912; omega) (by show 0 + 1 ≤ 1; decide) (by show 0 + n ≤ n; omega) hz (fun H1 cA e1 z1 o1 hAr hNm => ?_)
  have ecA : cA = gCl X 0 := Option.some.inj (hNm.symm.trans hty.2)
  subst ecA
  have P0 : va_P (gD X) vwCl [(a, .inr (5, [.null]))] s.heap := by
    intro k q hq
    have hk : k < 1 := (List.getElem?_eq_some_iff.mp hq).1
    obtain rfl : k = 0 := by omega
    cases hq
    exact hat
  have P1 : va_P (gD X) vwCl ([(a, .inr (5, [.null]))] ++ [(h, gAr X n (fun _ => 0))]) H1 := by
    refine (P0.kept (fun k x hx => ?_)).app (fun k q hq => ?_)
    · have hk : k < 1 := (List.getElem?_eq_some_iff.mp hx).1
      obtain rfl : k = 0 := by omega
      cases hx
      exact o1 a hah
    · have hk : k < 1 := (List.getElem?_eq_some_iff.mp hq).1
      obtain rfl : k = 0 := by omega
      cases hq
      show H1[h]? = some (vp_cell (gCl X 0) (n, .inl (fun _ => nI 0)))
      rw [e1, vp_cell_i]
      rfl
  have D1 : va_D (kFr a h) ([(a, .inr (5, [.null]))] ++ [(h, gAr X n (fun _ => 0))]) := by
    refine ⟨fun i j p q hi hj e => ?_, fun k q hq => ?_⟩
    · have h1 : i < 2 := (List.getElem?_eq_some_iff.mp hi).1
      have h2 : j < 2 := (List.getElem?_eq_some_iff.mp hj).1
      rcases (show i = 0 ∨ i = 1 by omega) with rfl | rfl <;> rcases (show j = 0 ∨ j = 1 by omega) with rfl | rfl <;> cases hi <;> cases hj <;> first | rfl | (exact absurd e (by show ¬ _ = _; omega))
    · have h1 : k < 2 := (List.getElem?_eq_some_iff.mp hq).1
      rcases (show k = 0 ∨ k = 1 by omega) with rfl | rfl <;> cases hq
      · exact Or.inl rfl
      · exact Or.inr (Nat.le_refl _)
  have S1 : va_S (kFr a h) s.heap H1 [] := ⟨by omega, fun q h1 _ => o1 q (by omega), fun _ h => by cases h⟩
  refine va_putF (D := gD X) (ci := 5) (v := .ref h) (ty := .array .int) (C := RX5) (T := TX5) (N := 1) C.1 C.2.1 C.2.2.2.2.2.1 ilX5 tyX5 tyX5_ok nmX5 C.2.2.2.2.1 hE.1 P1 D1 S1 0 rfl rfl 0 (by decide) (C.2.2.2.2.2.1 _ fl_X5_13) (fun _ h9 => h9) rfl hnm rfl (by decide +kernel) rfl rfl (Nat.le_of_ble_eq_true rfl) dX5_init_12 (fun H locs hP hD hS => ?_)
  refine k_size (fun hsz0 => ?_)
  have hat2 := hP 1 (h, gAr X n (fun _ => 0)) rfl
  have hlt : h < H.size := (Array.getElem?_eq_some_iff.mp (show H[h]? = some (vp_cell (gCl X 0) (n, .inl (fun _ => nI 0))) from hat2)).1
  have hsz : H.size = h + 1 := by omega
  show W p l e _ s m args below meth c H locs 1 (0 + n) _ (F0 m 15 ls [])
  rw [Nat.zero_add n]
  exact k_vret C hz hah ha hP hS hsz dX5_init_15
end
section
/-! ===== constructors: a new object ===== -/
section GN
variable {p : Program} {l : Launch} {e : Env} {R : Room} {s : State} {m : MethodId} {args : Array Value} {below : List Frame} {meth : Method} {c : Code} {H : Heap} {locs : List Loc} {cells slots : Nat} {Q : State → Prop}
variable {cc : ByteArray} {pc : Nat} {ls : Array Slot} {rest : List Value} {X : gX} {own : String} {ret : Option FieldType} {nL : Nat}
theorem k_new {A : Nat → Prop} {Cn : String} {T : u_T} {N ci index : Nat} {fs : List Value} (ty : Nat → FieldType) (C : gC X own cc ret nL p s m args meth c) (hty : ∀ k, k < N → parseFieldDescriptor (T k).2.2.1 = some (ty k)) (hin : ∀ w ∈ u_ws Cn T N, w ∈ wA) (hcl : Cond.classLink own index Cn ∈ wA) (hinst : Cond.instantiable Cn N ∈ wA) (hini : Cond.initialized Cn ∈ wA) (hS : va_S A s.heap H locs) (hc : vwCl[ci]? = some (Cn, T, N)) (hfs : ∀ j, j < N → defaultValue (ty j) = vp_V fs j) (hcells : cells + 1 ≤ R.cells) (hslots : slots + N ≤ R.slots) (hdg : decode cc pc = .ok (.new index, 3))
    (kk : ∀ H1 : Heap, va_at (gD X) vwCl (H.size, .inr (ci, fs)) H1 → H1.size = H.size + 1 → (∀ q, q < H.size → H1[q]? = H[q]?) → va_S A s.heap H1 locs → W p l e R s m args below meth c H1 locs (cells + 1) (slots + N) Q (F0 m (pc + 3) ls (.ref H.size :: rest))) : W p l e R s m args below meth c H locs cells slots Q (F0 m pc ls rest) := by
  obtain ⟨hx, hb, -, -, hown, hA, -, -, hE⟩ := C
  have hKn := hE.1.1 ci _ hc
  refine W.newcK hx hb hown (hA _ hcl) (hA _ hinst) (hA _ hini) rfl hdg hcells hslots hKn.2.1 rfl fun H1 kC hkC e1 z1 o1 => ?_
  exact kk H1 ⟨_, hc, (u_born ty hA hin hKn hkC e1 hty).to hfs⟩ z1 o1 ⟨Nat.le_trans hS.1 (by omega), fun x h1 h2 => (o1 x (Nat.lt_of_lt_of_le h1 hS.1)).trans (hS.2.1 x h1 h2), hS.2.2⟩
theorem kBg_blind {av : List Value} {a h : Nat} {e0 : va_E} : FrameBlind (va_Pc av (kBg X h a e0)) := fun _ U _ _ q => ⟨q.1, q.2.1, q.2.2.1, q.2.2.2.1, q.2.2.2.2.1, q.2.2.2.2.2.1.to (State.WarmedH.refl U) (Nat.le_refl _) (fun _ _ _ => rfl), va_AO.moved (State.WarmedH.refl U).alike q.2.2.2.2.2.2⟩
theorem k_callI {A : Nat → Prop} {index fr2 lo2 ce2 sl2 nL2 n k2 a2 : Nat} {y : MethodName} {cc2 : ByteArray} {As st0 : List Value} {e0 : va_E} {res : va_W} (C : gC X own cc ret nL p s m args meth c) (hz : ls.size = nL) (hO : va_AO RX4 s) (hS : va_S A s.heap H locs) (hAg : ∀ q, A q → gSz X ≤ q) (hAf : ∀ q, kFr a2 H.size q → A q) (ha : gSz X ≤ a2) (hat : va_at (gD X) vwCl (a2, e0) H) (haH : a2 < H.size) (i1 : Cond.instanceMethod y ∈ wA) (i3 : Cond.code y cc2 nL2 none ∈ wA) (i4 : Cond.initialized y.cls ∈ wA) (i5 : y.cls ≠ "java/lang/invoke/MethodHandle" ∧ y.cls ≠ "java/lang/invoke/VarHandle" ∧ (parseMethodDescriptor y.desc).map (fun d => d.parameters.length) = some n) (hin : y.name = "<init>") (hlink : Cond.methodLink own index y ∈ wA) (hM : kMt l y cc2 nL2 fr2 lo2 ce2 sl2 X As a2 H.size e0 k2 res) (hn : As.length = n) (hst : st0 = As.reverse ++ .ref a2 :: rest) (hroom : fr2 + 1 ≤ R.frames ∧ 8 + (nL2 + 11) + lo2 ≤ R.locals) (hf : cells + ce2 ≤ R.cells ∧ slots + sl2 ≤ R.slots) (hw : (rest.map fun v => v.category).sum ≤ 8) (hdg : decode cc pc = .ok (.invokespecial index, 3))
    (kk : ∀ (H1 : Heap) (locs1 : List Loc), H1.size = H.size + k2 → va_P (gD X) vwCl res H1 → (∀ q, q < H.size → ¬ q = a2 → H1[q]? = H[q]?) → va_S A s.heap H1 locs1 → W p l e R s m args below meth c H1 locs1 (cells + ce2) (slots + sl2) Q (F0 m (pc + 3) ls rest)) : W p l e R s m args below meth c H locs cells slots Q (F0 m pc ls st0) := by
  obtain ⟨hx, hb, -, hml, hown, hA, -, -, hE⟩ := C
  have cb := callB_of (R := R) (rm := { frames := fr2, cells := ce2, slots := sl2, locals := lo2 }) (mc := ce2) (ms := sl2) n hA (g_good i3) rfl rfl rfl (hA _ i4) (hA _ hlink) i5 hroom
  have hr : va_Run p l e R s m args below meth c H locs cells slots ce2 sl2 (F0 m pc ls st0) rest (kQ X a2 H.size k2 res (Value.ref a2 :: As).toArray) (kFr a2 H.size) := va_runI (rest := rest) (g := F0 m pc ls st0) ⟨hx, hb, hml, hown, hA⟩ hM ⟨cb, hin, hA _ i1⟩ ⟨kBg_blind, fun U hU hW => ⟨rfl, by rw [hU], haH, ha, by rw [hU]; exact hat, by rw [hU]; exact hE.to hW hS.1 (fun q h1 h2 => hS.2.1 q h1 (fun h3 => h2 (hAg q h3))), va_AO.moved hW.alike hO⟩⟩ rfl hn hz hst (lv_room hw) hdg hf
  intro T hT X9
  obtain ⟨v, st₀, t, T', L, h0, X', hL, e1, e2, ⟨⟨hv, hsz, hP, hE2⟩, hz2, hk⟩, st⟩ := hr T hT X9
  cases hv
  rw [h0] at hz2 hk
  obtain ⟨t2, a1, b1⟩ := kk T'.heap (locs ++ L) (by rw [e1]; exact hsz) (by rw [e1]; exact hP) (fun q h1 h2 => by
      rw [e1]
      exact hk q h1 (fun h3 => by
        rcases h3 with h3 | h3
        · exact h2 h3
        · omega))
    ⟨Nat.le_trans hS.1 (by rw [e1]; exact hz2), fun q h1 h2 => by rw [e1, hk q (Nat.lt_of_lt_of_le h1 hS.1) (fun h3 => h2 (hAf q h3))]; exact hS.2.1 q h1 h2, fun q hq => by
      rcases List.mem_append.mp hq with h | h
      · exact hS.2.2 q h
      · exact hAf _ (hL q h)⟩ T' rfl X'
  exact ⟨t2, st t2 a1, b1⟩
theorem k_callIN {A : Nat → Prop} {index fr2 lo2 ce2 sl2 nL2 n k2 a2 : Nat} {y : MethodName} {cc2 : ByteArray} {As st0 : List Value} {host : String} {e0 : va_E} {res : va_W} (C : gC X own cc ret nL p s m args meth c) (hz : ls.size = nL) (hO : va_AO RX4 s) (hS : va_S A s.heap H locs) (hAg : ∀ q, A q → gSz X ≤ q) (hAf : ∀ q, kFr a2 H.size q → A q) (ha : gSz X ≤ a2) (hat : va_at (gD X) vwCl (a2, e0) H) (haH : a2 < H.size) (i1 : Cond.instanceMethod y ∈ wA) (i3 : Cond.code y cc2 nL2 none ∈ wA) (i4 : Cond.initialized y.cls ∈ wA) (i5 : y.cls ≠ "java/lang/invoke/MethodHandle" ∧ y.cls ≠ "java/lang/invoke/VarHandle" ∧ (parseMethodDescriptor y.desc).map (fun d => d.parameters.length) = some n) (hin : y.name = "<init>") (hlink : (own, index, y, host) ∈ gNm) (hM : kMt l y cc2 nL2 fr2 lo2 ce2 sl2 X As a2 H.size e0 k2 res) (hn : As.length = n) (hst : st0 = As.reverse ++ .ref a2 :: rest) (hroom : fr2 + 1 ≤ R.frames ∧ 8 + (nL2 + 11) + lo2 ≤ R.locals) (hf : cells + ce2 ≤ R.cells ∧ slots + sl2 ≤ R.slots) (hw : (rest.map fun v => v.category).sum ≤ 8) (hdg : decode cc pc = .ok (.invokespecial index, 3))
    (kk : ∀ (H1 : Heap) (locs1 : List Loc), H1.size = H.size + k2 → va_P (gD X) vwCl res H1 → (∀ q, q < H.size → ¬ q = a2 → H1[q]? = H[q]?) → va_S A s.heap H1 locs1 → W p l e R s m args below meth c H1 locs1 (cells + ce2) (slots + sl2) Q (F0 m (pc + 3) ls rest)) : W p l e R s m args below meth c H locs cells slots Q (F0 m pc ls st0) := by
  obtain ⟨hx, hb, -, hml, hown, hA, -, -, hE⟩ := C
  have cb := va_cnB (R := R) (rm := { frames := fr2, cells := ce2, slots := sl2, locals := lo2 }) (mc := ce2) (ms := sl2) n hA (g_good i3) rfl rfl rfl (hE.2.1.2 _ hlink) (hA _ i4) i5 hroom
  have hr : va_Run p l e R s m args below meth c H locs cells slots ce2 sl2 (F0 m pc ls st0) rest (kQ X a2 H.size k2 res (Value.ref a2 :: As).toArray) (kFr a2 H.size) := va_runIN (rest := rest) (g := F0 m pc ls st0) ⟨hx, hb, hml, hown, hA⟩ hM ⟨cb, hin, hA _ i1⟩ ⟨kBg_blind, fun U hU hW => ⟨rfl, by rw [hU], haH, ha, by rw [hU]; exact hat, by rw [hU]; exact hE.to hW hS.1 (fun q h1 h2 => hS.2.1 q h1 (fun h3 => h2 (hAg q h3))), va_AO.moved hW.alike hO⟩⟩ rfl hn hz hst (lv_room hw) hdg hf
  intro T hT X9
  obtain ⟨v, st₀, t, T', L, h0, X', hL, e1, e2, ⟨⟨hv, hsz, hP, hE2⟩, hz2, hk⟩, st⟩ := hr T hT X9
  cases hv
  rw [h0] at hz2 hk
  obtain ⟨t2, a1, b1⟩ := kk T'.heap (locs ++ L) (by rw [e1]; exact hsz) (by rw [e1]; exact hP) (fun q h1 h2 => by
      rw [e1]
      exact hk q h1 (fun h3 => by
        rcases h3 with h3 | h3
        · exact h2 h3
        · omega))
    ⟨Nat.le_trans hS.1 (by rw [e1]; exact hz2), fun q h1 h2 => by rw [e1, hk q (Nat.lt_of_lt_of_le h1 hS.1) (fun h3 => h2 (hAf q h3))]; exact hS.2.1 q h1 h2, fun q hq => by
      rcases List.mem_append.mp hq with h | h
      · exact hS.2.2 q h
      · exact hAf _ (hL q h)⟩ T' rfl X'
  exact ⟨t2, st t2 a1, b1⟩
end GN
end
section
/-! ===== constructors: worlds out of cells ===== -/
theorem kP_nil {D : va_G} {H : Heap} : va_P D vwCl [] H := fun k q hq => by cases hq
theorem kP_cons {D : va_G} {H : Heap} {x : Nat × va_E} {ws : va_W} (hx : va_at D vwCl x H) (h : va_P D vwCl ws H) : va_P D vwCl (x :: ws) H := fun k q hq => by
  cases k with
  | zero => cases hq; exact hx
  | succ k => exact h k q hq
theorem kP_hd {D : va_G} {H : Heap} {x : Nat × va_E} {ws : va_W} (h : va_P D vwCl (x :: ws) H) : va_at D vwCl x H := h 0 x rfl
theorem kP_tl {D : va_G} {H : Heap} {x : Nat × va_E} {ws : va_W} (h : va_P D vwCl (x :: ws) H) : va_P D vwCl ws H := fun k q hq => h (k + 1) q hq
theorem kP_app {D : va_G} {H : Heap} {w1 w2 : va_W} (h1 : va_P D vwCl w1 H) (h2 : va_P D vwCl w2 H) : va_P D vwCl (w1 ++ w2) H := fun k q hq => by
  by_cases e : k < w1.length
  · rw [List.getElem?_append_left e] at hq; exact h1 k q hq
  · rw [List.getElem?_append_right (by omega)] at hq; exact h2 _ q hq
theorem kP_keep {D : va_G} {H H1 : Heap} {ws : va_W} (h : va_P D vwCl ws H) (hk : ∀ x ∈ ws, H1[x.1]? = H[x.1]?) : va_P D vwCl ws H1 := h.kept (fun _ x hx => hk x (List.mem_of_getElem? hx))
theorem kD_nil {A : Nat → Prop} : va_D A [] := ⟨fun i j p q hi => (by cases hi), fun k q hq => (by cases hq)⟩
theorem kD_cons {A : Nat → Prop} {x : Nat × va_E} {ws : va_W} (h : va_D A ws) (ha : A x.1) (hd : ∀ z ∈ ws, ¬ z.1 = x.1) : va_D A (x :: ws) := by
  refine ⟨fun i j p q hi hj e => ?_, fun k q hq => ?_⟩
  · cases i with
    | zero =>
      cases j with
      | zero => rfl
      | succ j =>
        cases hi
        exact absurd e.symm (hd q (List.mem_of_getElem? (i := j) hj))
    | succ i =>
      cases j with
      | zero =>
        cases hj
        exact absurd e (hd p (List.mem_of_getElem? (i := i) hi))
      | succ j => rw [h.1 i j p q hi hj e]
  · cases k with
    | zero => cases hq; exact ha
    | succ k => exact h.2 k q hq
end
section
/-! ===== constructors: cells in a row ===== -/
def kCs : Nat → List va_E → va_W
  | _, [] => []
  | a, e :: es => (a, e) :: kCs (a + 1) es
theorem kCs_get (es : List va_E) : ∀ (a i : Nat), (kCs a es)[i]? = (es[i]?).map (fun e => (a + i, e)) := by
  induction es with
  | nil => intro a i; rfl
  | cons e es ih =>
    intro a i
    cases i with
    | zero => rfl
    | succ i =>
      show (kCs (a + 1) es)[i]? = (es[i]?).map (fun e => (a + (i + 1), e))
      rw [ih (a + 1) i, show a + 1 + i = a + (i + 1) by omega]
theorem kCs_at {es : List va_E} {a i : Nat} {q : Nat × va_E} (h : (kCs a es)[i]? = some q) : i < es.length ∧ q.1 = a + i ∧ es[i]? = some q.2 := by
  rw [kCs_get] at h
  obtain ⟨e, he, hq⟩ := Option.map_eq_some_iff.mp h
  subst hq
  exact ⟨(List.getElem?_eq_some_iff.mp he).1, rfl, he⟩
theorem kCs_app (es fs : List va_E) : ∀ a : Nat, kCs a (es ++ fs) = kCs a es ++ kCs (a + es.length) fs := by
  induction es with
  | nil => intro a; rfl
  | cons e es ih =>
    intro a
    show (a, e) :: kCs (a + 1) (es ++ fs) = (a, e) :: (kCs (a + 1) es ++ kCs (a + (es.length + 1)) fs)
    rw [ih (a + 1), show a + 1 + es.length = a + (es.length + 1) by omega]
theorem kCs_set (es : List va_E) : ∀ (a i : Nat) (e : va_E), (kCs a es).set i (a + i, e) = kCs a (es.set i e) := by
  induction es with
  | nil => intro a i e; rfl
  | cons x es ih =>
    intro a i e
    cases i with
    | zero => rfl
    | succ i =>
      show (a, x) :: (kCs (a + 1) es).set i (a + (i + 1), e) = (a, x) :: kCs (a + 1) (es.set i e)
      rw [show a + (i + 1) = a + 1 + i by omega, ih]
theorem kCs_D {A : Nat → Prop} {a : Nat} {es : List va_E} (h : ∀ q, a ≤ q → A q) : va_D A (kCs a es) := by
  refine ⟨fun i j p q hi hj e => ?_, fun k q hq => ?_⟩
  · have h1 := (kCs_at hi).2.1
    have h2 := (kCs_at hj).2.1
    omega
  · exact h _ (by have := (kCs_at hq).2.1; omega)
theorem kCs_last {D : va_G} {H : Heap} {a : Nat} {es : List va_E} (hP : va_P D vwCl (kCs a es) H) (hne : 0 < es.length) : a + es.length ≤ H.size := by
  have hlt : es.length - 1 < es.length := by omega
  have h1 : (kCs a es)[es.length - 1]? = some (a + (es.length - 1), es[es.length - 1]) := by
    rw [kCs_get, List.getElem?_eq_getElem hlt]
    rfl
  have h2 : a + (es.length - 1) < H.size := (hP _ _ h1).lt
  omega
theorem kP_lt {D : va_G} {H : Heap} {ws : va_W} (hP : va_P D vwCl ws H) {x : Nat × va_E} (hx : x ∈ ws) : x.1 < H.size := by
  obtain ⟨k, hk⟩ := List.getElem?_of_mem hx
  exact (hP k x hk).lt
/-- where a constructor stands: the cells made so far lie in a row from a on, the heap ends behind them -/
def kSt (X : gX) (A : Nat → Prop) (s : State) (a : Nat) (es : List va_E) (H : Heap) (locs : List Loc) (cells : Nat) : Prop := va_P (gD X) vwCl (kCs a es) H ∧ H.size = a + es.length ∧ va_S A s.heap H locs ∧ s.heap.size + cells = a + es.length ∧ (∀ q, a ≤ q → A q) ∧ gSz X ≤ a ∧ ∀ q, A q → gSz X ≤ q
def kC (l : Launch) (y : MethodName) (cc : ByteArray) (nL fr lo ce sl : Nat) (X : gX) (av : List Value) (a : Nat) (e0 : va_E) (res : List va_E) : Prop := kMt l y cc nL fr lo ce sl X av a (a + 1) e0 ce (kCs a res)
theorem kC.of {l : Launch} {own : String} {y : MethodName} {cc : ByteArray} {nL fr lo ce sl : Nat} {X : gX} {av : List Value} {a : Nat} {e0 : va_E} {res : List va_E} (hy : plainName y.cls = true) (ho : y.cls = own) (hI : gInj X) (hc : ∀ v ∈ Value.ref a :: av, v.category = 1) (hn : (Value.ref a :: av).length ≤ nL)
    (body : ∀ (p : Program) (e : Env) (s : State) (m : MethodId) (args : Array Value) (below : List Frame) (meth : Method) (c : Code) (ls : Array Slot), gC X own cc none nL p s m args meth c → meth.name = y.name → gL ls ((Value.ref a :: av).map some ++ List.replicate (nL - (Value.ref a :: av).length) none) → va_AO RX4 s → s.heap.size = a + 1 → kSt X (kFr a (a + 1)) s a [e0] s.heap [] 0 →
      W p l e { frames := fr, cells := ce, slots := sl, locals := lo } s m args below meth c s.heap [] 0 0 (MQ below (kQ X a (a + 1) ce (kCs a res)) args s ce sl (kFr a (a + 1))) (F0 m 0 ls [])) : kC l y cc nL fr lo ce sl X av a e0 res := by
  refine kMt.of hy ho hI hc hn ?_
  intro p e s m args below meth c ls C hnm hl hz hah ha hat hO
  refine body p e s m args below meth c ls C hnm hl hO hz ⟨kP_cons hat kP_nil, hz, va_S.rf, hz, fun q hq => ?_, ha, fun q hq => ?_⟩
  · unfold kFr
    omega
  · unfold kFr at hq
    omega
section GK2
variable {p : Program} {l : Launch} {e : Env} {R : Room} {s : State} {m : MethodId} {args : Array Value} {below : List Frame} {meth : Method} {c : Code} {H : Heap} {locs : List Loc} {cells slots : Nat} {Q : State → Prop}
variable {cc : ByteArray} {pc : Nat} {ls : Array Slot} {rest : List Value} {X : gX} {own : String} {ret : Option FieldType} {nL : Nat} {A : Nat → Prop} {a : Nat} {es : List va_E}
theorem kk_ret {R0 : Room} {ce sl : Nat} (C : gC X own cc none nL p s m args meth c) (hz : s.heap.size = a + 1) (hB : kSt X (kFr a (a + 1)) s a es H locs ce) (hdg : decode cc pc = .ok (.return_, 1)) : W p l e R0 s m args below meth c H locs ce sl (MQ below (kQ X a (a + 1) ce (kCs a es)) args s ce sl (kFr a (a + 1))) (F0 m pc ls []) := by
  obtain ⟨hP, hsz, hS, hce, -, hg, -⟩ := hB
  exact k_vret C hz (by omega) hg hP hS (by omega) hdg
theorem kk_new {Cn : String} {T : u_T} {N ci index n : Nat} {fs : List Value} (ty : Nat → FieldType) (C : gC X own cc ret nL p s m args meth c) (hB : kSt X A s a es H locs cells) (hn : es.length = n) (hty : ∀ k, k < N → parseFieldDescriptor (T k).2.2.1 = some (ty k)) (hin : ∀ w ∈ u_ws Cn T N, w ∈ wA) (hcl : Cond.classLink own index Cn ∈ wA) (hinst : Cond.instantiable Cn N ∈ wA) (hini : Cond.initialized Cn ∈ wA) (hc : vwCl[ci]? = some (Cn, T, N)) (hfs : ∀ j, j < N → defaultValue (ty j) = vp_V fs j) (hcells : cells + 1 ≤ R.cells) (hslots : slots + N ≤ R.slots) (hdg : decode cc pc = .ok (.new index, 3))
    (kk : ∀ H1 : Heap, kSt X A s a (es ++ [.inr (ci, fs)]) H1 locs (cells + 1) → W p l e R s m args below meth c H1 locs (cells + 1) (slots + N) Q (F0 m (pc + 3) ls (.ref (a + n) :: rest))) : W p l e R s m args below meth c H locs cells slots Q (F0 m pc ls rest) := by
  obtain ⟨hP, hz, hS, hce, hA1, hg, hA2⟩ := hB
  have e1 : H.size = a + n := by rw [hz, hn]
  refine k_new ty C hty hin hcl hinst hini hS hc hfs hcells hslots hdg (fun H1 hat hsz ho hS1 => ?_)
  rw [e1] at hat
  rw [e1]
  refine kk H1 ⟨?_, ?_, hS1, ?_, hA1, hg, hA2⟩
  · rw [kCs_app, hn]
    exact kP_app (kP_keep hP (fun x hx => ho x.1 (kP_lt hP hx))) (kP_cons hat kP_nil)
  · simp only [List.length_append, List.length_cons, List.length_nil]
    omega
  · simp only [List.length_append, List.length_cons, List.length_nil]
    omega
theorem kk_put {Cn ref : String} {T : u_T} {N ci index i ax : Nat} {fs : List Value} {v : Value} {ty0 : Nat → FieldType} {ty : FieldType} (k : Nat) (C : gC X own cc ret nL p s m args meth c) (hnm : meth.name = "<init>") (hB : kSt X A s a es H locs cells) (hi : es[i]? = some (.inr (ci, fs))) (hc : vwCl[ci]? = some (Cn, T, N)) (hin : ∀ w ∈ u_ws Cn T N, w ∈ wA) (hty : ∀ k, k < N → parseFieldDescriptor (T k).2.2.1 = some (ty0 k)) (hnmT : ∀ a, a < N → ∀ b, b < N → a ≠ b → (T a).2.1 ≠ (T b).2.1) (hk : k < N) (hlink : Cond.fieldLink own index ref (T k).2.1 (T k).2.2.1 ∈ wA) (hsame : (T k).1 = ref) (hfin : (T k).2.2.2 = true) (hdecl : (T k).1 = own) (hd : parseFieldDescriptor (T k).2.2.1 = some ty) (hn : narrow ty v = v) (hfit : fits ty v = true) (hl : k < fs.length) (hax : ax = a + i) (hdg : decode cc pc = .ok (.putfield index, 3))
    (kk : ∀ (H1 : Heap) (locs1 : List Loc), kSt X A s a (es.set i (.inr (ci, fs.set k v))) H1 locs1 cells → W p l e R s m args below meth c H1 locs1 cells slots Q (F0 m (pc + 3) ls rest)) : W p l e R s m args below meth c H locs cells slots Q (F0 m pc ls (v :: .ref ax :: rest)) := by
  obtain ⟨hP, hz, hS, hce, hA1, hg, hA2⟩ := hB
  subst hax
  have hE := C.2.2.2.2.2.2.2.2
  have hlt := (List.getElem?_eq_some_iff.mp hi).1
  have he : (kCs a es)[i]? = some (a + i, .inr (ci, fs)) := by
    rw [kCs_get, hi]
    rfl
  refine va_putF (D := gD X) (ci := ci) (v := v) C.1 C.2.1 C.2.2.2.2.2.1 hin ty0 hty hnmT C.2.2.2.2.1 hE.1 hP (kCs_D hA1) hS i he hc k hk (C.2.2.2.2.2.1 _ hlink) (fun x h9 => by rw [← hsame]; exact h9) hfin hnm hdecl hd hn hfit hl hdg (fun H1 locs1 hP1 hD1 hS1 => ?_)
  rw [kCs_set] at hP1
  refine k_size (fun hsz => ?_)
  have hl2 := kCs_last hP1 (by rw [List.length_set]; omega)
  rw [List.length_set] at hl2
  exact kk H1 locs1 ⟨hP1, by rw [List.length_set]; omega, hS1, by rw [List.length_set]; exact hce, hA1, hg, hA2⟩
theorem kk_get {Cn ref : String} {T : u_T} {N ci index i ax : Nat} {fs : List Value} {v : Value} (k : Nat) (C : gC X own cc ret nL p s m args meth c) (hB : kSt X A s a es H locs cells) (hi : es[i]? = some (.inr (ci, fs))) (hc : vwCl[ci]? = some (Cn, T, N)) (hin : ∀ w ∈ u_ws Cn T N, w ∈ wA) (hk : k < N) (hlink : Cond.fieldLink own index ref (T k).2.1 (T k).2.2.1 ∈ wA) (hsame : (T k).1 = ref) (hv : fs[k]? = some v) (hax : ax = a + i) (hdg : decode cc pc = .ok (.getfield index, 3))
    (kk : W p l e R s m args below meth c H locs cells slots Q (F0 m (pc + 3) ls (v :: rest))) : W p l e R s m args below meth c H locs cells slots Q (F0 m pc ls (.ref ax :: rest)) := by
  subst hax
  have he : (kCs a es)[i]? = some (a + i, .inr (ci, fs)) := by
    rw [kCs_get, hi]
    rfl
  exact va_get C.1 C.2.1 C.2.2.2.2.2.1 hin C.2.2.2.2.1 C.2.2.2.2.2.2.2.2.1 hB.1 i he hc k hk (C.2.2.2.2.2.1 _ hlink) (fun x h9 => by rw [← hsame]; exact h9) hv hdg kk
theorem kk_newi {n k : Nat} (C : gC X own cc ret nL p s m args meth c) (hB : kSt X A s a es H locs cells) (hn : es.length = n) (hk : k < 100000) (hcells : cells + 1 ≤ R.cells) (hslots : slots + k ≤ R.slots) (hdg : decode cc pc = .ok (.newarray .int, 2))
    (kk : ∀ H1 : Heap, kSt X A s a (es ++ [gAr X k (fun _ => 0)]) H1 locs (cells + 1) → W p l e R s m args below meth c H1 locs (cells + 1) (slots + k) Q (F0 m (pc + 2) ls (.ref (a + n) :: rest))) : W p l e R s m args below meth c H locs cells slots Q (F0 m pc ls (.int (nI k) :: rest)) := by
  obtain ⟨hP, hz, hS, hce, hA1, hg, hA2⟩ := hB
  have e1 : H.size = a + n := by rw [hz, hn]
  have hty := C.2.2.2.2.2.2.2.2.1.2 0 _ rfl
  refine va_newaK (atype := .int) C.1 C.2.1 (C.2.2.2.2.2.1 _ ac_int) rfl hdg rfl (nI_pos (by omega)) (nI_clamp (by omega)) (by show k * 4 ≤ 536870912; omega) hcells hslots e1 (fun H1 cA e2 z1 o1 hAr hNm => ?_)
  have ecA : cA = gCl X 0 := Option.some.inj (hNm.symm.trans hty.2)
  subst ecA
  show W p l e R s m args below meth c H1 locs (cells + 1) (slots + k) Q (F0 m (pc + 2) ls (.ref (a + n) :: rest))
  refine kk H1 ⟨?_, ?_, ⟨Nat.le_trans hS.1 (by omega), fun x h1 h2 => (o1 x (Nat.lt_of_lt_of_le h1 (by rw [← e1]; exact hS.1))).trans (hS.2.1 x h1 h2), hS.2.2⟩, ?_, hA1, hg, hA2⟩
  · rw [kCs_app, hn]
    refine kP_app (kP_keep hP (fun x hx => o1 x.1 (by rw [← e1]; exact kP_lt hP hx))) (kP_cons ?_ kP_nil)
    show H1[a + n]? = some (vp_cell (gCl X 0) (k, .inl (fun _ => nI 0)))
    rw [e2, vp_cell_i]
    rfl
  · simp only [List.length_append, List.length_cons, List.length_nil]
    omega
  · simp only [List.length_append, List.length_cons, List.length_nil]
    omega
theorem kk_newc {n k : Nat} (C : gC X own cc ret nL p s m args meth c) (hB : kSt X A s a es H locs cells) (hn : es.length = n) (hk : k < 100000) (hcells : cells + 1 ≤ R.cells) (hslots : slots + k ≤ R.slots) (hdg : decode cc pc = .ok (.newarray .char, 2))
    (kk : ∀ H1 : Heap, kSt X A s a (es ++ [.inl (gCl X 1, k, .inl (fun _ => nI 0))]) H1 locs (cells + 1) → W p l e R s m args below meth c H1 locs (cells + 1) (slots + k) Q (F0 m (pc + 2) ls (.ref (a + n) :: rest))) : W p l e R s m args below meth c H locs cells slots Q (F0 m pc ls (.int (nI k) :: rest)) := by
  obtain ⟨hP, hz, hS, hce, hA1, hg, hA2⟩ := hB
  have e1 : H.size = a + n := by rw [hz, hn]
  have hty := C.2.2.2.2.2.2.2.2.1.2 1 _ rfl
  refine va_newaK (atype := .char) C.1 C.2.1 (C.2.2.2.2.2.1 _ ac_char) rfl hdg rfl (nI_pos (by omega)) (nI_clamp (by omega)) (by show k * 2 ≤ 536870912; omega) hcells hslots e1 (fun H1 cA e2 z1 o1 hAr hNm => ?_)
  have ecA : cA = gCl X 1 := Option.some.inj (hNm.symm.trans hty.2)
  subst ecA
  show W p l e R s m args below meth c H1 locs (cells + 1) (slots + k) Q (F0 m (pc + 2) ls (.ref (a + n) :: rest))
  refine kk H1 ⟨?_, ?_, ⟨Nat.le_trans hS.1 (by omega), fun x h1 h2 => (o1 x (Nat.lt_of_lt_of_le h1 (by rw [← e1]; exact hS.1))).trans (hS.2.1 x h1 h2), hS.2.2⟩, ?_, hA1, hg, hA2⟩
  · rw [kCs_app, hn]
    refine kP_app (kP_keep hP (fun x hx => o1 x.1 (by rw [← e1]; exact kP_lt hP hx))) (kP_cons ?_ kP_nil)
    show H1[a + n]? = some (vp_cell (gCl X 1) (k, .inl (fun _ => nI 0)))
    rw [e2, vp_cell_i]
    rfl
  · simp only [List.length_append, List.length_cons, List.length_nil]
    omega
  · simp only [List.length_append, List.length_cons, List.length_nil]
    omega
theorem kk_newq {n k index : Nat} (C : gC X own cc ret nL p s m args meth c) (hO : va_AO RX4 s) (hB : kSt X A s a es H locs cells) (hn : es.length = n) (hcl : Cond.classLink own index RX4 ∈ wA) (hk : k < 100000) (hcells : cells + 1 ≤ R.cells) (hslots : slots + k ≤ R.slots) (hdg : decode cc pc = .ok (.anewarray index, 3))
    (kk : ∀ H1 : Heap, kSt X A s a (es ++ [.inl (gCl X 2, k, .inr (.inr (.inr (.inr (fun _ => none)))))]) H1 locs (cells + 1) → W p l e R s m args below meth c H1 locs (cells + 1) (slots + k) Q (F0 m (pc + 3) ls (.ref (a + n) :: rest))) : W p l e R s m args below meth c H locs cells slots Q (F0 m pc ls (.int (nI k) :: rest)) := by
  obtain ⟨hP, hz, hS, hce, hA1, hg, hA2⟩ := hB
  have e1 : H.size = a + n := by rw [hz, hn]
  have hty := C.2.2.2.2.2.2.2.2.1.2 2 _ rfl
  have hcp : (nI k).toNatClampNeg = k := nI_clamp (by omega)
  refine W.anew C.1 C.2.1 C.2.2.2.2.1 (C.2.2.2.2.2.1 _ hcl) (va_AO.use hO) rfl hdg rfl (nI_pos (by omega)) (by rw [hcp]; omega) hcells (by rw [hcp]; exact hslots) (fun cA kA comp f1 f2 f3 f4 => ?_)
  rw [hcp]
  obtain ⟨kA2, comp2, g1, g2, g3, g4⟩ := hty.2
  have ecA : cA = gCl X 2 := Option.some.inj (f1.symm.trans g4)
  subst ecA
  generalize hH1 : H.push ({ cls := gCl X 2, slots := Array.replicate k .null, vm := .none } : Cell) = H1
  have z1 : H1.size = H.size + 1 := by rw [← hH1, Array.size_push]
  have e2 : H1[H.size]? = some (arrV (gCl X 2) k (fun _ => .null)) := by rw [← hH1, Array.getElem?_push_size, ← arrV_new]
  have o1 : ∀ q : Nat, q < H.size → H1[q]? = H[q]? := fun q hq => by rw [← hH1, Array.getElem?_push, if_neg (Nat.ne_of_lt hq)]
  rw [e1] at e2 ⊢
  show W p l e R s m args below meth c H1 locs (cells + 1) (slots + k) Q (F0 m (pc + 3) ls (.ref (a + n) :: rest))
  refine kk H1 ⟨?_, ?_, ⟨Nat.le_trans hS.1 (by omega), fun x h1 h2 => (o1 x (Nat.lt_of_lt_of_le h1 hS.1)).trans (hS.2.1 x h1 h2), hS.2.2⟩, ?_, hA1, hg, hA2⟩
  · rw [kCs_app, hn]
    refine kP_app (kP_keep hP (fun x hx => o1 x.1 (kP_lt hP hx))) (kP_cons ?_ kP_nil)
    show H1[a + n]? = some (vp_cell (gCl X 2) (k, .inr (.inr (.inr (.inr (fun _ => none))))))
    rw [e2, vp_cell_q]
    rfl
  · simp only [List.length_append, List.length_cons, List.length_nil]
    omega
  · simp only [List.length_append, List.length_cons, List.length_nil]
    omega
theorem kk_iast {n i w x ax : Nat} {g : Nat → Nat} (C : gC X own cc ret nL p s m args meth c) (hB : kSt X A s a es H locs cells) (hi : es[i]? = some (gAr X n g)) (hw : w < n) (hn : n < 2 ^ 31) (hax : ax = a + i) (hdg : decode cc pc = .ok (.iastore, 1))
    (kk : ∀ (H1 : Heap) (locs1 : List Loc), kSt X A s a (es.set i (gAr X n (fU g w x))) H1 locs1 cells → W p l e R s m args below meth c H1 locs1 cells slots Q (F0 m (pc + 1) ls rest)) : W p l e R s m args below meth c H locs cells slots Q (F0 m pc ls (.int (nI x) :: .int (nI w) :: .ref ax :: rest)) := by
  obtain ⟨hP, hz, hS, hce, hA1, hg, hA2⟩ := hB
  subst hax
  have hlt := (List.getElem?_eq_some_iff.mp hi).1
  have he : (kCs a es)[i]? = some (a + i, .inl (gCl X 0, n, .inl (fun j => nI (g j)))) := by
    rw [kCs_get, hi]
    rfl
  refine va_iast C.1 C.2.1 C.2.2.2.2.2.2.2.2.1 hP (kCs_D hA1) hS i 0 he rfl (vp_in_nI hw hn) hdg (fun H1 locs1 hP1 hD1 hS1 => ?_)
  rw [nI_clamp (by omega)] at hP1
  have e8 : upd (fun j => nI (g j)) w (nI x) = fun j => nI (fU g w x j) := by
    funext j
    unfold upd fU
    by_cases h : j = w
    · rw [if_pos h, if_pos h]
    · rw [if_neg h, if_neg h]
  rw [e8, kCs_set] at hP1
  refine k_size (fun hsz => ?_)
  have hl2 := kCs_last hP1 (by rw [List.length_set]; omega)
  rw [List.length_set] at hl2
  exact kk H1 locs1 ⟨hP1, by rw [List.length_set]; omega, hS1, by rw [List.length_set]; exact hce, hA1, hg, hA2⟩
theorem kk_astq {n i j w ax av : Nat} {f : Nat → Option Nat} {vs : List Value} (C : gC X own cc ret nL p s m args meth c) (hB : kSt X A s a es H locs cells) (hi : es[i]? = some (.inl (gCl X 2, n, .inr (.inr (.inr (.inr f)))))) (hj : es[j]? = some (.inr (4, vs))) (hw : w < n) (hn : n < 2 ^ 31) (hax : ax = a + i) (hav : av = a + j) (hdg : decode cc pc = .ok (.aastore, 1))
    (kk : ∀ (H1 : Heap) (locs1 : List Loc), kSt X A s a (es.set i (.inl (gCl X 2, n, .inr (.inr (.inr (.inr (va_up f w (some av)))))))) H1 locs1 cells → W p l e R s m args below meth c H1 locs1 cells slots Q (F0 m (pc + 1) ls rest)) : W p l e R s m args below meth c H locs cells slots Q (F0 m pc ls (.ref av :: .int (nI w) :: .ref ax :: rest)) := by
  obtain ⟨hP, hz, hS, hce, hA1, hg, hA2⟩ := hB
  subst hax
  subst hav
  have hlt := (List.getElem?_eq_some_iff.mp hi).1
  have he : (kCs a es)[i]? = some (a + i, .inl (gCl X 2, n, .inr (.inr (.inr (.inr f))))) := by
    rw [kCs_get, hi]
    rfl
  have he2 : (kCs a es)[j]? = some (a + j, .inr (4, vs)) := by
    rw [kCs_get, hj]
    rfl
  refine va_astq C.1 C.2.1 C.2.2.2.2.2.2.2.2.1 hP (kCs_D hA1) hS i 2 j 4 (r := (RX4, TX4, 8)) he rfl he2 rfl (vp_in_nI hw hn) hdg (fun H1 locs1 hP1 hD1 hS1 => ?_)
  rw [nI_clamp (by omega), kCs_set] at hP1
  refine k_size (fun hsz => ?_)
  have hl2 := kCs_last hP1 (by rw [List.length_set]; omega)
  rw [List.length_set] at hl2
  exact kk H1 locs1 ⟨hP1, by rw [List.length_set]; omega, hS1, by rw [List.length_set]; exact hce, hA1, hg, hA2⟩
theorem kk_alenq {n i ax : Nat} {f : Nat → Option Nat} (C : gC X own cc ret nL p s m args meth c) (hB : kSt X A s a es H locs cells) (hi : es[i]? = some (.inl (gCl X 2, n, .inr (.inr (.inr (.inr f)))))) (hax : ax = a + i) (hdg : decode cc pc = .ok (.arraylength, 1))
    (kk : W p l e R s m args below meth c H locs cells slots Q (F0 m (pc + 1) ls (.int (nI n) :: rest))) : W p l e R s m args below meth c H locs cells slots Q (F0 m pc ls (.ref ax :: rest)) := by
  subst hax
  have he : (kCs a es)[i]? = some (a + i, .inl (gCl X 2, n, .inr (.inr (.inr (.inr f))))) := by
    rw [kCs_get, hi]
    rfl
  exact va_alen C.1 C.2.1 C.2.2.2.2.2.2.2.2.1 hB.1 i 2 he rfl rfl hdg kk
theorem kk_fr {n h : Nat} (hB : kSt X A s a es H locs cells) : ∀ q, kFr (a + n) (a + n + 1) q → A q := fun q hq => hB.2.2.2.2.1 q (by unfold kFr at hq; omega)
theorem kk_aft {H1 : Heap} {locs1 : List Loc} {e0 : va_E} {n ce : Nat} {res : List va_E} (hB : kSt X A s a (es ++ [e0]) H locs cells) (hn : es.length = n) (hres : res.length = ce + 1) (z1 : H1.size = H.size + ce) (P1 : va_P (gD X) vwCl (kCs (a + n) res) H1) (o1 : ∀ q, q < H.size → ¬ q = a + n → H1[q]? = H[q]?) (S1 : va_S A s.heap H1 locs1) : kSt X A s a (es ++ res) H1 locs1 (cells + ce) := by
  obtain ⟨hP, hz, hS, hce, hA1, hg, hA2⟩ := hB
  simp only [List.length_append, List.length_cons, List.length_nil] at hz hce
  have hP0 : va_P (gD X) vwCl (kCs a es) H := by
    intro k q hq
    have h1 : k < (kCs a es).length := (List.getElem?_eq_some_iff.mp hq).1
    refine hP k q ?_
    rw [kCs_app, List.getElem?_append_left h1]
    exact hq
  refine ⟨?_, ?_, S1, ?_, hA1, hg, hA2⟩
  · rw [kCs_app, hn]
    refine kP_app (kP_keep hP0 (fun x hx => o1 x.1 (kP_lt hP0 hx) ?_)) P1
    obtain ⟨k, hk⟩ := List.getElem?_of_mem hx
    obtain ⟨h1, h2, -⟩ := kCs_at hk
    omega
  · simp only [List.length_append]
    omega
  · simp only [List.length_append]
    omega
theorem kk_bef {e0 : va_E} {n : Nat} (hB : kSt X A s a (es ++ [e0]) H locs cells) (hn : es.length = n) : va_at (gD X) vwCl (a + n, e0) H ∧ H.size = a + n + 1 := by
  obtain ⟨hP, hz, -⟩ := hB
  simp only [List.length_append, List.length_cons, List.length_nil] at hz
  refine ⟨hP n _ ?_, by omega⟩
  rw [kCs_get, List.getElem?_append_right (by omega), hn, Nat.sub_self]
  rfl
theorem kk_call {index fr2 lo2 ce2 sl2 nL2 n na : Nat} {y : MethodName} {cc2 : ByteArray} {As st0 : List Value} {e0 : va_E} {res : List va_E} (C : gC X own cc ret nL p s m args meth c) (hz : ls.size = nL) (hO : va_AO RX4 s) (hB : kSt X A s a (es ++ [e0]) H locs cells) (hn : es.length = n) (i1 : Cond.instanceMethod y ∈ wA) (i3 : Cond.code y cc2 nL2 none ∈ wA) (i4 : Cond.initialized y.cls ∈ wA) (i5 : y.cls ≠ "java/lang/invoke/MethodHandle" ∧ y.cls ≠ "java/lang/invoke/VarHandle" ∧ (parseMethodDescriptor y.desc).map (fun d => d.parameters.length) = some na) (hin : y.name = "<init>") (hlink : Cond.methodLink own index y ∈ wA) (hM : kC l y cc2 nL2 fr2 lo2 ce2 sl2 X As (a + n) e0 res) (hres : res.length = ce2 + 1) (hna : As.length = na) (hst : st0 = As.reverse ++ .ref (a + n) :: rest) (hroom : fr2 + 1 ≤ R.frames ∧ 8 + (nL2 + 11) + lo2 ≤ R.locals) (hf : cells + ce2 ≤ R.cells ∧ slots + sl2 ≤ R.slots) (hw : (rest.map fun v => v.category).sum ≤ 8) (hdg : decode cc pc = .ok (.invokespecial index, 3))
    (kk : ∀ (H1 : Heap) (locs1 : List Loc), kSt X A s a (es ++ res) H1 locs1 (cells + ce2) → W p l e R s m args below meth c H1 locs1 (cells + ce2) (slots + sl2) Q (F0 m (pc + 3) ls rest)) : W p l e R s m args below meth c H locs cells slots Q (F0 m pc ls st0) := by
  obtain ⟨hat, hsz⟩ := kk_bef hB hn
  have hM2 : kMt l y cc2 nL2 fr2 lo2 ce2 sl2 X As (a + n) H.size e0 ce2 (kCs (a + n) res) := by rw [hsz]; exact hM
  exact k_callI C hz hO hB.2.2.1 hB.2.2.2.2.2.2 (by rw [hsz]; exact kk_fr (n := n) (h := 0) hB) (by have := hB.2.2.2.2.2.1; omega) hat (by omega) i1 i3 i4 i5 hin hlink hM2 hna hst hroom hf hw hdg (fun H1 locs1 z1 P1 o1 S1 => kk H1 locs1 (kk_aft hB hn hres z1 P1 o1 S1))
theorem kk_callN {index fr2 lo2 ce2 sl2 nL2 n na : Nat} {y : MethodName} {cc2 : ByteArray} {As st0 : List Value} {host : String} {e0 : va_E} {res : List va_E} (C : gC X own cc ret nL p s m args meth c) (hz : ls.size = nL) (hO : va_AO RX4 s) (hB : kSt X A s a (es ++ [e0]) H locs cells) (hn : es.length = n) (i1 : Cond.instanceMethod y ∈ wA) (i3 : Cond.code y cc2 nL2 none ∈ wA) (i4 : Cond.initialized y.cls ∈ wA) (i5 : y.cls ≠ "java/lang/invoke/MethodHandle" ∧ y.cls ≠ "java/lang/invoke/VarHandle" ∧ (parseMethodDescriptor y.desc).map (fun d => d.parameters.length) = some na) (hin : y.name = "<init>") (hlink : (own, index, y, host) ∈ gNm) (hM : kC l y cc2 nL2 fr2 lo2 ce2 sl2 X As (a + n) e0 res) (hres : res.length = ce2 + 1) (hna : As.length = na) (hst : st0 = As.reverse ++ .ref (a + n) :: rest) (hroom : fr2 + 1 ≤ R.frames ∧ 8 + (nL2 + 11) + lo2 ≤ R.locals) (hf : cells + ce2 ≤ R.cells ∧ slots + sl2 ≤ R.slots) (hw : (rest.map fun v => v.category).sum ≤ 8) (hdg : decode cc pc = .ok (.invokespecial index, 3))
    (kk : ∀ (H1 : Heap) (locs1 : List Loc), kSt X A s a (es ++ res) H1 locs1 (cells + ce2) → W p l e R s m args below meth c H1 locs1 (cells + ce2) (slots + sl2) Q (F0 m (pc + 3) ls rest)) : W p l e R s m args below meth c H locs cells slots Q (F0 m pc ls st0) := by
  obtain ⟨hat, hsz⟩ := kk_bef hB hn
  have hM2 : kMt l y cc2 nL2 fr2 lo2 ce2 sl2 X As (a + n) H.size e0 ce2 (kCs (a + n) res) := by rw [hsz]; exact hM
  exact k_callIN C hz hO hB.2.2.1 hB.2.2.2.2.2.2 (by rw [hsz]; exact kk_fr (n := n) (h := 0) hB) (by have := hB.2.2.2.2.2.1; omega) hat (by omega) i1 i3 i4 i5 hin hlink hM2 hna hst hroom hf hw hdg (fun H1 locs1 z1 P1 o1 S1 => kk H1 locs1 (kk_aft hB hn hres z1 P1 o1 S1))
end GK2
end
section
/-! ===== constructors, one by one ===== -/
def kRow (X : gX) (a n : Nat) (g : Nat → Nat) : List va_E := [.inr (5, [.ref (a + 1)]), gAr X n g]
theorem kc_X5 (l : Launch) {X : gX} (hI : gInj X) {a n : Nat} (hn : n ≤ 1000) : kC l yX5_init cX5_init 2 1 24 1 n X [.int (nI n)] a (.inr (5, [.null])) (kRow X a n (fun _ => 0)) := k_X5_init l hI hn
def kWB (X : gX) (r n : Nat) (g : Nat → Nat) (U : State) : Prop := va_P (gD X) vwCl (kCs r (kRow X r n g)) U.heap ∧ gSz X ≤ r ∧ gEnv X U U.heap
def kWF (r : Nat) : Nat → Prop := fun q => q = r ∨ q = r + 1
def kWQ (X : gX) (r n : Nat) (g : Nat → Nat) : Array Value → State → Outcome → State → Prop := fun _ st oc t => (oc = .returned none ∧ kWB X r n g t) ∧ va_F (kWF r) st t
theorem kWB_blind {av : List Value} {X : gX} {r n : Nat} {g : Nat → Nat} : FrameBlind (va_Pc av (kWB X r n g)) := fun _ U _ _ q => ⟨q.1, q.2.1, q.2.2.1, q.2.2.2.to (State.WarmedH.refl U) (Nat.le_refl _) (fun _ _ _ => rfl)⟩

set_option maxRecDepth 100000 in
set_option maxHeartbeats 4000000 in
/-- Row.write over its two cells alone -/
theorem kw_X5 (l : Launch) {X : gX} (hI : gInj X) {r n i x : Nat} {g : Nat → Nat} (hi : i < n) (hn : n < 2 ^ 31) : Met l yX5_write (.code yX5_write cX5_write 3 none :: wA) { frames := 0, cells := 0, slots := 0, locals := 0 } (va_Pc [.ref r, .int (nI i), .int (nI x)] (kWB X r n g)) (kWQ X r n (fU g i x)) 0 0 (kWF r) := by
  refine Met.ofW (cc := cX5_write) (maxL := 3) (ret := none) (by decide) rfl ?_
  intro p e s m args below meth c s₁ B hml hv
  obtain ⟨rfl, hP, hr, hE⟩ := hv
  have hts := atoms_spec (ws := Cond.code yX5_write cX5_write 3 none :: wA) B.pre
  rw [lg_entry_eq]
  have C : gC X RX5 cX5_write none 3 p s m [Value.ref r, .int (nI i), .int (nI x)].toArray meth c := ⟨B.exec, B.bytes, B.returns, hml, findClass_of_methodNamed B.named, fun w hw => hts w (List.mem_cons_of_mem _ hw), B.notSynchronized, hI, hE⟩
  have hl := gL.entry [Value.ref r, .int (nI i), .int (nI x)] 3 (by simp [Value.category]) (Nat.le_of_ble_eq_true rfl)
  generalize (lg_sl [Value.ref r, .int (nI i), .int (nI x)] ++ List.replicate (3 - (lg_sl [Value.ref r, .int (nI i), .int (nI x)]).length) Slot.unset).toArray = ls at hl ⊢
  have hD : va_D (kWF r) (kCs r (kRow X r n g)) := by
    refine ⟨fun i j p q hi hj e => ?_, fun k q hq => ?_⟩
    · have h1 := (kCs_at hi).2.1
      have h2 := (kCs_at hj).2.1
      omega
    · have h1 := kCs_at hq
      have h2 : k < 2 := h1.1
      have h3 := h1.2.1
      unfold kWF
      omega
  have e0 : (kCs r (kRow X r n g))[0]? = some (r, .inr (5, [.ref (r + 1)])) := rfl
  have e1 : (kCs r (kRow X r n g))[1]? = some (r + 1, .inl (gCl X 0, n, .inl (fun j => nI (g j)))) := rfl
  refine g_iload_n C hl dX5_write_0 rfl ?_
  refine g_if_lt (tgt := 20) C dX5_write_1 (by decide) (by omega) ?_
  refine g_iload_n C hl dX5_write_4 rfl ?_
  refine g_aload_n C hl dX5_write_5 rfl ?_
  refine va_get (v := .ref (r + 1)) C.1 C.2.1 C.2.2.2.2.2.1 ilX5 C.2.2.2.2.1 hE.1 hP 0 e0 rfl 0 (by decide) (C.2.2.2.2.2.1 _ fl_X5_13) (fun _ h9 => h9) rfl dX5_write_6 ?_
  refine va_alen (v := nI n) C.1 C.2.1 hE.1 hP 1 0 e1 rfl rfl dX5_write_9 ?_
  refine g_icmp_ge (tgt := 20) C dX5_write_10 (by decide) (by omega) (by omega) (fun z9 => absurd z9 (by omega)) (fun c10 => ?_)
  refine g_aload_n C hl dX5_write_13 rfl ?_
  refine va_get (v := .ref (r + 1)) C.1 C.2.1 C.2.2.2.2.2.1 ilX5 C.2.2.2.2.1 hE.1 hP 0 e0 rfl 0 (by decide) (C.2.2.2.2.2.1 _ fl_X5_13) (fun _ h9 => h9) rfl dX5_write_14 ?_
  refine g_iload_n C hl dX5_write_17 rfl ?_
  refine g_iload_n C hl dX5_write_18 rfl ?_
  refine va_iast C.1 C.2.1 hE.1 hP hD va_S.rf 1 0 e1 rfl (vp_in_nI hi hn) dX5_write_19 (fun H1 locs1 hP1 hD1 hS1 => ?_)
  rw [nI_clamp (by omega)] at hP1
  have e8 : upd (fun j => nI (g j)) i (nI x) = fun j => nI (fU g i x j) := by
    funext j
    unfold upd fU
    by_cases h : j = i
    · rw [if_pos h, if_pos h]
    · rw [if_neg h, if_neg h]
  rw [e8] at hP1
  refine W.vret C.1 C.2.1 C.2.2.1 (fun t ht hW => ⟨⟨rfl, ?_, hr, ?_⟩, hS1.F ht⟩) hS1.2.2 dX5_write_20 C.2.2.2.2.2.2.1
  · rw [ht]
    exact hP1
  · rw [ht]
    refine hE.to hW hS1.1 (fun q h1 h2 => hS1.2.1 q h1 (fun h3 => h2 ?_))
    show gSz X ≤ q
    unfold kWF at h3
    omega
section GK3
variable {p : Program} {l : Launch} {e : Env} {R : Room} {s : State} {m : MethodId} {args : Array Value} {below : List Frame} {meth : Method} {c : Code} {H : Heap} {locs : List Loc} {cells slots : Nat} {Q : State → Prop}
variable {cc : ByteArray} {pc : Nat} {ls : Array Slot} {rest : List Value} {X : gX} {own : String} {ret : Option FieldType} {nL : Nat} {A : Nat → Prop} {a : Nat} {es : List va_E}
theorem kk_write {i n w x ax index : Nat} {g : Nat → Nat} (C : gC X own cc ret nL p s m args meth c) (hI : gInj X) (hz : ls.size = nL) (hB : kSt X A s a es H locs cells) (h5 : es[i]? = some (.inr (5, [.ref (a + i + 1)]))) (h6 : es[i + 1]? = some (gAr X n g)) (hw9 : w < n) (hn : n < 2 ^ 31) (hax : ax = a + i) (hlink : Cond.methodLink own index yX5_write ∈ wA) (hroom : 0 + 1 ≤ R.frames ∧ 8 + (3 + 11) + 0 ≤ R.locals) (hf : cells ≤ R.cells ∧ slots ≤ R.slots) (hw : (rest.map fun v => v.category).sum ≤ 8) (hdg : decode cc pc = .ok (.invokevirtual index, 3))
    (kk : ∀ (H1 : Heap) (locs1 : List Loc), kSt X A s a (es.set (i + 1) (gAr X n (fU g w x))) H1 locs1 cells → W p l e R s m args below meth c H1 locs1 cells slots Q (F0 m (pc + 3) ls rest)) : W p l e R s m args below meth c H locs cells slots Q (F0 m pc ls (.int (nI x) :: .int (nI w) :: .ref ax :: rest)) := by
  subst hax
  obtain ⟨hP, hsz, hS, hce, hA1, hg, hA2⟩ := hB
  obtain ⟨hx, hb, -, hml, hown, hA, -, -, hE⟩ := C
  obtain ⟨i1, i2, i3, i4, i5⟩ := md_X5_write
  have he5 : (kCs a es)[i]? = some (a + i, .inr (5, [.ref (a + i + 1)])) := by
    rw [kCs_get, h5]
    rfl
  have he6 : (kCs a es)[i + 1]? = some (a + i + 1, gAr X n g) := by
    rw [kCs_get, h6]
    rfl
  have hP2 : va_P (gD X) vwCl (kCs (a + i) (kRow X (a + i) n g)) H := kP_cons (hP i _ he5) (kP_cons (hP (i + 1) _ he6) kP_nil)
  have hlt : a + i + 1 < H.size := (hP (i + 1) _ he6).lt
  have cb := callB_of (R := R) (rm := { frames := 0, cells := 0, slots := 0, locals := 0 }) (mc := 0) (ms := 0) 2 hA (g_good i3) rfl rfl rfl (hA _ i4) (hA _ hlink) i5 hroom
  have hr : va_Run p l e R s m args below meth c H locs cells slots 0 0 (F0 m pc ls (.int (nI x) :: .int (nI w) :: .ref (a + i) :: rest)) rest (kWQ X (a + i) n (fU g w x) (Value.ref (a + i) :: [Value.int (nI w), .int (nI x)]).toArray) (kWF (a + i)) := va_runV (C := RX5) (rest := rest) ⟨hx, hb, hml, hown, hA⟩ (kw_X5 l hI hw9 hn) ⟨cb, hA _ i1, hA _ i2⟩ ⟨kWB_blind, va_recv hE.1 hP rfl he5, fun U hU hW => ⟨rfl, by rw [hU]; exact hP2, by omega, by rw [hU]; exact hE.to hW hS.1 (fun q h1 h2 => hS.2.1 q h1 (fun h3 => h2 (hA2 q h3)))⟩⟩ rfl rfl hz rfl (lv_room hw) hdg hf
  intro T hT X9
  obtain ⟨v, st₀, t, T', L, h0, X', hL, e1, e2, ⟨⟨hv, hP3, -, -⟩, hz2, hk⟩, st⟩ := hr T hT X9
  cases hv
  rw [h0] at hz2 hk
  have hPn : va_P (gD X) vwCl (kCs a (es.set (i + 1) (gAr X n (fU g w x)))) t.heap := by
    intro k q hq
    by_cases ek : k = i + 1
    · obtain ⟨h1, h2, h3⟩ := kCs_at hq
      subst ek
      rw [List.getElem?_set_self (by rw [List.length_set] at h1; exact h1)] at h3
      have e3 : q = (a + i + 1, gAr X n (fU g w x)) := Prod.ext (by rw [h2]; rfl) (Option.some.inj h3).symm
      rw [e3]
      exact hP3 1 _ rfl
    · have hq2 : (kCs a es)[k]? = some q := by
        rw [kCs_get, List.getElem?_set_ne (fun z => ek z.symm), ← kCs_get] at hq
        exact hq
      by_cases e5 : k = i
      · subst e5
        rw [he5] at hq2
        cases hq2
        exact hP3 0 _ rfl
      · refine (hP k q hq2).kept (hk q.1 ((hP k q hq2).lt) (fun h3 => ?_))
        have h2 := (kCs_at hq2).2.1
        unfold kWF at h3
        omega
  have hSn : va_S A s.heap T'.heap (locs ++ L) := ⟨Nat.le_trans hS.1 (by rw [e1]; exact hz2), fun q h1 h2 => by
      rw [e1, hk q (Nat.lt_of_lt_of_le h1 hS.1) (fun h3 => h2 (hA1 q (by unfold kWF at h3; omega)))]
      exact hS.2.1 q h1 h2, fun q hq => by
      rcases List.mem_append.mp hq with h | h
      · exact hS.2.2 q h
      · exact hA1 _ (by have h3 := hL q h; unfold kWF at h3; omega)⟩
  have hup : T'.heap.size ≤ s.heap.size + cells := X'.heapSize
  have hlo : H.size ≤ T'.heap.size := by
    rw [e1]
    exact hz2
  obtain ⟨t2, a1, b1⟩ := kk T'.heap (locs ++ L) ⟨by rw [e1]; exact hPn, by rw [List.length_set]; omega, hSn, by rw [List.length_set]; exact hce, hA1, hg, hA2⟩ T' rfl X'
  exact ⟨t2, st t2 a1, b1⟩
end GK3
end
section
/-! ===== the constructors' walks ===== -/
def kW : Nat → Nat := fU (fU (fU (fU (fun _ => 0) 0 0) 1 1) 2 2) 3 3
def kZ : Nat → Nat := fU (fU (fU (fU (fun _ => 0) 100 0) 101 1) 102 2) 103 3
def kBk (X : gX) (a : Nat) : List va_E := [.inr (0, [.ref (a + 1), .ref (a + 3), .ref (a + 5), .ref (a + 7), .ref (a + 9)]), .inr (5, [.ref (a + 2)]), gAr X 100 (fun _ => 0), .inr (5, [.ref (a + 4)]), gAr X 8 (fun _ => 0), .inr (5, [.ref (a + 6)]), gAr X 4 kW, .inr (5, [.ref (a + 8)]), gAr X 8 (fun _ => 0), .inr (5, [.ref (a + 10)]), gAr X 8 (fun _ => 0)]
def kFt (X : gX) (a ci n : Nat) : List va_E := [.inr (ci, [.ref (a + 1), .int (nI 0)]), .inr (5, [.ref (a + 2)]), gAr X n (fun _ => 0)]
def kMc (X : gX) (a : Nat) : List va_E := .inr (4, [.ref (a + 1), .ref (a + 12), .ref (a + 15), .int (nI 0), .int (nI 0), .int (nI 0), .int (nI 0), .int (nI 0)]) :: ((kBk X (a + 1) ++ kFt X (a + 12) 2 24) ++ kFt X (a + 15) 7 36)
def kTc (X : gX) (a : Nat) : List va_E := [.inr (6, [.ref (a + 1), .int (nI 0)]), .inl (gCl X 1, 80, .inl (fun _ => nI 0))]
def kCd (X : gX) (a : Nat) : List va_E := [.inr (1, [.ref (a + 1), .int (nI 0), .int (nI 0), .int (nI 0)]), .inr (5, [.ref (a + 2)]), gAr X 16 (fun _ => 0)]
def kHf (a : Nat) : Nat → Option Nat := va_up (va_up (va_up (va_up (fun _ => none) 0 (some (a + 2))) 1 (some (a + 20))) 2 (some (a + 38))) 3 (some (a + 56))
def kHc (X : gX) (a : Nat) : List va_E := .inr (3, [.ref (a + 1), .int (nI 0)]) :: .inl (gCl X 2, 4, .inr (.inr (.inr (.inr (kHf a))))) :: (((kMc X (a + 2) ++ kMc X (a + 20)) ++ kMc X (a + 38)) ++ kMc X (a + 56))
def kFb (X : gX) (a : Nat) : List va_E := .inr (8, [.ref (a + 1), .ref (a + 19), .ref (a + 37), .ref (a + 55), .ref (a + 129), .ref (a + 131), .int (nI 0)]) :: (((((kMc X (a + 1) ++ kMc X (a + 19)) ++ kMc X (a + 37)) ++ kHc X (a + 55)) ++ kTc X (a + 129)) ++ kCd X (a + 131))
set_option maxRecDepth 100000 in
set_option maxHeartbeats 4000000 in
theorem kc_X2 (l : Launch) {X : gX} (hI : gInj X) {a : Nat} : kC l yX2_init cX2_init 1 2 45 2 25 X [] a (.inr (2, [.null, .int (nI 0)])) (kFt X (a) 2 24) := by
  refine kC.of (own := RX2) (by decide) rfl hI (by simp [Value.category]) (Nat.le_of_ble_eq_true rfl) ?_
  intro p e s m args below meth c ls C hnm hl hO hz hB
  refine g_aload_n C hl dX2_init_0 rfl ?_
  refine k_obj C hl.1 ml_X2_3 (Nat.le_of_ble_eq_true rfl) (Nat.le_of_ble_eq_true rfl) dX2_init_1 ?_
  refine g_aload_n C hl dX2_init_4 rfl ?_
  refine kk_new (ci := 5) (n := 1) (fs := [.null]) tyX5 C hB rfl tyX5_ok ilX5 cl_X2_9 ib_X5 in_X5 rfl (fun j hj => by obtain rfl : j = 0 := (by omega); rfl) (Nat.le_of_ble_eq_true rfl) (Nat.le_of_ble_eq_true rfl) dX2_init_5 (fun H hB => ?_)
  refine g_dup C dX2_init_8 rfl ?_
  refine g_bipush 24 C dX2_init_9 (by decide) ?_
  refine kk_call (n := 1) C hl.1 hO hB rfl im_X5_init co_X5_init in_X5 (by decide +kernel) rfl ml_X2_13 (kc_X5 l hI (n := 24) (by decide)) rfl rfl rfl ⟨Nat.le_of_ble_eq_true rfl, Nat.le_of_ble_eq_true rfl⟩ ⟨Nat.le_of_ble_eq_true rfl, Nat.le_of_ble_eq_true rfl⟩ (Nat.le_of_ble_eq_true rfl) dX2_init_11 (fun H locs hB => ?_)
  refine kk_put (i := 0) (ty := .object "FarBanks$Row") 0 C hnm hB rfl rfl ilX2 tyX2_ok nmX2 (by decide) fl_X2_16 rfl rfl rfl (by decide +kernel) rfl rfl (Nat.le_of_ble_eq_true rfl) rfl dX2_init_14 (fun H locs hB => ?_)
  have hB : kSt X (kFr a (a + 1)) s a ([(.inr (2, [.ref (a + 1), .int (nI 0)]) : va_E), .inr (5, [.ref (a + 2)]), gAr X 24 (fun _ => 0)]) H locs _ := hB
  exact kk_ret C hz hB dX2_init_17
set_option maxRecDepth 100000 in
set_option maxHeartbeats 4000000 in
theorem kc_X7 (l : Launch) {X : gX} (hI : gInj X) {a : Nat} : kC l yX7_init cX7_init 1 2 45 2 37 X [] a (.inr (7, [.null, .int (nI 0)])) (kFt X (a) 7 36) := by
  refine kC.of (own := RX7) (by decide) rfl hI (by simp [Value.category]) (Nat.le_of_ble_eq_true rfl) ?_
  intro p e s m args below meth c ls C hnm hl hO hz hB
  refine g_aload_n C hl dX7_init_0 rfl ?_
  refine k_obj C hl.1 ml_X7_3 (Nat.le_of_ble_eq_true rfl) (Nat.le_of_ble_eq_true rfl) dX7_init_1 ?_
  refine g_aload_n C hl dX7_init_4 rfl ?_
  refine kk_new (ci := 5) (n := 1) (fs := [.null]) tyX5 C hB rfl tyX5_ok ilX5 cl_X7_9 ib_X5 in_X5 rfl (fun j hj => by obtain rfl : j = 0 := (by omega); rfl) (Nat.le_of_ble_eq_true rfl) (Nat.le_of_ble_eq_true rfl) dX7_init_5 (fun H hB => ?_)
  refine g_dup C dX7_init_8 rfl ?_
  refine g_bipush 36 C dX7_init_9 (by decide) ?_
  refine kk_call (n := 1) C hl.1 hO hB rfl im_X5_init co_X5_init in_X5 (by decide +kernel) rfl ml_X7_13 (kc_X5 l hI (n := 36) (by decide)) rfl rfl rfl ⟨Nat.le_of_ble_eq_true rfl, Nat.le_of_ble_eq_true rfl⟩ ⟨Nat.le_of_ble_eq_true rfl, Nat.le_of_ble_eq_true rfl⟩ (Nat.le_of_ble_eq_true rfl) dX7_init_11 (fun H locs hB => ?_)
  refine kk_put (i := 0) (ty := .object "FarBanks$Row") 0 C hnm hB rfl rfl ilX7 tyX7_ok nmX7 (by decide) fl_X7_16 rfl rfl rfl (by decide +kernel) rfl rfl (Nat.le_of_ble_eq_true rfl) rfl dX7_init_14 (fun H locs hB => ?_)
  have hB : kSt X (kFr a (a + 1)) s a ([(.inr (7, [.ref (a + 1), .int (nI 0)]) : va_E), .inr (5, [.ref (a + 2)]), gAr X 36 (fun _ => 0)]) H locs _ := hB
  exact kk_ret C hz hB dX7_init_17
set_option maxRecDepth 100000 in
set_option maxHeartbeats 4000000 in
theorem kc_X1 (l : Launch) {X : gX} (hI : gInj X) {a : Nat} : kC l yX1_init cX1_init 1 2 45 2 17 X [] a (.inr (1, [.null, .int (nI 0), .int (nI 0), .int (nI 0)])) (kCd X (a)) := by
  refine kC.of (own := RX1) (by decide) rfl hI (by simp [Value.category]) (Nat.le_of_ble_eq_true rfl) ?_
  intro p e s m args below meth c ls C hnm hl hO hz hB
  refine g_aload_n C hl dX1_init_0 rfl ?_
  refine k_obj C hl.1 ml_X1_3 (Nat.le_of_ble_eq_true rfl) (Nat.le_of_ble_eq_true rfl) dX1_init_1 ?_
  refine g_aload_n C hl dX1_init_4 rfl ?_
  refine kk_new (ci := 5) (n := 1) (fs := [.null]) tyX5 C hB rfl tyX5_ok ilX5 cl_X1_9 ib_X5 in_X5 rfl (fun j hj => by obtain rfl : j = 0 := (by omega); rfl) (Nat.le_of_ble_eq_true rfl) (Nat.le_of_ble_eq_true rfl) dX1_init_5 (fun H hB => ?_)
  refine g_dup C dX1_init_8 rfl ?_
  refine g_bipush 16 C dX1_init_9 (by decide) ?_
  refine kk_call (n := 1) C hl.1 hO hB rfl im_X5_init co_X5_init in_X5 (by decide +kernel) rfl ml_X1_11 (kc_X5 l hI (n := 16) (by decide)) rfl rfl rfl ⟨Nat.le_of_ble_eq_true rfl, Nat.le_of_ble_eq_true rfl⟩ ⟨Nat.le_of_ble_eq_true rfl, Nat.le_of_ble_eq_true rfl⟩ (Nat.le_of_ble_eq_true rfl) dX1_init_11 (fun H locs hB => ?_)
  refine kk_put (i := 0) (ty := .object "FarBanks$Row") 0 C hnm hB rfl rfl ilX1 tyX1_ok nmX1 (by decide) fl_X1_14 rfl rfl rfl (by decide +kernel) rfl rfl (Nat.le_of_ble_eq_true rfl) rfl dX1_init_14 (fun H locs hB => ?_)
  have hB : kSt X (kFr a (a + 1)) s a ([(.inr (1, [.ref (a + 1), .int (nI 0), .int (nI 0), .int (nI 0)]) : va_E), .inr (5, [.ref (a + 2)]), gAr X 16 (fun _ => 0)]) H locs _ := hB
  exact kk_ret C hz hB dX1_init_17
set_option maxRecDepth 100000 in
set_option maxHeartbeats 4000000 in
theorem kc_X0 (l : Launch) {X : gX} (hI : gInj X) {a : Nat} : kC l yX0_init cX0_init 2 2 45 10 133 X [] a (.inr (0, [.null, .null, .null, .null, .null])) (kBk X (a)) := by
  refine kC.of (own := RX0) (by decide) rfl hI (by simp [Value.category]) (Nat.le_of_ble_eq_true rfl) ?_
  intro p e s m args below meth c ls C hnm hl hO hz hB
  refine g_aload_n C hl dX0_init_0 rfl ?_
  refine k_obj C hl.1 ml_X0_3 (Nat.le_of_ble_eq_true rfl) (Nat.le_of_ble_eq_true rfl) dX0_init_1 ?_
  refine g_aload_n C hl dX0_init_4 rfl ?_
  refine kk_new (ci := 5) (n := 1) (fs := [.null]) tyX5 C hB rfl tyX5_ok ilX5 cl_X0_9 ib_X5 in_X5 rfl (fun j hj => by obtain rfl : j = 0 := (by omega); rfl) (Nat.le_of_ble_eq_true rfl) (Nat.le_of_ble_eq_true rfl) dX0_init_5 (fun H hB => ?_)
  refine g_dup C dX0_init_8 rfl ?_
  refine g_bipush 100 C dX0_init_9 (by decide) ?_
  refine kk_call (n := 1) C hl.1 hO hB rfl im_X5_init co_X5_init in_X5 (by decide +kernel) rfl ml_X0_11 (kc_X5 l hI (n := 100) (by decide)) rfl rfl rfl ⟨Nat.le_of_ble_eq_true rfl, Nat.le_of_ble_eq_true rfl⟩ ⟨Nat.le_of_ble_eq_true rfl, Nat.le_of_ble_eq_true rfl⟩ (Nat.le_of_ble_eq_true rfl) dX0_init_11 (fun H locs hB => ?_)
  refine kk_put (i := 0) (ty := .object "FarBanks$Row") 0 C hnm hB rfl rfl ilX0 tyX0_ok nmX0 (by decide) fl_X0_14 rfl rfl rfl (by decide +kernel) rfl rfl (Nat.le_of_ble_eq_true rfl) rfl dX0_init_14 (fun H locs hB => ?_)
  have hB : kSt X (kFr a (a + 1)) s a ([(.inr (0, [.ref (a + 1), .null, .null, .null, .null]) : va_E), .inr (5, [.ref (a + 2)]), gAr X 100 (fun _ => 0)]) H locs _ := hB
  refine g_aload_n C hl dX0_init_17 rfl ?_
  refine kk_new (ci := 5) (n := 3) (fs := [.null]) tyX5 C hB rfl tyX5_ok ilX5 cl_X0_9 ib_X5 in_X5 rfl (fun j hj => by obtain rfl : j = 0 := (by omega); rfl) (Nat.le_of_ble_eq_true rfl) (Nat.le_of_ble_eq_true rfl) dX0_init_18 (fun H hB => ?_)
  refine g_dup C dX0_init_21 rfl ?_
  refine g_bipush 8 C dX0_init_22 (by decide) ?_
  refine kk_call (n := 3) C hl.1 hO hB rfl im_X5_init co_X5_init in_X5 (by decide +kernel) rfl ml_X0_11 (kc_X5 l hI (n := 8) (by decide)) rfl rfl rfl ⟨Nat.le_of_ble_eq_true rfl, Nat.le_of_ble_eq_true rfl⟩ ⟨Nat.le_of_ble_eq_true rfl, Nat.le_of_ble_eq_true rfl⟩ (Nat.le_of_ble_eq_true rfl) dX0_init_24 (fun H locs hB => ?_)
  refine kk_put (i := 0) (ty := .object "FarBanks$Row") 1 C hnm hB rfl rfl ilX0 tyX0_ok nmX0 (by decide) fl_X0_20 rfl rfl rfl (by decide +kernel) rfl rfl (Nat.le_of_ble_eq_true rfl) rfl dX0_init_27 (fun H locs hB => ?_)
  have hB : kSt X (kFr a (a + 1)) s a ([(.inr (0, [.ref (a + 1), .ref (a + 3), .null, .null, .null]) : va_E), .inr (5, [.ref (a + 2)]), gAr X 100 (fun _ => 0), .inr (5, [.ref (a + 4)]), gAr X 8 (fun _ => 0)]) H locs _ := hB
  refine g_aload_n C hl dX0_init_30 rfl ?_
  refine kk_new (ci := 5) (n := 5) (fs := [.null]) tyX5 C hB rfl tyX5_ok ilX5 cl_X0_9 ib_X5 in_X5 rfl (fun j hj => by obtain rfl : j = 0 := (by omega); rfl) (Nat.le_of_ble_eq_true rfl) (Nat.le_of_ble_eq_true rfl) dX0_init_31 (fun H hB => ?_)
  refine g_dup C dX0_init_34 rfl ?_
  refine g_iconst 4 C dX0_init_35 (by decide) ?_
  refine kk_call (n := 5) C hl.1 hO hB rfl im_X5_init co_X5_init in_X5 (by decide +kernel) rfl ml_X0_11 (kc_X5 l hI (n := 4) (by decide)) rfl rfl rfl ⟨Nat.le_of_ble_eq_true rfl, Nat.le_of_ble_eq_true rfl⟩ ⟨Nat.le_of_ble_eq_true rfl, Nat.le_of_ble_eq_true rfl⟩ (Nat.le_of_ble_eq_true rfl) dX0_init_36 (fun H locs hB => ?_)
  refine kk_put (i := 0) (ty := .object "FarBanks$Row") 2 C hnm hB rfl rfl ilX0 tyX0_ok nmX0 (by decide) fl_X0_23 rfl rfl rfl (by decide +kernel) rfl rfl (Nat.le_of_ble_eq_true rfl) rfl dX0_init_39 (fun H locs hB => ?_)
  have hB : kSt X (kFr a (a + 1)) s a ([(.inr (0, [.ref (a + 1), .ref (a + 3), .ref (a + 5), .null, .null]) : va_E), .inr (5, [.ref (a + 2)]), gAr X 100 (fun _ => 0), .inr (5, [.ref (a + 4)]), gAr X 8 (fun _ => 0), .inr (5, [.ref (a + 6)]), gAr X 4 (fun _ => 0)]) H locs _ := hB
  refine g_aload_n C hl dX0_init_42 rfl ?_
  refine kk_new (ci := 5) (n := 7) (fs := [.null]) tyX5 C hB rfl tyX5_ok ilX5 cl_X0_9 ib_X5 in_X5 rfl (fun j hj => by obtain rfl : j = 0 := (by omega); rfl) (Nat.le_of_ble_eq_true rfl) (Nat.le_of_ble_eq_true rfl) dX0_init_43 (fun H hB => ?_)
  refine g_dup C dX0_init_46 rfl ?_
  refine g_bipush 8 C dX0_init_47 (by decide) ?_
  refine kk_call (n := 7) C hl.1 hO hB rfl im_X5_init co_X5_init in_X5 (by decide +kernel) rfl ml_X0_11 (kc_X5 l hI (n := 8) (by decide)) rfl rfl rfl ⟨Nat.le_of_ble_eq_true rfl, Nat.le_of_ble_eq_true rfl⟩ ⟨Nat.le_of_ble_eq_true rfl, Nat.le_of_ble_eq_true rfl⟩ (Nat.le_of_ble_eq_true rfl) dX0_init_49 (fun H locs hB => ?_)
  refine kk_put (i := 0) (ty := .object "FarBanks$Row") 3 C hnm hB rfl rfl ilX0 tyX0_ok nmX0 (by decide) fl_X0_26 rfl rfl rfl (by decide +kernel) rfl rfl (Nat.le_of_ble_eq_true rfl) rfl dX0_init_52 (fun H locs hB => ?_)
  have hB : kSt X (kFr a (a + 1)) s a ([(.inr (0, [.ref (a + 1), .ref (a + 3), .ref (a + 5), .ref (a + 7), .null]) : va_E), .inr (5, [.ref (a + 2)]), gAr X 100 (fun _ => 0), .inr (5, [.ref (a + 4)]), gAr X 8 (fun _ => 0), .inr (5, [.ref (a + 6)]), gAr X 4 (fun _ => 0), .inr (5, [.ref (a + 8)]), gAr X 8 (fun _ => 0)]) H locs _ := hB
  refine g_aload_n C hl dX0_init_55 rfl ?_
  refine kk_new (ci := 5) (n := 9) (fs := [.null]) tyX5 C hB rfl tyX5_ok ilX5 cl_X0_9 ib_X5 in_X5 rfl (fun j hj => by obtain rfl : j = 0 := (by omega); rfl) (Nat.le_of_ble_eq_true rfl) (Nat.le_of_ble_eq_true rfl) dX0_init_56 (fun H hB => ?_)
  refine g_dup C dX0_init_59 rfl ?_
  refine g_bipush 8 C dX0_init_60 (by decide) ?_
  refine kk_call (n := 9) C hl.1 hO hB rfl im_X5_init co_X5_init in_X5 (by decide +kernel) rfl ml_X0_11 (kc_X5 l hI (n := 8) (by decide)) rfl rfl rfl ⟨Nat.le_of_ble_eq_true rfl, Nat.le_of_ble_eq_true rfl⟩ ⟨Nat.le_of_ble_eq_true rfl, Nat.le_of_ble_eq_true rfl⟩ (Nat.le_of_ble_eq_true rfl) dX0_init_62 (fun H locs hB => ?_)
  refine kk_put (i := 0) (ty := .object "FarBanks$Row") 4 C hnm hB rfl rfl ilX0 tyX0_ok nmX0 (by decide) fl_X0_29 rfl rfl rfl (by decide +kernel) rfl rfl (Nat.le_of_ble_eq_true rfl) rfl dX0_init_65 (fun H locs hB => ?_)
  have hB : kSt X (kFr a (a + 1)) s a ([(.inr (0, [.ref (a + 1), .ref (a + 3), .ref (a + 5), .ref (a + 7), .ref (a + 9)]) : va_E), .inr (5, [.ref (a + 2)]), gAr X 100 (fun _ => 0), .inr (5, [.ref (a + 4)]), gAr X 8 (fun _ => 0), .inr (5, [.ref (a + 6)]), gAr X 4 (fun _ => 0), .inr (5, [.ref (a + 8)]), gAr X 8 (fun _ => 0), .inr (5, [.ref (a + 10)]), gAr X 8 (fun _ => 0)]) H locs _ := hB
  refine g_iconst 0 C dX0_init_68 (by decide) ?_
  refine g_istore_n C hl dX0_init_69 (Nat.le_of_ble_eq_true rfl) (fun ls hl => ?_)
  refine g_iload_n C hl dX0_init_70 rfl ?_
  refine g_iconst 4 C dX0_init_71 (by decide) ?_
  refine g_icmp_ge (tgt := 90) C dX0_init_72 (by decide) (by decide) (by decide) (fun z9 => absurd z9 (by decide)) (fun _ => ?_)
  refine g_aload_n C hl dX0_init_75 rfl ?_
  refine kk_get (i := 0) 2 C hB rfl rfl ilX0 (by decide) fl_X0_23 rfl rfl rfl dX0_init_76 ?_
  refine g_iload_n C hl dX0_init_79 rfl ?_
  refine g_iload_n C hl dX0_init_80 rfl ?_
  refine kk_write (i := 5) C hI hl.1 hB rfl rfl (by decide) (by decide) rfl ml_X0_32 ⟨Nat.le_of_ble_eq_true rfl, Nat.le_of_ble_eq_true rfl⟩ ⟨Nat.le_of_ble_eq_true rfl, Nat.le_of_ble_eq_true rfl⟩ (Nat.le_of_ble_eq_true rfl) dX0_init_81 (fun H locs hB => ?_)
  have hB : kSt X (kFr a (a + 1)) s a ([(.inr (0, [.ref (a + 1), .ref (a + 3), .ref (a + 5), .ref (a + 7), .ref (a + 9)]) : va_E), .inr (5, [.ref (a + 2)]), gAr X 100 (fun _ => 0), .inr (5, [.ref (a + 4)]), gAr X 8 (fun _ => 0), .inr (5, [.ref (a + 6)]), gAr X 4 (fU (fun _ => 0) 0 0), .inr (5, [.ref (a + 8)]), gAr X 8 (fun _ => 0), .inr (5, [.ref (a + 10)]), gAr X 8 (fun _ => 0)]) H locs _ := hB
  refine g_iinc (k := 1) C hl dX0_init_84 rfl (by decide) (fun ls hl => ?_)
  refine g_goto (tgt := 70) C dX0_init_87 (by decide) ?_
  refine g_iload_n C hl dX0_init_70 rfl ?_
  refine g_iconst 4 C dX0_init_71 (by decide) ?_
  refine g_icmp_ge (tgt := 90) C dX0_init_72 (by decide) (by decide) (by decide) (fun z9 => absurd z9 (by decide)) (fun _ => ?_)
  refine g_aload_n C hl dX0_init_75 rfl ?_
  refine kk_get (i := 0) 2 C hB rfl rfl ilX0 (by decide) fl_X0_23 rfl rfl rfl dX0_init_76 ?_
  refine g_iload_n C hl dX0_init_79 rfl ?_
  refine g_iload_n C hl dX0_init_80 rfl ?_
  refine kk_write (i := 5) C hI hl.1 hB rfl rfl (by decide) (by decide) rfl ml_X0_32 ⟨Nat.le_of_ble_eq_true rfl, Nat.le_of_ble_eq_true rfl⟩ ⟨Nat.le_of_ble_eq_true rfl, Nat.le_of_ble_eq_true rfl⟩ (Nat.le_of_ble_eq_true rfl) dX0_init_81 (fun H locs hB => ?_)
  have hB : kSt X (kFr a (a + 1)) s a ([(.inr (0, [.ref (a + 1), .ref (a + 3), .ref (a + 5), .ref (a + 7), .ref (a + 9)]) : va_E), .inr (5, [.ref (a + 2)]), gAr X 100 (fun _ => 0), .inr (5, [.ref (a + 4)]), gAr X 8 (fun _ => 0), .inr (5, [.ref (a + 6)]), gAr X 4 (fU (fU (fun _ => 0) 0 0) 1 1), .inr (5, [.ref (a + 8)]), gAr X 8 (fun _ => 0), .inr (5, [.ref (a + 10)]), gAr X 8 (fun _ => 0)]) H locs _ := hB
  refine g_iinc (k := 1) C hl dX0_init_84 rfl (by decide) (fun ls hl => ?_)
  refine g_goto (tgt := 70) C dX0_init_87 (by decide) ?_
  refine g_iload_n C hl dX0_init_70 rfl ?_
  refine g_iconst 4 C dX0_init_71 (by decide) ?_
  refine g_icmp_ge (tgt := 90) C dX0_init_72 (by decide) (by decide) (by decide) (fun z9 => absurd z9 (by decide)) (fun _ => ?_)
  refine g_aload_n C hl dX0_init_75 rfl ?_
  refine kk_get (i := 0) 2 C hB rfl rfl ilX0 (by decide) fl_X0_23 rfl rfl rfl dX0_init_76 ?_
  refine g_iload_n C hl dX0_init_79 rfl ?_
  refine g_iload_n C hl dX0_init_80 rfl ?_
  refine kk_write (i := 5) C hI hl.1 hB rfl rfl (by decide) (by decide) rfl ml_X0_32 ⟨Nat.le_of_ble_eq_true rfl, Nat.le_of_ble_eq_true rfl⟩ ⟨Nat.le_of_ble_eq_true rfl, Nat.le_of_ble_eq_true rfl⟩ (Nat.le_of_ble_eq_true rfl) dX0_init_81 (fun H locs hB => ?_)
  have hB : kSt X (kFr a (a + 1)) s a ([(.inr (0, [.ref (a + 1), .ref (a + 3), .ref (a + 5), .ref (a + 7), .ref (a + 9)]) : va_E), .inr (5, [.ref (a + 2)]), gAr X 100 (fun _ => 0), .inr (5, [.ref (a + 4)]), gAr X 8 (fun _ => 0), .inr (5, [.ref (a + 6)]), gAr X 4 (fU (fU (fU (fun _ => 0) 0 0) 1 1) 2 2), .inr (5, [.ref (a + 8)]), gAr X 8 (fun _ => 0), .inr (5, [.ref (a + 10)]), gAr X 8 (fun _ => 0)]) H locs _ := hB
  refine g_iinc (k := 1) C hl dX0_init_84 rfl (by decide) (fun ls hl => ?_)
  refine g_goto (tgt := 70) C dX0_init_87 (by decide) ?_
  refine g_iload_n C hl dX0_init_70 rfl ?_
  refine g_iconst 4 C dX0_init_71 (by decide) ?_
  refine g_icmp_ge (tgt := 90) C dX0_init_72 (by decide) (by decide) (by decide) (fun z9 => absurd z9 (by decide)) (fun _ => ?_)
  refine g_aload_n C hl dX0_init_75 rfl ?_
  refine kk_get (i := 0) 2 C hB rfl rfl ilX0 (by decide) fl_X0_23 rfl rfl rfl dX0_init_76 ?_
  refine g_iload_n C hl dX0_init_79 rfl ?_
  refine g_iload_n C hl dX0_init_80 rfl ?_
  refine kk_write (i := 5) C hI hl.1 hB rfl rfl (by decide) (by decide) rfl ml_X0_32 ⟨Nat.le_of_ble_eq_true rfl, Nat.le_of_ble_eq_true rfl⟩ ⟨Nat.le_of_ble_eq_true rfl, Nat.le_of_ble_eq_true rfl⟩ (Nat.le_of_ble_eq_true rfl) dX0_init_81 (fun H locs hB => ?_)
  have hB : kSt X (kFr a (a + 1)) s a ([(.inr (0, [.ref (a + 1), .ref (a + 3), .ref (a + 5), .ref (a + 7), .ref (a + 9)]) : va_E), .inr (5, [.ref (a + 2)]), gAr X 100 (fun _ => 0), .inr (5, [.ref (a + 4)]), gAr X 8 (fun _ => 0), .inr (5, [.ref (a + 6)]), gAr X 4 (fU (fU (fU (fU (fun _ => 0) 0 0) 1 1) 2 2) 3 3), .inr (5, [.ref (a + 8)]), gAr X 8 (fun _ => 0), .inr (5, [.ref (a + 10)]), gAr X 8 (fun _ => 0)]) H locs _ := hB
  refine g_iinc (k := 1) C hl dX0_init_84 rfl (by decide) (fun ls hl => ?_)
  refine g_goto (tgt := 70) C dX0_init_87 (by decide) ?_
  refine g_iload_n C hl dX0_init_70 rfl ?_
  refine g_iconst 4 C dX0_init_71 (by decide) ?_
  refine g_icmp_ge (tgt := 90) C dX0_init_72 (by decide) (by decide) (by decide) (fun _ => ?_) (fun z9 => absurd z9 (by decide))
  exact kk_ret C hz hB dX0_init_90
set_option maxRecDepth 100000 in
set_option maxHeartbeats 4000000 in
theorem kc_X4 (l : Launch) {X : gX} (hI : gInj X) {a : Nat} : kC l yX4_init cX4_init 1 3 66 17 204 X [] a (.inr (4, [.null, .null, .null, .int (nI 0), .int (nI 0), .int (nI 0), .int (nI 0), .int (nI 0)])) (kMc X (a)) := by
  refine kC.of (own := RX4) (by decide) rfl hI (by simp [Value.category]) (Nat.le_of_ble_eq_true rfl) ?_
  intro p e s m args below meth c ls C hnm hl hO hz hB
  refine g_aload_n C hl dX4_init_0 rfl ?_
  refine k_obj C hl.1 ml_X4_3 (Nat.le_of_ble_eq_true rfl) (Nat.le_of_ble_eq_true rfl) dX4_init_1 ?_
  refine g_aload_n C hl dX4_init_4 rfl ?_
  refine kk_new (ci := 0) (n := 1) (fs := [.null, .null, .null, .null, .null]) tyX0 C hB rfl tyX0_ok ilX0 cl_X4_9 ib_X0 in_X0 rfl (fun j hj => by rcases (show j = 0 ∨ j = 1 ∨ j = 2 ∨ j = 3 ∨ j = 4 by omega) with rfl | rfl | rfl | rfl | rfl <;> rfl) (Nat.le_of_ble_eq_true rfl) (Nat.le_of_ble_eq_true rfl) dX4_init_5 (fun H hB => ?_)
  refine g_dup C dX4_init_8 rfl ?_
  refine kk_call (n := 1) C hl.1 hO hB rfl im_X0_init co_X0_init in_X0 (by decide +kernel) rfl ml_X4_11 (kc_X0 l hI) rfl rfl rfl ⟨Nat.le_of_ble_eq_true rfl, Nat.le_of_ble_eq_true rfl⟩ ⟨Nat.le_of_ble_eq_true rfl, Nat.le_of_ble_eq_true rfl⟩ (Nat.le_of_ble_eq_true rfl) dX4_init_9 (fun H locs hB => ?_)
  refine kk_put (i := 0) (ty := .object "FarBanks$Banks") 0 C hnm hB rfl rfl ilX4 tyX4_ok nmX4 (by decide) fl_X4_12 rfl rfl rfl (by decide +kernel) rfl rfl (Nat.le_of_ble_eq_true rfl) rfl dX4_init_12 (fun H locs hB => ?_)
  have hB : kSt X (kFr a (a + 1)) s a ((.inr (4, [.ref (a + 1), .null, .null, .int (nI 0), .int (nI 0), .int (nI 0), .int (nI 0), .int (nI 0)]) : va_E) :: (kBk X (a + 1))) H locs _ := hB
  refine g_aload_n C hl dX4_init_15 rfl ?_
  refine kk_new (ci := 2) (n := 12) (fs := [.null, .int (nI 0)]) tyX2 C hB rfl tyX2_ok ilX2 cl_X4_18 ib_X2 in_X2 rfl (fun j hj => by rcases (show j = 0 ∨ j = 1 by omega) with rfl | rfl <;> rfl) (Nat.le_of_ble_eq_true rfl) (Nat.le_of_ble_eq_true rfl) dX4_init_16 (fun H hB => ?_)
  refine g_dup C dX4_init_19 rfl ?_
  refine kk_callN (n := 12) C hl.1 hO hB rfl im_X2_init co_X2_init in_X2 (by decide +kernel) rfl mn_X4_20 (kc_X2 l hI) rfl rfl rfl ⟨Nat.le_of_ble_eq_true rfl, Nat.le_of_ble_eq_true rfl⟩ ⟨Nat.le_of_ble_eq_true rfl, Nat.le_of_ble_eq_true rfl⟩ (Nat.le_of_ble_eq_true rfl) dX4_init_20 (fun H locs hB => ?_)
  refine kk_put (i := 0) (ty := .object "FarBanks$Frames") 1 C hnm hB rfl rfl ilX4 tyX4_ok nmX4 (by decide) fl_X4_21 rfl rfl rfl (by decide +kernel) rfl rfl (Nat.le_of_ble_eq_true rfl) rfl dX4_init_23 (fun H locs hB => ?_)
  have hB : kSt X (kFr a (a + 1)) s a ((.inr (4, [.ref (a + 1), .ref (a + 12), .null, .int (nI 0), .int (nI 0), .int (nI 0), .int (nI 0), .int (nI 0)]) : va_E) :: (kBk X (a + 1) ++ kFt X (a + 12) 2 24)) H locs _ := hB
  refine g_aload_n C hl dX4_init_26 rfl ?_
  refine kk_new (ci := 7) (n := 15) (fs := [.null, .int (nI 0)]) tyX7 C hB rfl tyX7_ok ilX7 cl_X4_25 ib_X7 in_X7 rfl (fun j hj => by rcases (show j = 0 ∨ j = 1 by omega) with rfl | rfl <;> rfl) (Nat.le_of_ble_eq_true rfl) (Nat.le_of_ble_eq_true rfl) dX4_init_27 (fun H hB => ?_)
  refine g_dup C dX4_init_30 rfl ?_
  refine kk_callN (n := 15) C hl.1 hO hB rfl im_X7_init co_X7_init in_X7 (by decide +kernel) rfl mn_X4_27 (kc_X7 l hI) rfl rfl rfl ⟨Nat.le_of_ble_eq_true rfl, Nat.le_of_ble_eq_true rfl⟩ ⟨Nat.le_of_ble_eq_true rfl, Nat.le_of_ble_eq_true rfl⟩ (Nat.le_of_ble_eq_true rfl) dX4_init_31 (fun H locs hB => ?_)
  refine kk_put (i := 0) (ty := .object "FarBanks$Trail") 2 C hnm hB rfl rfl ilX4 tyX4_ok nmX4 (by decide) fl_X4_28 rfl rfl rfl (by decide +kernel) rfl rfl (Nat.le_of_ble_eq_true rfl) rfl dX4_init_34 (fun H locs hB => ?_)
  have hB : kSt X (kFr a (a + 1)) s a ((.inr (4, [.ref (a + 1), .ref (a + 12), .ref (a + 15), .int (nI 0), .int (nI 0), .int (nI 0), .int (nI 0), .int (nI 0)]) : va_E) :: ((kBk X (a + 1) ++ kFt X (a + 12) 2 24) ++ kFt X (a + 15) 7 36)) H locs _ := hB
  exact kk_ret C hz hB dX4_init_37
set_option maxRecDepth 100000 in
set_option maxHeartbeats 4000000 in
theorem kc_X6 (l : Launch) {X : gX} (hI : gInj X) {a : Nat} : kC l yX6_init cX6_init 1 1 24 1 80 X [] a (.inr (6, [.null, .int (nI 0)])) (kTc X (a)) := by
  refine kC.of (own := RX6) (by decide) rfl hI (by simp [Value.category]) (Nat.le_of_ble_eq_true rfl) ?_
  intro p e s m args below meth c ls C hnm hl hO hz hB
  refine g_aload_n C hl dX6_init_0 rfl ?_
  refine k_obj C hl.1 ml_X6_3 (Nat.le_of_ble_eq_true rfl) (Nat.le_of_ble_eq_true rfl) dX6_init_1 ?_
  refine g_aload_n C hl dX6_init_4 rfl ?_
  refine g_bipush 80 C dX6_init_5 (by decide) ?_
  refine kk_newc (n := 1) (k := 80) C hB rfl (by decide) (Nat.le_of_ble_eq_true rfl) (Nat.le_of_ble_eq_true rfl) dX6_init_7 (fun H hB => ?_)
  refine kk_put (i := 0) (ty := .array .char) 0 C hnm hB rfl rfl ilX6 tyX6_ok nmX6 (by decide) fl_X6_9 rfl rfl rfl (by decide +kernel) rfl rfl (Nat.le_of_ble_eq_true rfl) rfl dX6_init_9 (fun H locs hB => ?_)
  have hB : kSt X (kFr a (a + 1)) s a ([(.inr (6, [.ref (a + 1), .int (nI 0)]) : va_E), .inl (gCl X 1, 80, .inl (fun _ => nI 0))]) H locs _ := hB
  exact kk_ret C hz hB dX6_init_12
set_option maxRecDepth 100000 in
set_option maxHeartbeats 4000000 in
theorem kc_X3 (l : Launch) {X : gX} (hI : gInj X) {a : Nat} : kC l yX3_init cX3_init 2 4 86 73 852 X [] a (.inr (3, [.null, .int (nI 0)])) (kHc X (a)) := by
  refine kC.of (own := RX3) (by decide) rfl hI (by simp [Value.category]) (Nat.le_of_ble_eq_true rfl) ?_
  intro p e s m args below meth c ls C hnm hl hO hz hB
  refine g_aload_n C hl dX3_init_0 rfl ?_
  refine k_obj C hl.1 ml_X3_3 (Nat.le_of_ble_eq_true rfl) (Nat.le_of_ble_eq_true rfl) dX3_init_1 ?_
  refine g_aload_n C hl dX3_init_4 rfl ?_
  refine g_iconst 4 C dX3_init_5 (by decide) ?_
  refine kk_newq (n := 1) (k := 4) C hO hB rfl cl_X3_9 (by decide) (Nat.le_of_ble_eq_true rfl) (Nat.le_of_ble_eq_true rfl) dX3_init_6 (fun H hB => ?_)
  refine kk_put (i := 0) (ty := .array (.object "FarBanks$Machine")) 0 C hnm hB rfl rfl ilX3 tyX3_ok nmX3 (by decide) fl_X3_11 rfl rfl rfl (by decide +kernel) rfl rfl (Nat.le_of_ble_eq_true rfl) rfl dX3_init_9 (fun H locs hB => ?_)
  have hB : kSt X (kFr a (a + 1)) s a ([(.inr (3, [.ref (a + 1), .int (nI 0)]) : va_E), .inl (gCl X 2, 4, .inr (.inr (.inr (.inr (fun _ => none)))))]) H locs _ := hB
  refine g_iconst 0 C dX3_init_12 (by decide) ?_
  refine g_istore_n C hl dX3_init_13 (Nat.le_of_ble_eq_true rfl) (fun ls hl => ?_)
  refine g_iload_n C hl dX3_init_14 rfl ?_
  refine g_aload_n C hl dX3_init_15 rfl ?_
  refine kk_get (i := 0) 0 C hB rfl rfl ilX3 (by decide) fl_X3_11 rfl rfl rfl dX3_init_16 ?_
  refine kk_alenq (i := 1) C hB rfl rfl dX3_init_19 ?_
  refine g_icmp_ge (tgt := 42) C dX3_init_20 (by decide) (by decide) (by decide) (fun z9 => absurd z9 (by decide)) (fun _ => ?_)
  refine g_aload_n C hl dX3_init_23 rfl ?_
  refine kk_get (i := 0) 0 C hB rfl rfl ilX3 (by decide) fl_X3_11 rfl rfl rfl dX3_init_24 ?_
  refine g_iload_n C hl dX3_init_27 rfl ?_
  refine kk_new (ci := 4) (n := 2) (fs := [.null, .null, .null, .int (nI 0), .int (nI 0), .int (nI 0), .int (nI 0), .int (nI 0)]) tyX4 C hB rfl tyX4_ok ilX4 cl_X3_9 ib_X4 in_X4 rfl (fun j hj => by rcases (show j = 0 ∨ j = 1 ∨ j = 2 ∨ j = 3 ∨ j = 4 ∨ j = 5 ∨ j = 6 ∨ j = 7 by omega) with rfl | rfl | rfl | rfl | rfl | rfl | rfl | rfl <;> rfl) (Nat.le_of_ble_eq_true rfl) (Nat.le_of_ble_eq_true rfl) dX3_init_28 (fun H hB => ?_)
  refine g_dup C dX3_init_31 rfl ?_
  refine kk_callN (n := 2) C hl.1 hO hB rfl im_X4_init co_X4_init in_X4 (by decide +kernel) rfl mn_X3_17 (kc_X4 l hI) rfl rfl rfl ⟨Nat.le_of_ble_eq_true rfl, Nat.le_of_ble_eq_true rfl⟩ ⟨Nat.le_of_ble_eq_true rfl, Nat.le_of_ble_eq_true rfl⟩ (Nat.le_of_ble_eq_true rfl) dX3_init_32 (fun H locs hB => ?_)
  refine kk_astq (i := 1) (j := 2) C hB rfl rfl (by decide) (by decide) rfl rfl dX3_init_35 (fun H locs hB => ?_)
  have hB : kSt X (kFr a (a + 1)) s a ((.inr (3, [.ref (a + 1), .int (nI 0)]) : va_E) :: .inl (gCl X 2, 4, .inr (.inr (.inr (.inr (va_up (fun _ => none) 0 (some (a + 2))))))) :: (kMc X (a + 2))) H locs _ := hB
  refine g_iinc (k := 1) C hl dX3_init_36 rfl (by decide) (fun ls hl => ?_)
  refine g_goto (tgt := 14) C dX3_init_39 (by decide) ?_
  refine g_iload_n C hl dX3_init_14 rfl ?_
  refine g_aload_n C hl dX3_init_15 rfl ?_
  refine kk_get (i := 0) 0 C hB rfl rfl ilX3 (by decide) fl_X3_11 rfl rfl rfl dX3_init_16 ?_
  refine kk_alenq (i := 1) C hB rfl rfl dX3_init_19 ?_
  refine g_icmp_ge (tgt := 42) C dX3_init_20 (by decide) (by decide) (by decide) (fun z9 => absurd z9 (by decide)) (fun _ => ?_)
  refine g_aload_n C hl dX3_init_23 rfl ?_
  refine kk_get (i := 0) 0 C hB rfl rfl ilX3 (by decide) fl_X3_11 rfl rfl rfl dX3_init_24 ?_
  refine g_iload_n C hl dX3_init_27 rfl ?_
  refine kk_new (ci := 4) (n := 20) (fs := [.null, .null, .null, .int (nI 0), .int (nI 0), .int (nI 0), .int (nI 0), .int (nI 0)]) tyX4 C hB rfl tyX4_ok ilX4 cl_X3_9 ib_X4 in_X4 rfl (fun j hj => by rcases (show j = 0 ∨ j = 1 ∨ j = 2 ∨ j = 3 ∨ j = 4 ∨ j = 5 ∨ j = 6 ∨ j = 7 by omega) with rfl | rfl | rfl | rfl | rfl | rfl | rfl | rfl <;> rfl) (Nat.le_of_ble_eq_true rfl) (Nat.le_of_ble_eq_true rfl) dX3_init_28 (fun H hB => ?_)
  refine g_dup C dX3_init_31 rfl ?_
  refine kk_callN (n := 20) C hl.1 hO hB rfl im_X4_init co_X4_init in_X4 (by decide +kernel) rfl mn_X3_17 (kc_X4 l hI) rfl rfl rfl ⟨Nat.le_of_ble_eq_true rfl, Nat.le_of_ble_eq_true rfl⟩ ⟨Nat.le_of_ble_eq_true rfl, Nat.le_of_ble_eq_true rfl⟩ (Nat.le_of_ble_eq_true rfl) dX3_init_32 (fun H locs hB => ?_)
  refine kk_astq (i := 1) (j := 20) C hB rfl rfl (by decide) (by decide) rfl rfl dX3_init_35 (fun H locs hB => ?_)
  have hB : kSt X (kFr a (a + 1)) s a ((.inr (3, [.ref (a + 1), .int (nI 0)]) : va_E) :: .inl (gCl X 2, 4, .inr (.inr (.inr (.inr (va_up (va_up (fun _ => none) 0 (some (a + 2))) 1 (some (a + 20))))))) :: (kMc X (a + 2) ++ kMc X (a + 20))) H locs _ := hB
  refine g_iinc (k := 1) C hl dX3_init_36 rfl (by decide) (fun ls hl => ?_)
  refine g_goto (tgt := 14) C dX3_init_39 (by decide) ?_
  refine g_iload_n C hl dX3_init_14 rfl ?_
  refine g_aload_n C hl dX3_init_15 rfl ?_
  refine kk_get (i := 0) 0 C hB rfl rfl ilX3 (by decide) fl_X3_11 rfl rfl rfl dX3_init_16 ?_
  refine kk_alenq (i := 1) C hB rfl rfl dX3_init_19 ?_
  refine g_icmp_ge (tgt := 42) C dX3_init_20 (by decide) (by decide) (by decide) (fun z9 => absurd z9 (by decide)) (fun _ => ?_)
  refine g_aload_n C hl dX3_init_23 rfl ?_
  refine kk_get (i := 0) 0 C hB rfl rfl ilX3 (by decide) fl_X3_11 rfl rfl rfl dX3_init_24 ?_
  refine g_iload_n C hl dX3_init_27 rfl ?_
  refine kk_new (ci := 4) (n := 38) (fs := [.null, .null, .null, .int (nI 0), .int (nI 0), .int (nI 0), .int (nI 0), .int (nI 0)]) tyX4 C hB rfl tyX4_ok ilX4 cl_X3_9 ib_X4 in_X4 rfl (fun j hj => by rcases (show j = 0 ∨ j = 1 ∨ j = 2 ∨ j = 3 ∨ j = 4 ∨ j = 5 ∨ j = 6 ∨ j = 7 by omega) with rfl | rfl | rfl | rfl | rfl | rfl | rfl | rfl <;> rfl) (Nat.le_of_ble_eq_true rfl) (Nat.le_of_ble_eq_true rfl) dX3_init_28 (fun H hB => ?_)
  refine g_dup C dX3_init_31 rfl ?_
  refine kk_callN (n := 38) C hl.1 hO hB rfl im_X4_init co_X4_init in_X4 (by decide +kernel) rfl mn_X3_17 (kc_X4 l hI) rfl rfl rfl ⟨Nat.le_of_ble_eq_true rfl, Nat.le_of_ble_eq_true rfl⟩ ⟨Nat.le_of_ble_eq_true rfl, Nat.le_of_ble_eq_true rfl⟩ (Nat.le_of_ble_eq_true rfl) dX3_init_32 (fun H locs hB => ?_)
  refine kk_astq (i := 1) (j := 38) C hB rfl rfl (by decide) (by decide) rfl rfl dX3_init_35 (fun H locs hB => ?_)
  have hB : kSt X (kFr a (a + 1)) s a ((.inr (3, [.ref (a + 1), .int (nI 0)]) : va_E) :: .inl (gCl X 2, 4, .inr (.inr (.inr (.inr (va_up (va_up (va_up (fun _ => none) 0 (some (a + 2))) 1 (some (a + 20))) 2 (some (a + 38))))))) :: ((kMc X (a + 2) ++ kMc X (a + 20)) ++ kMc X (a + 38))) H locs _ := hB
  refine g_iinc (k := 1) C hl dX3_init_36 rfl (by decide) (fun ls hl => ?_)
  refine g_goto (tgt := 14) C dX3_init_39 (by decide) ?_
  refine g_iload_n C hl dX3_init_14 rfl ?_
  refine g_aload_n C hl dX3_init_15 rfl ?_
  refine kk_get (i := 0) 0 C hB rfl rfl ilX3 (by decide) fl_X3_11 rfl rfl rfl dX3_init_16 ?_
  refine kk_alenq (i := 1) C hB rfl rfl dX3_init_19 ?_
  refine g_icmp_ge (tgt := 42) C dX3_init_20 (by decide) (by decide) (by decide) (fun z9 => absurd z9 (by decide)) (fun _ => ?_)
  refine g_aload_n C hl dX3_init_23 rfl ?_
  refine kk_get (i := 0) 0 C hB rfl rfl ilX3 (by decide) fl_X3_11 rfl rfl rfl dX3_init_24 ?_
  refine g_iload_n C hl dX3_init_27 rfl ?_
  refine kk_new (ci := 4) (n := 56) (fs := [.null, .null, .null, .int (nI 0), .int (nI 0), .int (nI 0), .int (nI 0), .int (nI 0)]) tyX4 C hB rfl tyX4_ok ilX4 cl_X3_9 ib_X4 in_X4 rfl (fun j hj => by rcases (show j = 0 ∨ j = 1 ∨ j = 2 ∨ j = 3 ∨ j = 4 ∨ j = 5 ∨ j = 6 ∨ j = 7 by omega) with rfl | rfl | rfl | rfl | rfl | rfl | rfl | rfl <;> rfl) (Nat.le_of_ble_eq_true rfl) (Nat.le_of_ble_eq_true rfl) dX3_init_28 (fun H hB => ?_)
  refine g_dup C dX3_init_31 rfl ?_
  refine kk_callN (n := 56) C hl.1 hO hB rfl im_X4_init co_X4_init in_X4 (by decide +kernel) rfl mn_X3_17 (kc_X4 l hI) rfl rfl rfl ⟨Nat.le_of_ble_eq_true rfl, Nat.le_of_ble_eq_true rfl⟩ ⟨Nat.le_of_ble_eq_true rfl, Nat.le_of_ble_eq_true rfl⟩ (Nat.le_of_ble_eq_true rfl) dX3_init_32 (fun H locs hB => ?_)
  refine kk_astq (i := 1) (j := 56) C hB rfl rfl (by decide) (by decide) rfl rfl dX3_init_35 (fun H locs hB => ?_)
  have hB : kSt X (kFr a (a + 1)) s a ((.inr (3, [.ref (a + 1), .int (nI 0)]) : va_E) :: .inl (gCl X 2, 4, .inr (.inr (.inr (.inr (va_up (va_up (va_up (va_up (fun _ => none) 0 (some (a + 2))) 1 (some (a + 20))) 2 (some (a + 38))) 3 (some (a + 56))))))) :: (((kMc X (a + 2) ++ kMc X (a + 20)) ++ kMc X (a + 38)) ++ kMc X (a + 56))) H locs _ := hB
  refine g_iinc (k := 1) C hl dX3_init_36 rfl (by decide) (fun ls hl => ?_)
  refine g_goto (tgt := 14) C dX3_init_39 (by decide) ?_
  refine g_iload_n C hl dX3_init_14 rfl ?_
  refine g_aload_n C hl dX3_init_15 rfl ?_
  refine kk_get (i := 0) 0 C hB rfl rfl ilX3 (by decide) fl_X3_11 rfl rfl rfl dX3_init_16 ?_
  refine kk_alenq (i := 1) C hB rfl rfl dX3_init_19 ?_
  refine g_icmp_ge (tgt := 42) C dX3_init_20 (by decide) (by decide) (by decide) (fun _ => ?_) (fun z9 => absurd z9 (by decide))
  exact kk_ret C hz hB dX3_init_42
set_option maxRecDepth 100000 in
set_option maxHeartbeats 4000000 in
theorem kc_X8 (l : Launch) {X : gX} (hI : gInj X) {a : Nat} : kC l yX8_init cX8_init 1 5 107 133 1593 X [] a (.inr (8, [.null, .null, .null, .null, .null, .null, .int (nI 0)])) (kFb X (a)) := by
  refine kC.of (own := RX8) (by decide) rfl hI (by simp [Value.category]) (Nat.le_of_ble_eq_true rfl) ?_
  intro p e s m args below meth c ls C hnm hl hO hz hB
  refine g_aload_n C hl dX8_init_0 rfl ?_
  refine k_obj C hl.1 ml_X8_1 (Nat.le_of_ble_eq_true rfl) (Nat.le_of_ble_eq_true rfl) dX8_init_1 ?_
  refine g_aload_n C hl dX8_init_4 rfl ?_
  refine kk_new (ci := 4) (n := 1) (fs := [.null, .null, .null, .int (nI 0), .int (nI 0), .int (nI 0), .int (nI 0), .int (nI 0)]) tyX4 C hB rfl tyX4_ok ilX4 cl_X8_7 ib_X4 in_X4 rfl (fun j hj => by rcases (show j = 0 ∨ j = 1 ∨ j = 2 ∨ j = 3 ∨ j = 4 ∨ j = 5 ∨ j = 6 ∨ j = 7 by omega) with rfl | rfl | rfl | rfl | rfl | rfl | rfl | rfl <;> rfl) (Nat.le_of_ble_eq_true rfl) (Nat.le_of_ble_eq_true rfl) dX8_init_5 (fun H hB => ?_)
  refine g_dup C dX8_init_8 rfl ?_
  refine kk_callN (n := 1) C hl.1 hO hB rfl im_X4_init co_X4_init in_X4 (by decide +kernel) rfl mn_X8_9 (kc_X4 l hI) rfl rfl rfl ⟨Nat.le_of_ble_eq_true rfl, Nat.le_of_ble_eq_true rfl⟩ ⟨Nat.le_of_ble_eq_true rfl, Nat.le_of_ble_eq_true rfl⟩ (Nat.le_of_ble_eq_true rfl) dX8_init_9 (fun H locs hB => ?_)
  refine kk_put (i := 0) (ty := .object "FarBanks$Machine") 0 C hnm hB rfl rfl ilX8 tyX8_ok nmX8 (by decide) fl_X8_10 rfl rfl rfl (by decide +kernel) rfl rfl (Nat.le_of_ble_eq_true rfl) rfl dX8_init_12 (fun H locs hB => ?_)
  have hB : kSt X (kFr a (a + 1)) s a ((.inr (8, [.ref (a + 1), .null, .null, .null, .null, .null, .int (nI 0)]) : va_E) :: (kMc X (a + 1))) H locs _ := hB
  refine g_aload_n C hl dX8_init_15 rfl ?_
  refine kk_new (ci := 4) (n := 19) (fs := [.null, .null, .null, .int (nI 0), .int (nI 0), .int (nI 0), .int (nI 0), .int (nI 0)]) tyX4 C hB rfl tyX4_ok ilX4 cl_X8_7 ib_X4 in_X4 rfl (fun j hj => by rcases (show j = 0 ∨ j = 1 ∨ j = 2 ∨ j = 3 ∨ j = 4 ∨ j = 5 ∨ j = 6 ∨ j = 7 by omega) with rfl | rfl | rfl | rfl | rfl | rfl | rfl | rfl <;> rfl) (Nat.le_of_ble_eq_true rfl) (Nat.le_of_ble_eq_true rfl) dX8_init_16 (fun H hB => ?_)
  refine g_dup C dX8_init_19 rfl ?_
  refine kk_callN (n := 19) C hl.1 hO hB rfl im_X4_init co_X4_init in_X4 (by decide +kernel) rfl mn_X8_9 (kc_X4 l hI) rfl rfl rfl ⟨Nat.le_of_ble_eq_true rfl, Nat.le_of_ble_eq_true rfl⟩ ⟨Nat.le_of_ble_eq_true rfl, Nat.le_of_ble_eq_true rfl⟩ (Nat.le_of_ble_eq_true rfl) dX8_init_20 (fun H locs hB => ?_)
  refine kk_put (i := 0) (ty := .object "FarBanks$Machine") 1 C hnm hB rfl rfl ilX8 tyX8_ok nmX8 (by decide) fl_X8_16 rfl rfl rfl (by decide +kernel) rfl rfl (Nat.le_of_ble_eq_true rfl) rfl dX8_init_23 (fun H locs hB => ?_)
  have hB : kSt X (kFr a (a + 1)) s a ((.inr (8, [.ref (a + 1), .ref (a + 19), .null, .null, .null, .null, .int (nI 0)]) : va_E) :: (kMc X (a + 1) ++ kMc X (a + 19))) H locs _ := hB
  refine g_aload_n C hl dX8_init_26 rfl ?_
  refine kk_new (ci := 4) (n := 37) (fs := [.null, .null, .null, .int (nI 0), .int (nI 0), .int (nI 0), .int (nI 0), .int (nI 0)]) tyX4 C hB rfl tyX4_ok ilX4 cl_X8_7 ib_X4 in_X4 rfl (fun j hj => by rcases (show j = 0 ∨ j = 1 ∨ j = 2 ∨ j = 3 ∨ j = 4 ∨ j = 5 ∨ j = 6 ∨ j = 7 by omega) with rfl | rfl | rfl | rfl | rfl | rfl | rfl | rfl <;> rfl) (Nat.le_of_ble_eq_true rfl) (Nat.le_of_ble_eq_true rfl) dX8_init_27 (fun H hB => ?_)
  refine g_dup C dX8_init_30 rfl ?_
  refine kk_callN (n := 37) C hl.1 hO hB rfl im_X4_init co_X4_init in_X4 (by decide +kernel) rfl mn_X8_9 (kc_X4 l hI) rfl rfl rfl ⟨Nat.le_of_ble_eq_true rfl, Nat.le_of_ble_eq_true rfl⟩ ⟨Nat.le_of_ble_eq_true rfl, Nat.le_of_ble_eq_true rfl⟩ (Nat.le_of_ble_eq_true rfl) dX8_init_31 (fun H locs hB => ?_)
  refine kk_put (i := 0) (ty := .object "FarBanks$Machine") 2 C hnm hB rfl rfl ilX8 tyX8_ok nmX8 (by decide) fl_X8_19 rfl rfl rfl (by decide +kernel) rfl rfl (Nat.le_of_ble_eq_true rfl) rfl dX8_init_34 (fun H locs hB => ?_)
  have hB : kSt X (kFr a (a + 1)) s a ((.inr (8, [.ref (a + 1), .ref (a + 19), .ref (a + 37), .null, .null, .null, .int (nI 0)]) : va_E) :: ((kMc X (a + 1) ++ kMc X (a + 19)) ++ kMc X (a + 37))) H locs _ := hB
  refine g_aload_n C hl dX8_init_37 rfl ?_
  refine kk_new (ci := 3) (n := 55) (fs := [.null, .int (nI 0)]) tyX3 C hB rfl tyX3_ok ilX3 cl_X8_22 ib_X3 in_X3 rfl (fun j hj => by rcases (show j = 0 ∨ j = 1 by omega) with rfl | rfl <;> rfl) (Nat.le_of_ble_eq_true rfl) (Nat.le_of_ble_eq_true rfl) dX8_init_38 (fun H hB => ?_)
  refine g_dup C dX8_init_41 rfl ?_
  refine kk_call (n := 55) C hl.1 hO hB rfl im_X3_init co_X3_init in_X3 (by decide +kernel) rfl ml_X8_24 (kc_X3 l hI) rfl rfl rfl ⟨Nat.le_of_ble_eq_true rfl, Nat.le_of_ble_eq_true rfl⟩ ⟨Nat.le_of_ble_eq_true rfl, Nat.le_of_ble_eq_true rfl⟩ (Nat.le_of_ble_eq_true rfl) dX8_init_42 (fun H locs hB => ?_)
  refine kk_put (i := 0) (ty := .object "FarBanks$History") 3 C hnm hB rfl rfl ilX8 tyX8_ok nmX8 (by decide) fl_X8_25 rfl rfl rfl (by decide +kernel) rfl rfl (Nat.le_of_ble_eq_true rfl) rfl dX8_init_45 (fun H locs hB => ?_)
  have hB : kSt X (kFr a (a + 1)) s a ((.inr (8, [.ref (a + 1), .ref (a + 19), .ref (a + 37), .ref (a + 55), .null, .null, .int (nI 0)]) : va_E) :: (((kMc X (a + 1) ++ kMc X (a + 19)) ++ kMc X (a + 37)) ++ kHc X (a + 55))) H locs _ := hB
  refine g_aload_n C hl dX8_init_48 rfl ?_
  refine kk_new (ci := 6) (n := 129) (fs := [.null, .int (nI 0)]) tyX6 C hB rfl tyX6_ok ilX6 cl_X8_29 ib_X6 in_X6 rfl (fun j hj => by rcases (show j = 0 ∨ j = 1 by omega) with rfl | rfl <;> rfl) (Nat.le_of_ble_eq_true rfl) (Nat.le_of_ble_eq_true rfl) dX8_init_49 (fun H hB => ?_)
  refine g_dup C dX8_init_52 rfl ?_
  refine kk_callN (n := 129) C hl.1 hO hB rfl im_X6_init co_X6_init in_X6 (by decide +kernel) rfl mn_X8_31 (kc_X6 l hI) rfl rfl rfl ⟨Nat.le_of_ble_eq_true rfl, Nat.le_of_ble_eq_true rfl⟩ ⟨Nat.le_of_ble_eq_true rfl, Nat.le_of_ble_eq_true rfl⟩ (Nat.le_of_ble_eq_true rfl) dX8_init_53 (fun H locs hB => ?_)
  refine kk_put (i := 0) (ty := .object "FarBanks$Text") 4 C hnm hB rfl rfl ilX8 tyX8_ok nmX8 (by decide) fl_X8_32 rfl rfl rfl (by decide +kernel) rfl rfl (Nat.le_of_ble_eq_true rfl) rfl dX8_init_56 (fun H locs hB => ?_)
  have hB : kSt X (kFr a (a + 1)) s a ((.inr (8, [.ref (a + 1), .ref (a + 19), .ref (a + 37), .ref (a + 55), .ref (a + 129), .null, .int (nI 0)]) : va_E) :: ((((kMc X (a + 1) ++ kMc X (a + 19)) ++ kMc X (a + 37)) ++ kHc X (a + 55)) ++ kTc X (a + 129))) H locs _ := hB
  refine g_aload_n C hl dX8_init_59 rfl ?_
  refine kk_new (ci := 1) (n := 131) (fs := [.null, .int (nI 0), .int (nI 0), .int (nI 0)]) tyX1 C hB rfl tyX1_ok ilX1 cl_X8_36 ib_X1 in_X1 rfl (fun j hj => by rcases (show j = 0 ∨ j = 1 ∨ j = 2 ∨ j = 3 by omega) with rfl | rfl | rfl | rfl <;> rfl) (Nat.le_of_ble_eq_true rfl) (Nat.le_of_ble_eq_true rfl) dX8_init_60 (fun H hB => ?_)
  refine g_dup C dX8_init_63 rfl ?_
  refine kk_callN (n := 131) C hl.1 hO hB rfl im_X1_init co_X1_init in_X1 (by decide +kernel) rfl mn_X8_38 (kc_X1 l hI) rfl rfl rfl ⟨Nat.le_of_ble_eq_true rfl, Nat.le_of_ble_eq_true rfl⟩ ⟨Nat.le_of_ble_eq_true rfl, Nat.le_of_ble_eq_true rfl⟩ (Nat.le_of_ble_eq_true rfl) dX8_init_64 (fun H locs hB => ?_)
  refine kk_put (i := 0) (ty := .object "FarBanks$Code") 5 C hnm hB rfl rfl ilX8 tyX8_ok nmX8 (by decide) fl_X8_39 rfl rfl rfl (by decide +kernel) rfl rfl (Nat.le_of_ble_eq_true rfl) rfl dX8_init_67 (fun H locs hB => ?_)
  have hB : kSt X (kFr a (a + 1)) s a ((.inr (8, [.ref (a + 1), .ref (a + 19), .ref (a + 37), .ref (a + 55), .ref (a + 129), .ref (a + 131), .int (nI 0)]) : va_E) :: (((((kMc X (a + 1) ++ kMc X (a + 19)) ++ kMc X (a + 37)) ++ kHc X (a + 55)) ++ kTc X (a + 129)) ++ kCd X (a + 131))) H locs _ := hB
  exact kk_ret C hz hB dX8_init_70
end
