def RX0 : String := "FarBanks$Banks"
def TX0 : u_T := fun k => match k with
  | 0 => ("FarBanks$Banks", "cells", "LFarBanks$Row;", true)
  | 1 => ("FarBanks$Banks", "alone", "LFarBanks$Row;", true)
  | 2 => ("FarBanks$Banks", "shown", "LFarBanks$Row;", true)
  | 3 => ("FarBanks$Banks", "written", "LFarBanks$Row;", true)
  | _ => ("FarBanks$Banks", "refused", "LFarBanks$Row;", true)
def tyX0 : Nat → FieldType := fun k => match k with
  | 0 => .object "FarBanks$Row"
  | 1 => .object "FarBanks$Row"
  | 2 => .object "FarBanks$Row"
  | 3 => .object "FarBanks$Row"
  | _ => .object "FarBanks$Row"
abbrev wsX00 : List Cond := u_ws RX0 TX0 5
theorem nmX0 : ∀ a, a < 5 → ∀ b, b < 5 → a ≠ b → (TX0 a).2.1 ≠ (TX0 b).2.1 := by decide +kernel
theorem tyX0_ok : ∀ k, k < 5 → parseFieldDescriptor (TX0 k).2.2.1 = some (tyX0 k) := by decide +kernel
abbrev cX0_init : ByteArray := prog_2_method_1_code
def yX0_init : MethodName := ⟨RX0, "<init>", "()V"⟩
abbrev cX0_copyFrom : ByteArray := prog_2_method_2_code
def yX0_copyFrom : MethodName := ⟨RX0, "copyFrom", "(LFarBanks$Banks;)V"⟩
abbrev cX0_numberIn : ByteArray := prog_2_method_3_code
def yX0_numberIn : MethodName := ⟨RX0, "numberIn", "(II)I"⟩
abbrev cX0_fill : ByteArray := prog_2_method_4_code
def yX0_fill : MethodName := ⟨RX0, "fill", "(III)V"⟩
abbrev cX0_bankAt : ByteArray := prog_2_method_5_code
def yX0_bankAt : MethodName := ⟨RX0, "bankAt", "(I)I"⟩
abbrev cX0_numberAt : ByteArray := prog_2_method_6_code
def yX0_numberAt : MethodName := ⟨RX0, "numberAt", "(I)I"⟩
abbrev cX0_storeUnlessAlone : ByteArray := prog_2_method_7_code
def yX0_storeUnlessAlone : MethodName := ⟨RX0, "storeUnlessAlone", "(II)Z"⟩
abbrev cX0_isAlone : ByteArray := prog_2_method_8_code
def yX0_isAlone : MethodName := ⟨RX0, "isAlone", "(I)Z"⟩
abbrev cX0_differencesOf : ByteArray := prog_2_method_9_code
def yX0_differencesOf : MethodName := ⟨RX0, "differencesOf", "(II)I"⟩
abbrev cX0_copyCells : ByteArray := prog_2_method_10_code
def yX0_copyCells : MethodName := ⟨RX0, "copyCells", "(II)V"⟩
abbrev cX0_twinOf : ByteArray := prog_2_method_11_code
def yX0_twinOf : MethodName := ⟨RX0, "twinOf", "(I)I"⟩
abbrev cX0_windowsOf : ByteArray := prog_2_method_12_code
def yX0_windowsOf : MethodName := ⟨RX0, "windowsOf", "(I)I"⟩
abbrev cX0_usedCellsOf : ByteArray := prog_2_method_13_code
def yX0_usedCellsOf : MethodName := ⟨RX0, "usedCellsOf", "(I)I"⟩
abbrev cX0_indexOf : ByteArray := prog_2_method_14_code
def yX0_indexOf : MethodName := ⟨RX0, "indexOf", "(II)I"⟩
def RX1 : String := "FarBanks$Code"
def TX1 : u_T := fun k => match k with
  | 0 => ("FarBanks$Code", "orders", "LFarBanks$Row;", true)
  | 1 => ("FarBanks$Code", "size", "I", false)
  | 2 => ("FarBanks$Code", "position", "I", false)
  | _ => ("FarBanks$Code", "isSound", "Z", false)
def tyX1 : Nat → FieldType := fun k => match k with
  | 0 => .object "FarBanks$Row"
  | 1 => .int
  | 2 => .int
  | _ => .boolean
abbrev wsX10 : List Cond := u_ws RX1 TX1 4
theorem nmX1 : ∀ a, a < 4 → ∀ b, b < 4 → a ≠ b → (TX1 a).2.1 ≠ (TX1 b).2.1 := by decide +kernel
theorem tyX1_ok : ∀ k, k < 4 → parseFieldDescriptor (TX1 k).2.2.1 = some (tyX1 k) := by decide +kernel
abbrev cX1_init : ByteArray := prog_3_method_1_code
def yX1_init : MethodName := ⟨RX1, "<init>", "()V"⟩
def RX2 : String := "FarBanks$Frames"
def TX2 : u_T := fun k => match k with
  | 0 => ("FarBanks$Frames", "parts", "LFarBanks$Row;", true)
  | _ => ("FarBanks$Frames", "size", "I", false)
def tyX2 : Nat → FieldType := fun k => match k with
  | 0 => .object "FarBanks$Row"
  | _ => .int
abbrev wsX20 : List Cond := u_ws RX2 TX2 2
theorem nmX2 : ∀ a, a < 2 → ∀ b, b < 2 → a ≠ b → (TX2 a).2.1 ≠ (TX2 b).2.1 := by decide +kernel
theorem tyX2_ok : ∀ k, k < 2 → parseFieldDescriptor (TX2 k).2.2.1 = some (tyX2 k) := by decide +kernel
abbrev cX2_init : ByteArray := prog_4_method_1_code
def yX2_init : MethodName := ⟨RX2, "<init>", "()V"⟩
abbrev cX2_copyFrom : ByteArray := prog_4_method_2_code
def yX2_copyFrom : MethodName := ⟨RX2, "copyFrom", "(LFarBanks$Frames;)V"⟩
abbrev cX2_add : ByteArray := prog_4_method_3_code
def yX2_add : MethodName := ⟨RX2, "add", "(III)V"⟩
abbrev cX2_tell : ByteArray := prog_4_method_4_code
def yX2_tell : MethodName := ⟨RX2, "tell", "(II)I"⟩
abbrev cX2_howManyBackTo : ByteArray := prog_4_method_5_code
def yX2_howManyBackTo : MethodName := ⟨RX2, "howManyBackTo", "(I)I"⟩
def RX3 : String := "FarBanks$History"
def TX3 : u_T := fun k => match k with
  | 0 => ("FarBanks$History", "states", "[LFarBanks$Machine;", true)
  | _ => ("FarBanks$History", "size", "I", false)
def tyX3 : Nat → FieldType := fun k => match k with
  | 0 => .array (.object "FarBanks$Machine")
  | _ => .int
abbrev wsX30 : List Cond := u_ws RX3 TX3 2
theorem nmX3 : ∀ a, a < 2 → ∀ b, b < 2 → a ≠ b → (TX3 a).2.1 ≠ (TX3 b).2.1 := by decide +kernel
theorem tyX3_ok : ∀ k, k < 2 → parseFieldDescriptor (TX3 k).2.2.1 = some (tyX3 k) := by decide +kernel
abbrev cX3_init : ByteArray := prog_5_method_1_code
def yX3_init : MethodName := ⟨RX3, "<init>", "()V"⟩
abbrev cX3_remember : ByteArray := prog_5_method_2_code
def yX3_remember : MethodName := ⟨RX3, "remember", "(LFarBanks$Machine;)V"⟩
abbrev cX3_bringBack : ByteArray := prog_5_method_3_code
def yX3_bringBack : MethodName := ⟨RX3, "bringBack", "(LFarBanks$Machine;)V"⟩
abbrev cX3_dropOldest : ByteArray := prog_5_method_4_code
def yX3_dropOldest : MethodName := ⟨RX3, "dropOldest", "()V"⟩
def RX4 : String := "FarBanks$Machine"
def TX4 : u_T := fun k => match k with
  | 0 => ("FarBanks$Machine", "banks", "LFarBanks$Banks;", true)
  | 1 => ("FarBanks$Machine", "frames", "LFarBanks$Frames;", true)
  | 2 => ("FarBanks$Machine", "trail", "LFarBanks$Trail;", true)
  | 3 => ("FarBanks$Machine", "number", "I", false)
  | 4 => ("FarBanks$Machine", "place", "I", false)
  | 5 => ("FarBanks$Machine", "reason", "I", false)
  | 6 => ("FarBanks$Machine", "strict", "I", false)
  | _ => ("FarBanks$Machine", "calls", "I", false)
def tyX4 : Nat → FieldType := fun k => match k with
  | 0 => .object "FarBanks$Banks"
  | 1 => .object "FarBanks$Frames"
  | 2 => .object "FarBanks$Trail"
  | 3 => .int
  | 4 => .int
  | 5 => .int
  | 6 => .int
  | _ => .int
abbrev wsX40 : List Cond := u_ws RX4 TX4 8
theorem nmX4 : ∀ a, a < 8 → ∀ b, b < 8 → a ≠ b → (TX4 a).2.1 ≠ (TX4 b).2.1 := by decide +kernel
theorem tyX4_ok : ∀ k, k < 8 → parseFieldDescriptor (TX4 k).2.2.1 = some (tyX4 k) := by decide +kernel
abbrev cX4_init : ByteArray := prog_6_method_1_code
def yX4_init : MethodName := ⟨RX4, "<init>", "()V"⟩
abbrev cX4_copyFrom : ByteArray := prog_6_method_2_code
def yX4_copyFrom : MethodName := ⟨RX4, "copyFrom", "(LFarBanks$Machine;)V"⟩
abbrev cX4_startAt : ByteArray := prog_6_method_3_code
def yX4_startAt : MethodName := ⟨RX4, "startAt", "(I)V"⟩
abbrev cX4_takeSteps : ByteArray := prog_6_method_4_code
def yX4_takeSteps : MethodName := ⟨RX4, "takeSteps", "(I)I"⟩
abbrev cX4_step : ByteArray := prog_6_method_5_code
def yX4_step : MethodName := ⟨RX4, "step", "()V"⟩
abbrev cX4_hindranceOf : ByteArray := prog_6_method_6_code
def yX4_hindranceOf : MethodName := ⟨RX4, "hindranceOf", "(II)I"⟩
abbrev cX4_isBeyond : ByteArray := prog_6_method_7_code
def yX4_isBeyond : MethodName := ⟨RX4, "isBeyond", "(II)Z"⟩
abbrev cX4_carryOut : ByteArray := prog_6_method_8_code
def yX4_carryOut : MethodName := ⟨RX4, "carryOut", "(III)V"⟩
abbrev cX4_increase : ByteArray := prog_6_method_9_code
def yX4_increase : MethodName := ⟨RX4, "increase", "(I)V"⟩
abbrev cX4_callFrom : ByteArray := prog_6_method_10_code
def yX4_callFrom : MethodName := ⟨RX4, "callFrom", "(II)V"⟩
abbrev cX4_comeBack : ByteArray := prog_6_method_11_code
def yX4_comeBack : MethodName := ⟨RX4, "comeBack", "()V"⟩
def RX5 : String := "FarBanks$Row"
def TX5 : u_T := fun k => match k with
  | _ => ("FarBanks$Row", "numbers", "[I", true)
def tyX5 : Nat → FieldType := fun k => match k with
  | _ => .array .int
abbrev wsX50 : List Cond := u_ws RX5 TX5 1
theorem nmX5 : ∀ a, a < 1 → ∀ b, b < 1 → a ≠ b → (TX5 a).2.1 ≠ (TX5 b).2.1 := by decide +kernel
theorem tyX5_ok : ∀ k, k < 1 → parseFieldDescriptor (TX5 k).2.2.1 = some (tyX5 k) := by decide +kernel
abbrev cX5_init : ByteArray := prog_7_method_1_code
def yX5_init : MethodName := ⟨RX5, "<init>", "(I)V"⟩
abbrev cX5_read : ByteArray := prog_7_method_2_code
def yX5_read : MethodName := ⟨RX5, "read", "(I)I"⟩
abbrev cX5_write : ByteArray := prog_7_method_3_code
def yX5_write : MethodName := ⟨RX5, "write", "(II)V"⟩
abbrev cX5_sum : ByteArray := prog_7_method_4_code
def yX5_sum : MethodName := ⟨RX5, "sum", "()I"⟩
abbrev cX5_differencesTo : ByteArray := prog_7_method_5_code
def yX5_differencesTo : MethodName := ⟨RX5, "differencesTo", "(LFarBanks$Row;)I"⟩
abbrev cX5_copyFrom : ByteArray := prog_7_method_6_code
def yX5_copyFrom : MethodName := ⟨RX5, "copyFrom", "(LFarBanks$Row;)V"⟩
def RX6 : String := "FarBanks$Text"
def TX6 : u_T := fun k => match k with
  | 0 => ("FarBanks$Text", "characters", "[C", true)
  | _ => ("FarBanks$Text", "length", "I", false)
def tyX6 : Nat → FieldType := fun k => match k with
  | 0 => .array .char
  | _ => .int
abbrev wsX60 : List Cond := u_ws RX6 TX6 2
theorem nmX6 : ∀ a, a < 2 → ∀ b, b < 2 → a ≠ b → (TX6 a).2.1 ≠ (TX6 b).2.1 := by decide +kernel
theorem tyX6_ok : ∀ k, k < 2 → parseFieldDescriptor (TX6 k).2.2.1 = some (tyX6 k) := by decide +kernel
abbrev cX6_init : ByteArray := prog_8_method_1_code
def yX6_init : MethodName := ⟨RX6, "<init>", "()V"⟩
def RX7 : String := "FarBanks$Trail"
def TX7 : u_T := fun k => match k with
  | 0 => ("FarBanks$Trail", "parts", "LFarBanks$Row;", true)
  | _ => ("FarBanks$Trail", "total", "I", false)
def tyX7 : Nat → FieldType := fun k => match k with
  | 0 => .object "FarBanks$Row"
  | _ => .int
abbrev wsX70 : List Cond := u_ws RX7 TX7 2
theorem nmX7 : ∀ a, a < 2 → ∀ b, b < 2 → a ≠ b → (TX7 a).2.1 ≠ (TX7 b).2.1 := by decide +kernel
theorem tyX7_ok : ∀ k, k < 2 → parseFieldDescriptor (TX7 k).2.2.1 = some (tyX7 k) := by decide +kernel
abbrev cX7_init : ByteArray := prog_9_method_1_code
def yX7_init : MethodName := ⟨RX7, "<init>", "()V"⟩
abbrev cX7_copyFrom : ByteArray := prog_9_method_2_code
def yX7_copyFrom : MethodName := ⟨RX7, "copyFrom", "(LFarBanks$Trail;)V"⟩
abbrev cX7_add : ByteArray := prog_9_method_3_code
def yX7_add : MethodName := ⟨RX7, "add", "(III)V"⟩
abbrev cX7_tell : ByteArray := prog_9_method_4_code
def yX7_tell : MethodName := ⟨RX7, "tell", "(II)I"⟩
def RX8 : String := "FarBanks"
def TX8 : u_T := fun k => match k with
  | 0 => ("FarBanks", "now", "LFarBanks$Machine;", true)
  | 1 => ("FarBanks", "trial", "LFarBanks$Machine;", true)
  | 2 => ("FarBanks", "snapshot", "LFarBanks$Machine;", true)
  | 3 => ("FarBanks", "history", "LFarBanks$History;", true)
  | 4 => ("FarBanks", "text", "LFarBanks$Text;", true)
  | 5 => ("FarBanks", "code", "LFarBanks$Code;", true)
  | _ => ("FarBanks", "hasSnapshot", "Z", false)
def tyX8 : Nat → FieldType := fun k => match k with
  | 0 => .object "FarBanks$Machine"
  | 1 => .object "FarBanks$Machine"
  | 2 => .object "FarBanks$Machine"
  | 3 => .object "FarBanks$History"
  | 4 => .object "FarBanks$Text"
  | 5 => .object "FarBanks$Code"
  | _ => .boolean
abbrev wsX80 : List Cond := u_ws RX8 TX8 7
theorem nmX8 : ∀ a, a < 7 → ∀ b, b < 7 → a ≠ b → (TX8 a).2.1 ≠ (TX8 b).2.1 := by decide +kernel
theorem tyX8_ok : ∀ k, k < 7 → parseFieldDescriptor (TX8 k).2.2.1 = some (tyX8 k) := by decide +kernel
abbrev cX8_init : ByteArray := prog_1_method_1_code
def yX8_init : MethodName := ⟨RX8, "<init>", "()V"⟩
abbrev cX8_put : ByteArray := prog_1_method_2_code
def yX8_put : MethodName := ⟨RX8, "put", "(III)I"⟩
abbrev cX8_lock : ByteArray := prog_1_method_3_code
def yX8_lock : MethodName := ⟨RX8, "lock", "(IZ)I"⟩
abbrev cX8_show : ByteArray := prog_1_method_4_code
def yX8_show : MethodName := ⟨RX8, "show", "(II)I"⟩
abbrev cX8_copyBank : ByteArray := prog_1_method_5_code
def yX8_copyBank : MethodName := ⟨RX8, "copyBank", "(II)I"⟩
abbrev cX8_set : ByteArray := prog_1_method_6_code
def yX8_set : MethodName := ⟨RX8, "set", "(I)I"⟩
abbrev cX8_begin : ByteArray := prog_1_method_7_code
def yX8_begin : MethodName := ⟨RX8, "begin", "(I)I"⟩
abbrev cX8_run : ByteArray := prog_1_method_8_code
def yX8_run : MethodName := ⟨RX8, "run", "(I)I"⟩
abbrev cX8_undo : ByteArray := prog_1_method_12_code
def yX8_undo : MethodName := ⟨RX8, "undo", "()I"⟩
abbrev cX8_restore : ByteArray := prog_1_method_14_code
def yX8_restore : MethodName := ⟨RX8, "restore", "()I"⟩
abbrev cX8_cell : ByteArray := prog_1_method_15_code
def yX8_cell : MethodName := ⟨RX8, "cell", "(II)I"⟩
abbrev cX8_address : ByteArray := prog_1_method_16_code
def yX8_address : MethodName := ⟨RX8, "address", "(II)I"⟩
abbrev cX8_bank : ByteArray := prog_1_method_17_code
def yX8_bank : MethodName := ⟨RX8, "bank", "(II)I"⟩
abbrev cX8_window : ByteArray := prog_1_method_18_code
def yX8_window : MethodName := ⟨RX8, "window", "(I)I"⟩
abbrev cX8_frame : ByteArray := prog_1_method_19_code
def yX8_frame : MethodName := ⟨RX8, "frame", "(II)I"⟩
abbrev cX8_latest : ByteArray := prog_1_method_20_code
def yX8_latest : MethodName := ⟨RX8, "latest", "(II)I"⟩
abbrev cX8_next : ByteArray := prog_1_method_21_code
def yX8_next : MethodName := ⟨RX8, "next", "(I)I"⟩
abbrev cX8_ifRun : ByteArray := prog_1_method_22_code
def yX8_ifRun : MethodName := ⟨RX8, "ifRun", "(II)I"⟩
abbrev cX8_backIn : ByteArray := prog_1_method_23_code
def yX8_backIn : MethodName := ⟨RX8, "backIn", "()I"⟩
abbrev cX8_count : ByteArray := prog_1_method_24_code
def yX8_count : MethodName := ⟨RX8, "count", "(I)I"⟩
abbrev cX8_isBelow : ByteArray := prog_1_method_25_code
def yX8_isBelow : MethodName := ⟨RX8, "isBelow", "(II)Z"⟩
abbrev cX8_isStepsOfRun : ByteArray := prog_1_method_26_code
def yX8_isStepsOfRun : MethodName := ⟨RX8, "isStepsOfRun", "(I)Z"⟩
def RX9 : String := "FarBanksModel"
def TX9 : u_T := fun k => match k with
  | _ => ("", "", "", false)
def tyX9 : Nat → FieldType := fun k => match k with
  | _ => .int
abbrev wsX90 : List Cond := u_ws RX9 TX9 0
theorem nmX9 : ∀ a, a < 0 → ∀ b, b < 0 → a ≠ b → (TX9 a).2.1 ≠ (TX9 b).2.1 := by decide +kernel
theorem tyX9_ok : ∀ k, k < 0 → parseFieldDescriptor (TX9 k).2.2.1 = some (tyX9 k) := by decide +kernel
def RJ9 : String := "java/lang/Math"
def TJ9 : u_T := fun k => match k with
  | _ => ("", "", "", false)
def tyJ9 : Nat → FieldType := fun k => match k with
  | _ => .int
abbrev wsJ90 : List Cond := u_ws RJ9 TJ9 0
theorem nmJ9 : ∀ a, a < 0 → ∀ b, b < 0 → a ≠ b → (TJ9 a).2.1 ≠ (TJ9 b).2.1 := by decide +kernel
theorem tyJ9_ok : ∀ k, k < 0 → parseFieldDescriptor (TJ9 k).2.2.1 = some (tyJ9 k) := by decide +kernel
abbrev cJ9_max_7cf53 : ByteArray := prog_12_method_65_code
def yJ9_max_7cf53 : MethodName := ⟨RJ9, "max", "(II)I"⟩
abbrev cJ9_min_7cf53 : ByteArray := prog_12_method_69_code
def yJ9_min_7cf53 : MethodName := ⟨RJ9, "min", "(II)I"⟩
def RJ10 : String := "java/lang/System"
def TJ10 : u_T := fun k => match k with
  | _ => ("", "", "", false)
def tyJ10 : Nat → FieldType := fun k => match k with
  | _ => .int
abbrev wsJ100 : List Cond := u_ws RJ10 TJ10 0
theorem nmJ10 : ∀ a, a < 0 → ∀ b, b < 0 → a ≠ b → (TJ10 a).2.1 ≠ (TJ10 b).2.1 := by decide +kernel
theorem tyJ10_ok : ∀ k, k < 0 → parseFieldDescriptor (TJ10 k).2.2.1 = some (tyJ10 k) := by decide +kernel
def RL : String := "FarBanksLaw"
abbrev cL_cell1 : ByteArray := method_2_code
def yL_cell1 : MethodName := ⟨RL, "cell1", "([II)I"⟩
abbrev cL_low : ByteArray := method_3_code
def yL_low : MethodName := ⟨RL, "low", "(II)I"⟩
abbrev cL_cell : ByteArray := method_4_code
def yL_cell : MethodName := ⟨RL, "cell", "([I[III)I"⟩
abbrev cL_put : ByteArray := method_5_code
def yL_put : MethodName := ⟨RL, "put", "([I[IIII)V"⟩
abbrev cL_at : ByteArray := method_6_code
def yL_at : MethodName := ⟨RL, "at", "([I[I[II)I"⟩
abbrev cL_step : ByteArray := method_7_code
def yL_step : MethodName := ⟨RL, "step", "([I[I[I[I)V"⟩
abbrev cL_copy : ByteArray := method_8_code
def yL_copy : MethodName := ⟨RL, "copy", "([I[I)V"⟩
abbrev cL_run : ByteArray := method_9_code
def yL_run : MethodName := ⟨RL, "run", "(I[I[I[I[I)I"⟩
abbrev cL_isAhead : ByteArray := method_10_code
def yL_isAhead : MethodName := ⟨RL, "isAhead", "(LFarBanks;I[I[I[I[I)Z"⟩
abbrev cL_isSo : ByteArray := method_11_code
def yL_isSo : MethodName := ⟨RL, "isSo", "(LFarBanks;[I[I[I[I)Z"⟩
abbrev cL_puts : ByteArray := method_12_code
def yL_puts : MethodName := ⟨RL, "puts", "(LFarBanks;II[I[I[I)Z"⟩
abbrev cL_others : ByteArray := method_13_code
def yL_others : MethodName := ⟨RL, "others", "(LFarBanks;II[I[I[I[I)Z"⟩
abbrev cL_law : ByteArray := code
def yL_law : MethodName := ⟨RL, "law", "([I)Z"⟩
abbrev vwCl : List vw_C := [(RX0, TX0, 5), (RX1, TX1, 4), (RX2, TX2, 2), (RX3, TX3, 2), (RX4, TX4, 8), (RX5, TX5, 1), (RX6, TX6, 2), (RX7, TX7, 2), (RX8, TX8, 7)]
