/-! names, fields, codes, decode rows: printed out of the claim's own names -/
def RX0 : String := "BargeLocks$Barge"
def TX0 : u_T := fun k => match k with
  | 0 => ("BargeLocks$Barge", "length", "I", false)
  | 1 => ("BargeLocks$Barge", "ownWeight", "I", false)
  | 2 => ("BargeLocks$Barge", "immersion", "I", false)
  | 3 => ("BargeLocks$Barge", "hold", "I", false)
  | 4 => ("BargeLocks$Barge", "cargo", "I", false)
  | 5 => ("BargeLocks$Barge", "ballast", "I", false)
  | 6 => ("BargeLocks$Barge", "place", "I", false)
  | _ => ("BargeLocks$Barge", "passages", "I", false)
def tyX0 : Nat → FieldType := fun k => match k with
  | 0 => .int
  | 1 => .int
  | 2 => .int
  | 3 => .int
  | 4 => .int
  | 5 => .int
  | 6 => .int
  | _ => .int
theorem nmX0 : ∀ a, a < 8 → ∀ b, b < 8 → a ≠ b → (TX0 a).2.1 ≠ (TX0 b).2.1 := by decide +kernel
theorem tyX0_ok : ∀ k, k < 8 → parseFieldDescriptor (TX0 k).2.2.1 = some (tyX0 k) := by decide +kernel
abbrev cX0_init : ByteArray := prog_2_method_1_code
def yX0_init : MethodName := ⟨RX0, "<init>", "()V"⟩
abbrev cX0_begin : ByteArray := prog_2_method_2_code
def yX0_begin : MethodName := ⟨RX0, "begin", "(IIIII)V"⟩
abbrev cX0_weight : ByteArray := prog_2_method_3_code
def yX0_weight : MethodName := ⟨RX0, "weight", "()I"⟩
abbrev cX0_draught : ByteArray := prog_2_method_4_code
def yX0_draught : MethodName := ⟨RX0, "draught", "()I"⟩
abbrev cX0_freeHold : ByteArray := prog_2_method_5_code
def yX0_freeHold : MethodName := ⟨RX0, "freeHold", "()I"⟩
abbrev cX0_isInChamber : ByteArray := prog_2_method_6_code
def yX0_isInChamber : MethodName := ⟨RX0, "isInChamber", "()Z"⟩
abbrev cX0_copyTo : ByteArray := prog_2_method_7_code
def yX0_copyTo : MethodName := ⟨RX0, "copyTo", "(LBargeLocks$Barge;)V"⟩
def RX1 : String := "BargeLocks$Chamber"
def TX1 : u_T := fun k => match k with
  | 0 => ("BargeLocks$Chamber", "water", "LBargeLocks$Water;", true)
  | 1 => ("BargeLocks$Chamber", "lowerSill", "LBargeLocks$Sill;", true)
  | 2 => ("BargeLocks$Chamber", "upperSill", "LBargeLocks$Sill;", true)
  | 3 => ("BargeLocks$Chamber", "row", "[I", true)
  | 4 => ("BargeLocks$Chamber", "rowSize", "I", false)
  | 5 => ("BargeLocks$Chamber", "length", "I", false)
  | 6 => ("BargeLocks$Chamber", "lengthLeft", "I", false)
  | _ => ("BargeLocks$Chamber", "openGate", "I", false)
def tyX1 : Nat → FieldType := fun k => match k with
  | 0 => .object "BargeLocks$Water"
  | 1 => .object "BargeLocks$Sill"
  | 2 => .object "BargeLocks$Sill"
  | 3 => .array .int
  | 4 => .int
  | 5 => .int
  | 6 => .int
  | _ => .int
theorem nmX1 : ∀ a, a < 8 → ∀ b, b < 8 → a ≠ b → (TX1 a).2.1 ≠ (TX1 b).2.1 := by decide +kernel
theorem tyX1_ok : ∀ k, k < 8 → parseFieldDescriptor (TX1 k).2.2.1 = some (tyX1 k) := by decide +kernel
abbrev cX1_init : ByteArray := prog_3_method_1_code
def yX1_init : MethodName := ⟨RX1, "<init>", "()V"⟩
abbrev cX1_begin : ByteArray := prog_3_method_2_code
def yX1_begin : MethodName := ⟨RX1, "begin", "(III)V"⟩
abbrev cX1_sillOf : ByteArray := prog_3_method_3_code
def yX1_sillOf : MethodName := ⟨RX1, "sillOf", "(I)LBargeLocks$Sill;"⟩
abbrev cX1_bargeIn : ByteArray := prog_3_method_4_code
def yX1_bargeIn : MethodName := ⟨RX1, "bargeIn", "(I)I"⟩
abbrev cX1_bargeNextTo : ByteArray := prog_3_method_5_code
def yX1_bargeNextTo : MethodName := ⟨RX1, "bargeNextTo", "(I)I"⟩
abbrev cX1_takeIn : ByteArray := prog_3_method_6_code
def yX1_takeIn : MethodName := ⟨RX1, "takeIn", "(III)V"⟩
abbrev cX1_letOut : ByteArray := prog_3_method_7_code
def yX1_letOut : MethodName := ⟨RX1, "letOut", "(II)V"⟩
abbrev cX1_copyTo : ByteArray := prog_3_method_8_code
def yX1_copyTo : MethodName := ⟨RX1, "copyTo", "(LBargeLocks$Chamber;)V"⟩
def RX2 : String := "BargeLocks$Flight"
def TX2 : u_T := fun k => match k with
  | 0 => ("BargeLocks$Flight", "reaches", "[LBargeLocks$Water;", true)
  | 1 => ("BargeLocks$Flight", "chambers", "[LBargeLocks$Chamber;", true)
  | 2 => ("BargeLocks$Flight", "barges", "[LBargeLocks$Barge;", true)
  | 3 => ("BargeLocks$Flight", "reachCount", "I", false)
  | 4 => ("BargeLocks$Flight", "chamberCount", "I", false)
  | 5 => ("BargeLocks$Flight", "bargeCount", "I", false)
  | 6 => ("BargeLocks$Flight", "clearance", "I", false)
  | 7 => ("BargeLocks$Flight", "supplied", "J", false)
  | _ => ("BargeLocks$Flight", "firstWater", "J", false)
def tyX2 : Nat → FieldType := fun k => match k with
  | 0 => .array (.object "BargeLocks$Water")
  | 1 => .array (.object "BargeLocks$Chamber")
  | 2 => .array (.object "BargeLocks$Barge")
  | 3 => .int
  | 4 => .int
  | 5 => .int
  | 6 => .int
  | 7 => .long
  | _ => .long
theorem nmX2 : ∀ a, a < 9 → ∀ b, b < 9 → a ≠ b → (TX2 a).2.1 ≠ (TX2 b).2.1 := by decide +kernel
theorem tyX2_ok : ∀ k, k < 9 → parseFieldDescriptor (TX2 k).2.2.1 = some (tyX2 k) := by decide +kernel
abbrev cX2_init : ByteArray := prog_4_method_1_code
def yX2_init : MethodName := ⟨RX2, "<init>", "()V"⟩
abbrev cX2_reachAt : ByteArray := prog_4_method_2_code
def yX2_reachAt : MethodName := ⟨RX2, "reachAt", "(I)LBargeLocks$Water;"⟩
abbrev cX2_chamberAt : ByteArray := prog_4_method_3_code
def yX2_chamberAt : MethodName := ⟨RX2, "chamberAt", "(I)LBargeLocks$Chamber;"⟩
abbrev cX2_bargeAt : ByteArray := prog_4_method_4_code
def yX2_bargeAt : MethodName := ⟨RX2, "bargeAt", "(I)LBargeLocks$Barge;"⟩
abbrev cX2_sillAt : ByteArray := prog_4_method_5_code
def yX2_sillAt : MethodName := ⟨RX2, "sillAt", "(II)LBargeLocks$Sill;"⟩
abbrev cX2_reachBehind : ByteArray := prog_4_method_6_code
def yX2_reachBehind : MethodName := ⟨RX2, "reachBehind", "(II)LBargeLocks$Water;"⟩
abbrev cX2_waterAt : ByteArray := prog_4_method_7_code
def yX2_waterAt : MethodName := ⟨RX2, "waterAt", "(I)LBargeLocks$Water;"⟩
abbrev cX2_appendReach : ByteArray := prog_4_method_8_code
def yX2_appendReach : MethodName := ⟨RX2, "appendReach", "(III)V"⟩
abbrev cX2_appendChamber : ByteArray := prog_4_method_9_code
def yX2_appendChamber : MethodName := ⟨RX2, "appendChamber", "(III)V"⟩
abbrev cX2_appendBarge : ByteArray := prog_4_method_10_code
def yX2_appendBarge : MethodName := ⟨RX2, "appendBarge", "(IIIII)V"⟩
abbrev cX2_isAground : ByteArray := prog_4_method_11_code
def yX2_isAground : MethodName := ⟨RX2, "isAground", "(LBargeLocks$Barge;)Z"⟩
abbrev cX2_mostDraught : ByteArray := prog_4_method_12_code
def yX2_mostDraught : MethodName := ⟨RX2, "mostDraught", "(LBargeLocks$Chamber;LBargeLocks$Sill;)J"⟩
abbrev cX2_move : ByteArray := prog_4_method_13_code
def yX2_move : MethodName := ⟨RX2, "move", "(LBargeLocks$Barge;I)V"⟩
abbrev cX2_settle : ByteArray := prog_4_method_14_code
def yX2_settle : MethodName := ⟨RX2, "settle", "()V"⟩
abbrev cX2_propertyOf : ByteArray := prog_4_method_15_code
def yX2_propertyOf : MethodName := ⟨RX2, "propertyOf", "(LBargeLocks$Barge;I)I"⟩
abbrev cX2_sumOfBarges : ByteArray := prog_4_method_16_code
def yX2_sumOfBarges : MethodName := ⟨RX2, "sumOfBarges", "(I)J"⟩
abbrev cX2_allWater : ByteArray := prog_4_method_17_code
def yX2_allWater : MethodName := ⟨RX2, "allWater", "()J"⟩
abbrev cX2_openGates : ByteArray := prog_4_method_18_code
def yX2_openGates : MethodName := ⟨RX2, "openGates", "()I"⟩
abbrev cX2_bargesInChambers : ByteArray := prog_4_method_19_code
def yX2_bargesInChambers : MethodName := ⟨RX2, "bargesInChambers", "()I"⟩
abbrev cX2_copyTo : ByteArray := prog_4_method_20_code
def yX2_copyTo : MethodName := ⟨RX2, "copyTo", "(LBargeLocks$Flight;)V"⟩
def RX3 : String := "BargeLocks$History"
def TX3 : u_T := fun k => match k with
  | 0 => ("BargeLocks$History", "ring", "[LBargeLocks$Flight;", true)
  | 1 => ("BargeLocks$History", "oldest", "I", false)
  | _ => ("BargeLocks$History", "size", "I", false)
def tyX3 : Nat → FieldType := fun k => match k with
  | 0 => .array (.object "BargeLocks$Flight")
  | 1 => .int
  | _ => .int
theorem nmX3 : ∀ a, a < 3 → ∀ b, b < 3 → a ≠ b → (TX3 a).2.1 ≠ (TX3 b).2.1 := by decide +kernel
theorem tyX3_ok : ∀ k, k < 3 → parseFieldDescriptor (TX3 k).2.2.1 = some (tyX3 k) := by decide +kernel
abbrev cX3_init : ByteArray := prog_5_method_1_code
def yX3_init : MethodName := ⟨RX3, "<init>", "()V"⟩
abbrev cX3_stateAt : ByteArray := prog_5_method_2_code
def yX3_stateAt : MethodName := ⟨RX3, "stateAt", "(I)LBargeLocks$Flight;"⟩
abbrev cX3_add : ByteArray := prog_5_method_3_code
def yX3_add : MethodName := ⟨RX3, "add", "(LBargeLocks$Flight;)V"⟩
abbrev cX3_takeLatest : ByteArray := prog_5_method_4_code
def yX3_takeLatest : MethodName := ⟨RX3, "takeLatest", "(LBargeLocks$Flight;)V"⟩
def RX4 : String := "BargeLocks$Orders"
def TX4 : u_T := fun k => match k with
  | 0 => ("BargeLocks$Orders", "text", "[C", true)
  | 1 => ("BargeLocks$Orders", "length", "I", false)
  | 2 => ("BargeLocks$Orders", "position", "I", false)
  | 3 => ("BargeLocks$Orders", "verb", "I", false)
  | 4 => ("BargeLocks$Orders", "first", "I", false)
  | _ => ("BargeLocks$Orders", "second", "I", false)
def tyX4 : Nat → FieldType := fun k => match k with
  | 0 => .array .char
  | 1 => .int
  | 2 => .int
  | 3 => .int
  | 4 => .int
  | _ => .int
theorem nmX4 : ∀ a, a < 6 → ∀ b, b < 6 → a ≠ b → (TX4 a).2.1 ≠ (TX4 b).2.1 := by decide +kernel
theorem tyX4_ok : ∀ k, k < 6 → parseFieldDescriptor (TX4 k).2.2.1 = some (tyX4 k) := by decide +kernel
abbrev cX4_init : ByteArray := prog_6_method_1_code
def yX4_init : MethodName := ⟨RX4, "<init>", "()V"⟩
abbrev cX4_append : ByteArray := prog_6_method_2_code
def yX4_append : MethodName := ⟨RX4, "append", "(C)I"⟩
abbrev cX4_removeAll : ByteArray := prog_6_method_3_code
def yX4_removeAll : MethodName := ⟨RX4, "removeAll", "()I"⟩
abbrev cX4_rewind : ByteArray := prog_6_method_4_code
def yX4_rewind : MethodName := ⟨RX4, "rewind", "()V"⟩
abbrev cX4_hasMore : ByteArray := prog_6_method_5_code
def yX4_hasMore : MethodName := ⟨RX4, "hasMore", "()Z"⟩
abbrev cX4_findFault : ByteArray := prog_6_method_6_code
def yX4_findFault : MethodName := ⟨RX4, "findFault", "()I"⟩
abbrev cX4_readOrder : ByteArray := prog_6_method_7_code
def yX4_readOrder : MethodName := ⟨RX4, "readOrder", "()Z"⟩
abbrev cX4_readVerb : ByteArray := prog_6_method_8_code
def yX4_readVerb : MethodName := ⟨RX4, "readVerb", "()V"⟩
abbrev cX4_readFirst : ByteArray := prog_6_method_9_code
def yX4_readFirst : MethodName := ⟨RX4, "readFirst", "(I)Z"⟩
abbrev cX4_readSecond : ByteArray := prog_6_method_10_code
def yX4_readSecond : MethodName := ⟨RX4, "readSecond", "(II)Z"⟩
abbrev cX4_readNumber : ByteArray := prog_6_method_11_code
def yX4_readNumber : MethodName := ⟨RX4, "readNumber", "(II)I"⟩
abbrev cX4_readSign : ByteArray := prog_6_method_12_code
def yX4_readSign : MethodName := ⟨RX4, "readSign", "(C)Z"⟩
abbrev cX4_endOfToken : ByteArray := prog_6_method_13_code
def yX4_endOfToken : MethodName := ⟨RX4, "endOfToken", "()I"⟩
abbrev cX4_stands : ByteArray := prog_6_method_14_code
def yX4_stands : MethodName := ⟨RX4, "stands", "(Ljava/lang/String;I)Z"⟩
abbrev cX4_signAt : ByteArray := prog_6_method_15_code
def yX4_signAt : MethodName := ⟨RX4, "signAt", "(I)C"⟩
abbrev cX4_wordOf : ByteArray := prog_6_method_16_code
def yX4_wordOf : MethodName := ⟨RX4, "wordOf", "(I)Ljava/lang/String;"⟩
def RX5 : String := "BargeLocks$Sill"
def TX5 : u_T := fun k => match k with
  | 0 => ("BargeLocks$Sill", "ownHeight", "I", false)
  | 1 => ("BargeLocks$Sill", "mud", "I", false)
  | _ => ("BargeLocks$Sill", "passages", "I", false)
def tyX5 : Nat → FieldType := fun k => match k with
  | 0 => .int
  | 1 => .int
  | _ => .int
theorem nmX5 : ∀ a, a < 3 → ∀ b, b < 3 → a ≠ b → (TX5 a).2.1 ≠ (TX5 b).2.1 := by decide +kernel
theorem tyX5_ok : ∀ k, k < 3 → parseFieldDescriptor (TX5 k).2.2.1 = some (tyX5 k) := by decide +kernel
abbrev cX5_init : ByteArray := prog_7_method_1_code
def yX5_init : MethodName := ⟨RX5, "<init>", "()V"⟩
abbrev cX5_begin : ByteArray := prog_7_method_2_code
def yX5_begin : MethodName := ⟨RX5, "begin", "()V"⟩
abbrev cX5_height : ByteArray := prog_7_method_3_code
def yX5_height : MethodName := ⟨RX5, "height", "()I"⟩
abbrev cX5_countPassage : ByteArray := prog_7_method_4_code
def yX5_countPassage : MethodName := ⟨RX5, "countPassage", "()V"⟩
abbrev cX5_copyTo : ByteArray := prog_7_method_5_code
def yX5_copyTo : MethodName := ⟨RX5, "copyTo", "(LBargeLocks$Sill;)V"⟩
def RX6 : String := "BargeLocks$Water"
def TX6 : u_T := fun k => match k with
  | 0 => ("BargeLocks$Water", "area", "J", false)
  | 1 => ("BargeLocks$Water", "floor", "J", false)
  | 2 => ("BargeLocks$Water", "amount", "J", false)
  | 3 => ("BargeLocks$Water", "floats", "J", false)
  | _ => ("BargeLocks$Water", "bargeCount", "I", false)
def tyX6 : Nat → FieldType := fun k => match k with
  | 0 => .long
  | 1 => .long
  | 2 => .long
  | 3 => .long
  | _ => .int
theorem nmX6 : ∀ a, a < 5 → ∀ b, b < 5 → a ≠ b → (TX6 a).2.1 ≠ (TX6 b).2.1 := by decide +kernel
theorem tyX6_ok : ∀ k, k < 5 → parseFieldDescriptor (TX6 k).2.2.1 = some (tyX6 k) := by decide +kernel
abbrev cX6_init : ByteArray := prog_8_method_1_code
def yX6_init : MethodName := ⟨RX6, "<init>", "()V"⟩
abbrev cX6_begin : ByteArray := prog_8_method_2_code
def yX6_begin : MethodName := ⟨RX6, "begin", "(III)V"⟩
abbrev cX6_depth : ByteArray := prog_8_method_3_code
def yX6_depth : MethodName := ⟨RX6, "depth", "()J"⟩
abbrev cX6_level : ByteArray := prog_8_method_4_code
def yX6_level : MethodName := ⟨RX6, "level", "()J"⟩
abbrev cX6_takeIn : ByteArray := prog_8_method_5_code
def yX6_takeIn : MethodName := ⟨RX6, "takeIn", "(I)V"⟩
abbrev cX6_letOut : ByteArray := prog_8_method_6_code
def yX6_letOut : MethodName := ⟨RX6, "letOut", "(I)V"⟩
abbrev cX6_flowFrom : ByteArray := prog_8_method_7_code
def yX6_flowFrom : MethodName := ⟨RX6, "flowFrom", "(LBargeLocks$Water;)J"⟩
abbrev cX6_shareWith : ByteArray := prog_8_method_8_code
def yX6_shareWith : MethodName := ⟨RX6, "shareWith", "(LBargeLocks$Water;)V"⟩
abbrev cX6_property : ByteArray := prog_8_method_9_code
def yX6_property : MethodName := ⟨RX6, "property", "(I)I"⟩
abbrev cX6_copyTo : ByteArray := prog_8_method_10_code
def yX6_copyTo : MethodName := ⟨RX6, "copyTo", "(LBargeLocks$Water;)V"⟩
def RX7 : String := "BargeLocks"
def TX7 : u_T := fun k => match k with
  | 0 => ("BargeLocks", "flight", "LBargeLocks$Flight;", true)
  | 1 => ("BargeLocks", "history", "LBargeLocks$History;", true)
  | 2 => ("BargeLocks", "slots", "[LBargeLocks$Flight;", true)
  | 3 => ("BargeLocks", "orders", "LBargeLocks$Orders;", true)
  | 4 => ("BargeLocks", "reason", "I", false)
  | _ => ("BargeLocks", "carryingOut", "Z", false)
def tyX7 : Nat → FieldType := fun k => match k with
  | 0 => .object "BargeLocks$Flight"
  | 1 => .object "BargeLocks$History"
  | 2 => .array (.object "BargeLocks$Flight")
  | 3 => .object "BargeLocks$Orders"
  | 4 => .int
  | _ => .boolean
theorem nmX7 : ∀ a, a < 6 → ∀ b, b < 6 → a ≠ b → (TX7 a).2.1 ≠ (TX7 b).2.1 := by decide +kernel
theorem tyX7_ok : ∀ k, k < 6 → parseFieldDescriptor (TX7 k).2.2.1 = some (tyX7 k) := by decide +kernel
abbrev cX7_init : ByteArray := prog_1_method_1_code
def yX7_init : MethodName := ⟨RX7, "<init>", "()V"⟩
abbrev cX7_addReach : ByteArray := prog_1_method_2_code
def yX7_addReach : MethodName := ⟨RX7, "addReach", "(III)I"⟩
abbrev cX7_addChamber : ByteArray := prog_1_method_3_code
def yX7_addChamber : MethodName := ⟨RX7, "addChamber", "(IIIIII)I"⟩
abbrev cX7_setSill : ByteArray := prog_1_method_4_code
def yX7_setSill : MethodName := ⟨RX7, "setSill", "(III)I"⟩
abbrev cX7_setClearance : ByteArray := prog_1_method_5_code
def yX7_setClearance : MethodName := ⟨RX7, "setClearance", "(I)I"⟩
abbrev cX7_dredge : ByteArray := prog_1_method_6_code
def yX7_dredge : MethodName := ⟨RX7, "dredge", "(II)I"⟩
abbrev cX7_supply : ByteArray := prog_1_method_7_code
def yX7_supply : MethodName := ⟨RX7, "supply", "(II)I"⟩
abbrev cX7_addBarge : ByteArray := prog_1_method_8_code
def yX7_addBarge : MethodName := ⟨RX7, "addBarge", "(IIIII)I"⟩
abbrev cX7_load : ByteArray := prog_1_method_9_code
def yX7_load : MethodName := ⟨RX7, "load", "(II)I"⟩
abbrev cX7_pump : ByteArray := prog_1_method_10_code
def yX7_pump : MethodName := ⟨RX7, "pump", "(II)I"⟩
abbrev cX7_sluice : ByteArray := prog_1_method_11_code
def yX7_sluice : MethodName := ⟨RX7, "sluice", "(II)I"⟩
abbrev cX7_open : ByteArray := prog_1_method_12_code
def yX7_open : MethodName := ⟨RX7, "open", "(II)I"⟩
abbrev cX7_close : ByteArray := prog_1_method_13_code
def yX7_close : MethodName := ⟨RX7, "close", "(I)I"⟩
abbrev cX7_enter : ByteArray := prog_1_method_14_code
def yX7_enter : MethodName := ⟨RX7, "enter", "(II)I"⟩
abbrev cX7_leave : ByteArray := prog_1_method_15_code
def yX7_leave : MethodName := ⟨RX7, "leave", "(II)I"⟩
abbrev cX7_type : ByteArray := prog_1_method_16_code
def yX7_type : MethodName := ⟨RX7, "type", "(C)I"⟩
abbrev cX7_clearText : ByteArray := prog_1_method_17_code
def yX7_clearText : MethodName := ⟨RX7, "clearText", "()I"⟩
abbrev cX7_runOrders : ByteArray := prog_1_method_18_code
def yX7_runOrders : MethodName := ⟨RX7, "runOrders", "()I"⟩
abbrev cX7_undo : ByteArray := prog_1_method_19_code
def yX7_undo : MethodName := ⟨RX7, "undo", "()I"⟩
abbrev cX7_keep : ByteArray := prog_1_method_20_code
def yX7_keep : MethodName := ⟨RX7, "keep", "(I)I"⟩
abbrev cX7_restore : ByteArray := prog_1_method_21_code
def yX7_restore : MethodName := ⟨RX7, "restore", "(I)I"⟩
abbrev cX7_reach : ByteArray := prog_1_method_22_code
def yX7_reach : MethodName := ⟨RX7, "reach", "(II)I"⟩
abbrev cX7_chamber : ByteArray := prog_1_method_23_code
def yX7_chamber : MethodName := ⟨RX7, "chamber", "(II)I"⟩
abbrev cX7_lying : ByteArray := prog_1_method_24_code
def yX7_lying : MethodName := ⟨RX7, "lying", "(II)I"⟩
abbrev cX7_barge : ByteArray := prog_1_method_25_code
def yX7_barge : MethodName := ⟨RX7, "barge", "(II)I"⟩
abbrev cX7_margin : ByteArray := prog_1_method_26_code
def yX7_margin : MethodName := ⟨RX7, "margin", "(III)I"⟩
abbrev cX7_flow : ByteArray := prog_1_method_27_code
def yX7_flow : MethodName := ⟨RX7, "flow", "(II)I"⟩
abbrev cX7_account : ByteArray := prog_1_method_28_code
def yX7_account : MethodName := ⟨RX7, "account", "(I)J"⟩
abbrev cX7_count : ByteArray := prog_1_method_29_code
def yX7_count : MethodName := ⟨RX7, "count", "(I)I"⟩
abbrev cX7_isWithin : ByteArray := prog_1_method_30_code
def yX7_isWithin : MethodName := ⟨RX7, "isWithin", "(III)Z"⟩
abbrev cX7_isBasin : ByteArray := prog_1_method_31_code
def yX7_isBasin : MethodName := ⟨RX7, "isBasin", "(II)Z"⟩
abbrev cX7_isReach : ByteArray := prog_1_method_32_code
def yX7_isReach : MethodName := ⟨RX7, "isReach", "(III)Z"⟩
abbrev cX7_isTons : ByteArray := prog_1_method_33_code
def yX7_isTons : MethodName := ⟨RX7, "isTons", "(I)Z"⟩
abbrev cX7_divideDown : ByteArray := prog_1_method_34_code
def yX7_divideDown : MethodName := ⟨RX7, "divideDown", "(JJ)J"⟩
abbrev cX7_refuse : ByteArray := prog_1_method_35_code
def yX7_refuse : MethodName := ⟨RX7, "refuse", "(I)I"⟩
abbrev cX7_record : ByteArray := prog_1_method_36_code
def yX7_record : MethodName := ⟨RX7, "record", "()V"⟩
abbrev cX7_carryOut : ByteArray := prog_1_method_37_code
def yX7_carryOut : MethodName := ⟨RX7, "carryOut", "()I"⟩
def RX8 : String := "BargeLocksModel"
def TX8 : u_T := fun k => match k with
  | _ => ("", "", "", false)
def tyX8 : Nat → FieldType := fun k => match k with
  | _ => .int
theorem nmX8 : ∀ a, a < 0 → ∀ b, b < 0 → a ≠ b → (TX8 a).2.1 ≠ (TX8 b).2.1 := by decide +kernel
theorem tyX8_ok : ∀ k, k < 0 → parseFieldDescriptor (TX8 k).2.2.1 = some (tyX8 k) := by decide +kernel
def RJ9 : String := "java/lang/Math"
def TJ9 : u_T := fun k => match k with
  | _ => ("", "", "", false)
def tyJ9 : Nat → FieldType := fun k => match k with
  | _ => .int
theorem nmJ9 : ∀ a, a < 0 → ∀ b, b < 0 → a ≠ b → (TJ9 a).2.1 ≠ (TJ9 b).2.1 := by decide +kernel
theorem tyJ9_ok : ∀ k, k < 0 → parseFieldDescriptor (TJ9 k).2.2.1 = some (tyJ9 k) := by decide +kernel
abbrev cJ9_floorDiv_f86c9 : ByteArray := prog_11_method_49_code
def yJ9_floorDiv_f86c9 : MethodName := ⟨RJ9, "floorDiv", "(JJ)J"⟩
abbrev cJ9_abs_067f4 : ByteArray := prog_11_method_61_code
def yJ9_abs_067f4 : MethodName := ⟨RJ9, "abs", "(J)J"⟩
abbrev cJ9_max_f86c9 : ByteArray := prog_11_method_66_code
def yJ9_max_f86c9 : MethodName := ⟨RJ9, "max", "(JJ)J"⟩
abbrev cJ9_min_7cf53 : ByteArray := prog_11_method_69_code
def yJ9_min_7cf53 : MethodName := ⟨RJ9, "min", "(II)I"⟩
abbrev cJ9_min_f86c9 : ByteArray := prog_11_method_70_code
def yJ9_min_f86c9 : MethodName := ⟨RJ9, "min", "(JJ)J"⟩
def RJ0 : String := "java/lang/String"
def TJ0 : u_T := fun k => match k with
  | _ => ("", "", "", false)
def tyJ0 : Nat → FieldType := fun k => match k with
  | _ => .int
theorem nmJ0 : ∀ a, a < 0 → ∀ b, b < 0 → a ≠ b → (TJ0 a).2.1 ≠ (TJ0 b).2.1 := by decide +kernel
theorem tyJ0_ok : ∀ k, k < 0 → parseFieldDescriptor (TJ0 k).2.2.1 = some (tyJ0 k) := by decide +kernel
abbrev cJ0_length_8abf5 : ByteArray := prog_12_method_54_code
def yJ0_length_8abf5 : MethodName := ⟨RJ0, "length", "()I"⟩
abbrev cJ0_charAt_5068e : ByteArray := prog_12_method_56_code
def yJ0_charAt_5068e : MethodName := ⟨RJ0, "charAt", "(I)C"⟩
abbrev cJ0_coder_7d493 : ByteArray := prog_12_method_152_code
def yJ0_coder_7d493 : MethodName := ⟨RJ0, "coder", "()B"⟩
abbrev cJ0_isLatin1_aae02 : ByteArray := prog_12_method_154_code
def yJ0_isLatin1_aae02 : MethodName := ⟨RJ0, "isLatin1", "()Z"⟩
abbrev cJ0_checkIndex_df160 : ByteArray := prog_12_method_155_code
def yJ0_checkIndex_df160 : MethodName := ⟨RJ0, "checkIndex", "(II)V"⟩
def RJ1 : String := "java/lang/StringLatin1"
def TJ1 : u_T := fun k => match k with
  | _ => ("", "", "", false)
def tyJ1 : Nat → FieldType := fun k => match k with
  | _ => .int
theorem nmJ1 : ∀ a, a < 0 → ∀ b, b < 0 → a ≠ b → (TJ1 a).2.1 ≠ (TJ1 b).2.1 := by decide +kernel
theorem tyJ1_ok : ∀ k, k < 0 → parseFieldDescriptor (TJ1 k).2.2.1 = some (tyJ1 k) := by decide +kernel
abbrev cJ1_charAt_3b067 : ByteArray := prog_13_method_2_code
def yJ1_charAt_3b067 : MethodName := ⟨RJ1, "charAt", "([BI)C"⟩
def RJ2 : String := "java/lang/StringUTF16"
def TJ2 : u_T := fun k => match k with
  | _ => ("", "", "", false)
def tyJ2 : Nat → FieldType := fun k => match k with
  | _ => .int
theorem nmJ2 : ∀ a, a < 0 → ∀ b, b < 0 → a ≠ b → (TJ2 a).2.1 ≠ (TJ2 b).2.1 := by decide +kernel
theorem tyJ2_ok : ∀ k, k < 0 → parseFieldDescriptor (TJ2 k).2.2.1 = some (tyJ2 k) := by decide +kernel
abbrev cJ2_getChar_3b067 : ByteArray := prog_14_method_5_code
def yJ2_getChar_3b067 : MethodName := ⟨RJ2, "getChar", "([BI)C"⟩
abbrev cJ2_length_9d52b : ByteArray := prog_14_method_6_code
def yJ2_length_9d52b : MethodName := ⟨RJ2, "length", "([B)I"⟩
abbrev cJ2_charAt_3b067 : ByteArray := prog_14_method_83_code
def yJ2_charAt_3b067 : MethodName := ⟨RJ2, "charAt", "([BI)C"⟩
abbrev cJ2_checkIndex_2214a : ByteArray := prog_14_method_91_code
def yJ2_checkIndex_2214a : MethodName := ⟨RJ2, "checkIndex", "(I[B)V"⟩
def RJ10 : String := "java/lang/System"
def TJ10 : u_T := fun k => match k with
  | _ => ("", "", "", false)
def tyJ10 : Nat → FieldType := fun k => match k with
  | _ => .int
theorem nmJ10 : ∀ a, a < 0 → ∀ b, b < 0 → a ≠ b → (TJ10 a).2.1 ≠ (TJ10 b).2.1 := by decide +kernel
theorem tyJ10_ok : ∀ k, k < 0 → parseFieldDescriptor (TJ10 k).2.2.1 = some (tyJ10 k) := by decide +kernel
def RJ3 : String := "jdk/internal/util/Preconditions"
def TJ3 : u_T := fun k => match k with
  | _ => ("", "", "", false)
def tyJ3 : Nat → FieldType := fun k => match k with
  | _ => .int
theorem nmJ3 : ∀ a, a < 0 → ∀ b, b < 0 → a ≠ b → (TJ3 a).2.1 ≠ (TJ3 b).2.1 := by decide +kernel
theorem tyJ3_ok : ∀ k, k < 0 → parseFieldDescriptor (TJ3 k).2.2.1 = some (tyJ3 k) := by decide +kernel
abbrev cJ3_checkIndex_8e157 : ByteArray := prog_16_method_11_code
def yJ3_checkIndex_8e157 : MethodName := ⟨RJ3, "checkIndex", "(IILjava/util/function/BiFunction;)I"⟩
def RL : String := "BargeLocksLaw"
abbrev cL_cell : ByteArray := method_2_code
def yL_cell : MethodName := ⟨RL, "cell", "([II)I"⟩
abbrev cL_low : ByteArray := method_3_code
def yL_low : MethodName := ⟨RL, "low", "(II)I"⟩
abbrev cL_size : ByteArray := method_4_code
def yL_size : MethodName := ⟨RL, "size", "(I)I"⟩
abbrev cL_of : ByteArray := method_5_code
def yL_of : MethodName := ⟨RL, "of", "(LBargeLocks;II)I"⟩
abbrev cL_water : ByteArray := method_6_code
def yL_water : MethodName := ⟨RL, "water", "(LBargeLocks;I)Z"⟩
abbrev cL_waters : ByteArray := method_7_code
def yL_waters : MethodName := ⟨RL, "waters", "(LBargeLocks;)Z"⟩
abbrev cL_barges : ByteArray := method_8_code
def yL_barges : MethodName := ⟨RL, "barges", "(LBargeLocks;)Z"⟩
abbrev cL_flows : ByteArray := method_9_code
def yL_flows : MethodName := ⟨RL, "flows", "(LBargeLocks;II)Z"⟩
abbrev cL_margins : ByteArray := method_10_code
def yL_margins : MethodName := ⟨RL, "margins", "(LBargeLocks;III)Z"⟩
abbrev cL_sluices : ByteArray := method_11_code
def yL_sluices : MethodName := ⟨RL, "sluices", "(LBargeLocks;II)Z"⟩
abbrev cL_opens : ByteArray := method_12_code
def yL_opens : MethodName := ⟨RL, "opens", "(LBargeLocks;II)Z"⟩
abbrev cL_enters : ByteArray := method_13_code
def yL_enters : MethodName := ⟨RL, "enters", "(LBargeLocks;II)Z"⟩
abbrev cL_leaves : ByteArray := method_14_code
def yL_leaves : MethodName := ⟨RL, "leaves", "(LBargeLocks;II)Z"⟩
abbrev cL_cargo : ByteArray := method_15_code
def yL_cargo : MethodName := ⟨RL, "cargo", "(LBargeLocks;IIZ)Z"⟩
abbrev cL_digits : ByteArray := method_16_code
def yL_digits : MethodName := ⟨RL, "digits", "(LBargeLocks;I)I"⟩
abbrev cL_orders : ByteArray := method_17_code
def yL_orders : MethodName := ⟨RL, "orders", "(LBargeLocks;II)Z"⟩
abbrev cL_errors : ByteArray := method_18_code
def yL_errors : MethodName := ⟨RL, "errors", "(LBargeLocks;)Z"⟩
abbrev cL_law : ByteArray := code
def yL_law : MethodName := ⟨RL, "law", "([I)Z"⟩
theorem dX0_init_0 : decode cX0_init 0 = .ok (.aload_n 0, 1) := by decide +kernel
theorem dX0_init_1 : decode cX0_init 1 = .ok (.invokespecial 3, 3) := by decide +kernel
theorem dX0_init_4 : decode cX0_init 4 = .ok (.return_, 1) := by decide +kernel
theorem dX0_begin_0 : decode cX0_begin 0 = .ok (.aload_n 0, 1) := by decide +kernel
theorem dX0_begin_1 : decode cX0_begin 1 = .ok (.iload_n 2, 1) := by decide +kernel
theorem dX0_begin_2 : decode cX0_begin 2 = .ok (.putfield 9, 3) := by decide +kernel
theorem dX0_begin_5 : decode cX0_begin 5 = .ok (.aload_n 0, 1) := by decide +kernel
theorem dX0_begin_6 : decode cX0_begin 6 = .ok (.iload_n 3, 1) := by decide +kernel
theorem dX0_begin_7 : decode cX0_begin 7 = .ok (.putfield 15, 3) := by decide +kernel
theorem dX0_begin_10 : decode cX0_begin 10 = .ok (.aload_n 0, 1) := by decide +kernel
theorem dX0_begin_11 : decode cX0_begin 11 = .ok (.iload 4, 2) := by decide +kernel
theorem dX0_begin_13 : decode cX0_begin 13 = .ok (.putfield 18, 3) := by decide +kernel
theorem dX0_begin_16 : decode cX0_begin 16 = .ok (.aload_n 0, 1) := by decide +kernel
theorem dX0_begin_17 : decode cX0_begin 17 = .ok (.iload 5, 2) := by decide +kernel
theorem dX0_begin_19 : decode cX0_begin 19 = .ok (.putfield 21, 3) := by decide +kernel
theorem dX0_begin_22 : decode cX0_begin 22 = .ok (.aload_n 0, 1) := by decide +kernel
theorem dX0_begin_23 : decode cX0_begin 23 = .ok (.iconst 0, 1) := by decide +kernel
theorem dX0_begin_24 : decode cX0_begin 24 = .ok (.putfield 24, 3) := by decide +kernel
theorem dX0_begin_27 : decode cX0_begin 27 = .ok (.aload_n 0, 1) := by decide +kernel
theorem dX0_begin_28 : decode cX0_begin 28 = .ok (.iconst 0, 1) := by decide +kernel
theorem dX0_begin_29 : decode cX0_begin 29 = .ok (.putfield 27, 3) := by decide +kernel
theorem dX0_begin_32 : decode cX0_begin 32 = .ok (.aload_n 0, 1) := by decide +kernel
theorem dX0_begin_33 : decode cX0_begin 33 = .ok (.iload_n 1, 1) := by decide +kernel
theorem dX0_begin_34 : decode cX0_begin 34 = .ok (.putfield 30, 3) := by decide +kernel
theorem dX0_begin_37 : decode cX0_begin 37 = .ok (.aload_n 0, 1) := by decide +kernel
theorem dX0_begin_38 : decode cX0_begin 38 = .ok (.iconst 0, 1) := by decide +kernel
theorem dX0_begin_39 : decode cX0_begin 39 = .ok (.putfield 33, 3) := by decide +kernel
theorem dX0_begin_42 : decode cX0_begin 42 = .ok (.return_, 1) := by decide +kernel
theorem dX0_weight_0 : decode cX0_weight 0 = .ok (.aload_n 0, 1) := by decide +kernel
theorem dX0_weight_1 : decode cX0_weight 1 = .ok (.getfield 15, 3) := by decide +kernel
theorem dX0_weight_4 : decode cX0_weight 4 = .ok (.aload_n 0, 1) := by decide +kernel
theorem dX0_weight_5 : decode cX0_weight 5 = .ok (.getfield 24, 3) := by decide +kernel
theorem dX0_weight_8 : decode cX0_weight 8 = .ok (.iadd, 1) := by decide +kernel
theorem dX0_weight_9 : decode cX0_weight 9 = .ok (.aload_n 0, 1) := by decide +kernel
theorem dX0_weight_10 : decode cX0_weight 10 = .ok (.getfield 27, 3) := by decide +kernel
theorem dX0_weight_13 : decode cX0_weight 13 = .ok (.iadd, 1) := by decide +kernel
theorem dX0_weight_14 : decode cX0_weight 14 = .ok (.ireturn, 1) := by decide +kernel
theorem dX0_draught_0 : decode cX0_draught 0 = .ok (.aload_n 0, 1) := by decide +kernel
theorem dX0_draught_1 : decode cX0_draught 1 = .ok (.invokevirtual 36, 3) := by decide +kernel
theorem dX0_draught_4 : decode cX0_draught 4 = .ok (.i2l, 1) := by decide +kernel
theorem dX0_draught_5 : decode cX0_draught 5 = .ok (.aload_n 0, 1) := by decide +kernel
theorem dX0_draught_6 : decode cX0_draught 6 = .ok (.getfield 18, 3) := by decide +kernel
theorem dX0_draught_9 : decode cX0_draught 9 = .ok (.i2l, 1) := by decide +kernel
theorem dX0_draught_10 : decode cX0_draught 10 = .ok (.ladd, 1) := by decide +kernel
theorem dX0_draught_11 : decode cX0_draught 11 = .ok (.lconst 1, 1) := by decide +kernel
theorem dX0_draught_12 : decode cX0_draught 12 = .ok (.lsub, 1) := by decide +kernel
theorem dX0_draught_13 : decode cX0_draught 13 = .ok (.aload_n 0, 1) := by decide +kernel
theorem dX0_draught_14 : decode cX0_draught 14 = .ok (.getfield 18, 3) := by decide +kernel
theorem dX0_draught_17 : decode cX0_draught 17 = .ok (.i2l, 1) := by decide +kernel
theorem dX0_draught_18 : decode cX0_draught 18 = .ok (.invokestatic 40, 3) := by decide +kernel
theorem dX0_draught_21 : decode cX0_draught 21 = .ok (.l2i, 1) := by decide +kernel
theorem dX0_draught_22 : decode cX0_draught 22 = .ok (.ireturn, 1) := by decide +kernel
theorem dX0_freeHold_0 : decode cX0_freeHold 0 = .ok (.aload_n 0, 1) := by decide +kernel
theorem dX0_freeHold_1 : decode cX0_freeHold 1 = .ok (.getfield 21, 3) := by decide +kernel
theorem dX0_freeHold_4 : decode cX0_freeHold 4 = .ok (.aload_n 0, 1) := by decide +kernel
theorem dX0_freeHold_5 : decode cX0_freeHold 5 = .ok (.getfield 24, 3) := by decide +kernel
theorem dX0_freeHold_8 : decode cX0_freeHold 8 = .ok (.isub, 1) := by decide +kernel
theorem dX0_freeHold_9 : decode cX0_freeHold 9 = .ok (.aload_n 0, 1) := by decide +kernel
theorem dX0_freeHold_10 : decode cX0_freeHold 10 = .ok (.getfield 27, 3) := by decide +kernel
theorem dX0_freeHold_13 : decode cX0_freeHold 13 = .ok (.isub, 1) := by decide +kernel
theorem dX0_freeHold_14 : decode cX0_freeHold 14 = .ok (.ireturn, 1) := by decide +kernel
theorem dX0_isInChamber_0 : decode cX0_isInChamber 0 = .ok (.aload_n 0, 1) := by decide +kernel
theorem dX0_isInChamber_1 : decode cX0_isInChamber 1 = .ok (.getfield 30, 3) := by decide +kernel
theorem dX0_isInChamber_4 : decode cX0_isInChamber 4 = .ok (.bipush 100, 2) := by decide +kernel
theorem dX0_isInChamber_6 : decode cX0_isInChamber 6 = .ok (.if_icmp .lt 7, 3) := by decide +kernel
theorem dX0_isInChamber_9 : decode cX0_isInChamber 9 = .ok (.iconst 1, 1) := by decide +kernel
theorem dX0_isInChamber_10 : decode cX0_isInChamber 10 = .ok (.goto 4, 3) := by decide +kernel
theorem dX0_isInChamber_13 : decode cX0_isInChamber 13 = .ok (.iconst 0, 1) := by decide +kernel
theorem dX0_isInChamber_14 : decode cX0_isInChamber 14 = .ok (.ireturn, 1) := by decide +kernel
theorem dX0_copyTo_0 : decode cX0_copyTo 0 = .ok (.aload_n 1, 1) := by decide +kernel
theorem dX0_copyTo_1 : decode cX0_copyTo 1 = .ok (.aload_n 0, 1) := by decide +kernel
theorem dX0_copyTo_2 : decode cX0_copyTo 2 = .ok (.getfield 9, 3) := by decide +kernel
theorem dX0_copyTo_5 : decode cX0_copyTo 5 = .ok (.putfield 9, 3) := by decide +kernel
theorem dX0_copyTo_8 : decode cX0_copyTo 8 = .ok (.aload_n 1, 1) := by decide +kernel
theorem dX0_copyTo_9 : decode cX0_copyTo 9 = .ok (.aload_n 0, 1) := by decide +kernel
theorem dX0_copyTo_10 : decode cX0_copyTo 10 = .ok (.getfield 15, 3) := by decide +kernel
theorem dX0_copyTo_13 : decode cX0_copyTo 13 = .ok (.putfield 15, 3) := by decide +kernel
theorem dX0_copyTo_16 : decode cX0_copyTo 16 = .ok (.aload_n 1, 1) := by decide +kernel
theorem dX0_copyTo_17 : decode cX0_copyTo 17 = .ok (.aload_n 0, 1) := by decide +kernel
theorem dX0_copyTo_18 : decode cX0_copyTo 18 = .ok (.getfield 18, 3) := by decide +kernel
theorem dX0_copyTo_21 : decode cX0_copyTo 21 = .ok (.putfield 18, 3) := by decide +kernel
theorem dX0_copyTo_24 : decode cX0_copyTo 24 = .ok (.aload_n 1, 1) := by decide +kernel
theorem dX0_copyTo_25 : decode cX0_copyTo 25 = .ok (.aload_n 0, 1) := by decide +kernel
theorem dX0_copyTo_26 : decode cX0_copyTo 26 = .ok (.getfield 21, 3) := by decide +kernel
theorem dX0_copyTo_29 : decode cX0_copyTo 29 = .ok (.putfield 21, 3) := by decide +kernel
theorem dX0_copyTo_32 : decode cX0_copyTo 32 = .ok (.aload_n 1, 1) := by decide +kernel
theorem dX0_copyTo_33 : decode cX0_copyTo 33 = .ok (.aload_n 0, 1) := by decide +kernel
theorem dX0_copyTo_34 : decode cX0_copyTo 34 = .ok (.getfield 24, 3) := by decide +kernel
theorem dX0_copyTo_37 : decode cX0_copyTo 37 = .ok (.putfield 24, 3) := by decide +kernel
theorem dX0_copyTo_40 : decode cX0_copyTo 40 = .ok (.aload_n 1, 1) := by decide +kernel
theorem dX0_copyTo_41 : decode cX0_copyTo 41 = .ok (.aload_n 0, 1) := by decide +kernel
theorem dX0_copyTo_42 : decode cX0_copyTo 42 = .ok (.getfield 27, 3) := by decide +kernel
theorem dX0_copyTo_45 : decode cX0_copyTo 45 = .ok (.putfield 27, 3) := by decide +kernel
theorem dX0_copyTo_48 : decode cX0_copyTo 48 = .ok (.aload_n 1, 1) := by decide +kernel
theorem dX0_copyTo_49 : decode cX0_copyTo 49 = .ok (.aload_n 0, 1) := by decide +kernel
theorem dX0_copyTo_50 : decode cX0_copyTo 50 = .ok (.getfield 30, 3) := by decide +kernel
theorem dX0_copyTo_53 : decode cX0_copyTo 53 = .ok (.putfield 30, 3) := by decide +kernel
theorem dX0_copyTo_56 : decode cX0_copyTo 56 = .ok (.aload_n 1, 1) := by decide +kernel
theorem dX0_copyTo_57 : decode cX0_copyTo 57 = .ok (.aload_n 0, 1) := by decide +kernel
theorem dX0_copyTo_58 : decode cX0_copyTo 58 = .ok (.getfield 33, 3) := by decide +kernel
theorem dX0_copyTo_61 : decode cX0_copyTo 61 = .ok (.putfield 33, 3) := by decide +kernel
theorem dX0_copyTo_64 : decode cX0_copyTo 64 = .ok (.return_, 1) := by decide +kernel
theorem dX1_init_0 : decode cX1_init 0 = .ok (.aload_n 0, 1) := by decide +kernel
theorem dX1_init_1 : decode cX1_init 1 = .ok (.invokespecial 3, 3) := by decide +kernel
theorem dX1_init_4 : decode cX1_init 4 = .ok (.aload_n 0, 1) := by decide +kernel
theorem dX1_init_5 : decode cX1_init 5 = .ok (.new 9, 3) := by decide +kernel
theorem dX1_init_8 : decode cX1_init 8 = .ok (.dup, 1) := by decide +kernel
theorem dX1_init_9 : decode cX1_init 9 = .ok (.invokespecial 11, 3) := by decide +kernel
theorem dX1_init_12 : decode cX1_init 12 = .ok (.putfield 12, 3) := by decide +kernel
theorem dX1_init_15 : decode cX1_init 15 = .ok (.aload_n 0, 1) := by decide +kernel
theorem dX1_init_16 : decode cX1_init 16 = .ok (.new 18, 3) := by decide +kernel
theorem dX1_init_19 : decode cX1_init 19 = .ok (.dup, 1) := by decide +kernel
theorem dX1_init_20 : decode cX1_init 20 = .ok (.invokespecial 20, 3) := by decide +kernel
theorem dX1_init_23 : decode cX1_init 23 = .ok (.putfield 21, 3) := by decide +kernel
theorem dX1_init_26 : decode cX1_init 26 = .ok (.aload_n 0, 1) := by decide +kernel
theorem dX1_init_27 : decode cX1_init 27 = .ok (.new 18, 3) := by decide +kernel
theorem dX1_init_30 : decode cX1_init 30 = .ok (.dup, 1) := by decide +kernel
theorem dX1_init_31 : decode cX1_init 31 = .ok (.invokespecial 20, 3) := by decide +kernel
theorem dX1_init_34 : decode cX1_init 34 = .ok (.putfield 25, 3) := by decide +kernel
theorem dX1_init_37 : decode cX1_init 37 = .ok (.aload_n 0, 1) := by decide +kernel
theorem dX1_init_38 : decode cX1_init 38 = .ok (.bipush 12, 2) := by decide +kernel
theorem dX1_init_40 : decode cX1_init 40 = .ok (.newarray .int, 2) := by decide +kernel
theorem dX1_init_42 : decode cX1_init 42 = .ok (.putfield 28, 3) := by decide +kernel
theorem dX1_init_45 : decode cX1_init 45 = .ok (.aload_n 0, 1) := by decide +kernel
theorem dX1_init_46 : decode cX1_init 46 = .ok (.iconst 0, 1) := by decide +kernel
theorem dX1_init_47 : decode cX1_init 47 = .ok (.iconst 0, 1) := by decide +kernel
theorem dX1_init_48 : decode cX1_init 48 = .ok (.iconst 0, 1) := by decide +kernel
theorem dX1_init_49 : decode cX1_init 49 = .ok (.invokevirtual 32, 3) := by decide +kernel
theorem dX1_init_52 : decode cX1_init 52 = .ok (.return_, 1) := by decide +kernel
theorem dX1_begin_0 : decode cX1_begin 0 = .ok (.aload_n 0, 1) := by decide +kernel
theorem dX1_begin_1 : decode cX1_begin 1 = .ok (.getfield 12, 3) := by decide +kernel
theorem dX1_begin_4 : decode cX1_begin 4 = .ok (.iload_n 1, 1) := by decide +kernel
theorem dX1_begin_5 : decode cX1_begin 5 = .ok (.iload_n 3, 1) := by decide +kernel
theorem dX1_begin_6 : decode cX1_begin 6 = .ok (.iconst 0, 1) := by decide +kernel
theorem dX1_begin_7 : decode cX1_begin 7 = .ok (.invokevirtual 36, 3) := by decide +kernel
theorem dX1_begin_10 : decode cX1_begin 10 = .ok (.aload_n 0, 1) := by decide +kernel
theorem dX1_begin_11 : decode cX1_begin 11 = .ok (.getfield 21, 3) := by decide +kernel
theorem dX1_begin_14 : decode cX1_begin 14 = .ok (.invokevirtual 37, 3) := by decide +kernel
theorem dX1_begin_17 : decode cX1_begin 17 = .ok (.aload_n 0, 1) := by decide +kernel
theorem dX1_begin_18 : decode cX1_begin 18 = .ok (.getfield 25, 3) := by decide +kernel
theorem dX1_begin_21 : decode cX1_begin 21 = .ok (.invokevirtual 37, 3) := by decide +kernel
theorem dX1_begin_24 : decode cX1_begin 24 = .ok (.aload_n 0, 1) := by decide +kernel
theorem dX1_begin_25 : decode cX1_begin 25 = .ok (.iconst 0, 1) := by decide +kernel
theorem dX1_begin_26 : decode cX1_begin 26 = .ok (.putfield 39, 3) := by decide +kernel
theorem dX1_begin_29 : decode cX1_begin 29 = .ok (.aload_n 0, 1) := by decide +kernel
theorem dX1_begin_30 : decode cX1_begin 30 = .ok (.iload_n 2, 1) := by decide +kernel
theorem dX1_begin_31 : decode cX1_begin 31 = .ok (.putfield 43, 3) := by decide +kernel
theorem dX1_begin_34 : decode cX1_begin 34 = .ok (.aload_n 0, 1) := by decide +kernel
theorem dX1_begin_35 : decode cX1_begin 35 = .ok (.iload_n 2, 1) := by decide +kernel
theorem dX1_begin_36 : decode cX1_begin 36 = .ok (.putfield 46, 3) := by decide +kernel
theorem dX1_begin_39 : decode cX1_begin 39 = .ok (.aload_n 0, 1) := by decide +kernel
theorem dX1_begin_40 : decode cX1_begin 40 = .ok (.iconst (-1), 1) := by decide +kernel
theorem dX1_begin_41 : decode cX1_begin 41 = .ok (.putfield 49, 3) := by decide +kernel
theorem dX1_begin_44 : decode cX1_begin 44 = .ok (.return_, 1) := by decide +kernel
theorem dX1_sillOf_0 : decode cX1_sillOf 0 = .ok (.iload_n 1, 1) := by decide +kernel
theorem dX1_sillOf_1 : decode cX1_sillOf 1 = .ok (.ifCond .ne 8, 3) := by decide +kernel
theorem dX1_sillOf_4 : decode cX1_sillOf 4 = .ok (.aload_n 0, 1) := by decide +kernel
theorem dX1_sillOf_5 : decode cX1_sillOf 5 = .ok (.getfield 21, 3) := by decide +kernel
theorem dX1_sillOf_8 : decode cX1_sillOf 8 = .ok (.areturn, 1) := by decide +kernel
theorem dX1_sillOf_9 : decode cX1_sillOf 9 = .ok (.iload_n 1, 1) := by decide +kernel
theorem dX1_sillOf_10 : decode cX1_sillOf 10 = .ok (.iconst 1, 1) := by decide +kernel
theorem dX1_sillOf_11 : decode cX1_sillOf 11 = .ok (.if_icmp .ne 10, 3) := by decide +kernel
theorem dX1_sillOf_14 : decode cX1_sillOf 14 = .ok (.aload_n 0, 1) := by decide +kernel
theorem dX1_sillOf_15 : decode cX1_sillOf 15 = .ok (.getfield 25, 3) := by decide +kernel
theorem dX1_sillOf_18 : decode cX1_sillOf 18 = .ok (.goto 4, 3) := by decide +kernel
theorem dX1_sillOf_21 : decode cX1_sillOf 21 = .ok (.aconst_null, 1) := by decide +kernel
theorem dX1_sillOf_22 : decode cX1_sillOf 22 = .ok (.areturn, 1) := by decide +kernel
theorem dX1_bargeIn_0 : decode cX1_bargeIn 0 = .ok (.iload_n 1, 1) := by decide +kernel
theorem dX1_bargeIn_1 : decode cX1_bargeIn 1 = .ok (.ifCond .lt 29, 3) := by decide +kernel
theorem dX1_bargeIn_4 : decode cX1_bargeIn 4 = .ok (.iload_n 1, 1) := by decide +kernel
theorem dX1_bargeIn_5 : decode cX1_bargeIn 5 = .ok (.aload_n 0, 1) := by decide +kernel
theorem dX1_bargeIn_6 : decode cX1_bargeIn 6 = .ok (.getfield 39, 3) := by decide +kernel
theorem dX1_bargeIn_9 : decode cX1_bargeIn 9 = .ok (.if_icmp .ge 21, 3) := by decide +kernel
theorem dX1_bargeIn_12 : decode cX1_bargeIn 12 = .ok (.iload_n 1, 1) := by decide +kernel
theorem dX1_bargeIn_13 : decode cX1_bargeIn 13 = .ok (.aload_n 0, 1) := by decide +kernel
theorem dX1_bargeIn_14 : decode cX1_bargeIn 14 = .ok (.getfield 28, 3) := by decide +kernel
theorem dX1_bargeIn_17 : decode cX1_bargeIn 17 = .ok (.arraylength, 1) := by decide +kernel
theorem dX1_bargeIn_18 : decode cX1_bargeIn 18 = .ok (.if_icmp .ge 12, 3) := by decide +kernel
theorem dX1_bargeIn_21 : decode cX1_bargeIn 21 = .ok (.aload_n 0, 1) := by decide +kernel
theorem dX1_bargeIn_22 : decode cX1_bargeIn 22 = .ok (.getfield 28, 3) := by decide +kernel
theorem dX1_bargeIn_25 : decode cX1_bargeIn 25 = .ok (.iload_n 1, 1) := by decide +kernel
theorem dX1_bargeIn_26 : decode cX1_bargeIn 26 = .ok (.iaload, 1) := by decide +kernel
theorem dX1_bargeIn_27 : decode cX1_bargeIn 27 = .ok (.goto 4, 3) := by decide +kernel
theorem dX1_bargeIn_30 : decode cX1_bargeIn 30 = .ok (.iconst (-1), 1) := by decide +kernel
theorem dX1_bargeIn_31 : decode cX1_bargeIn 31 = .ok (.ireturn, 1) := by decide +kernel
theorem dX1_bargeNextTo_0 : decode cX1_bargeNextTo 0 = .ok (.aload_n 0, 1) := by decide +kernel
theorem dX1_bargeNextTo_1 : decode cX1_bargeNextTo 1 = .ok (.iload_n 1, 1) := by decide +kernel
theorem dX1_bargeNextTo_2 : decode cX1_bargeNextTo 2 = .ok (.ifCond .ne 7, 3) := by decide +kernel
theorem dX1_bargeNextTo_5 : decode cX1_bargeNextTo 5 = .ok (.iconst 0, 1) := by decide +kernel
theorem dX1_bargeNextTo_6 : decode cX1_bargeNextTo 6 = .ok (.goto 9, 3) := by decide +kernel
theorem dX1_bargeNextTo_9 : decode cX1_bargeNextTo 9 = .ok (.aload_n 0, 1) := by decide +kernel
theorem dX1_bargeNextTo_10 : decode cX1_bargeNextTo 10 = .ok (.getfield 39, 3) := by decide +kernel
theorem dX1_bargeNextTo_13 : decode cX1_bargeNextTo 13 = .ok (.iconst 1, 1) := by decide +kernel
theorem dX1_bargeNextTo_14 : decode cX1_bargeNextTo 14 = .ok (.isub, 1) := by decide +kernel
theorem dX1_bargeNextTo_15 : decode cX1_bargeNextTo 15 = .ok (.invokevirtual 52, 3) := by decide +kernel
theorem dX1_bargeNextTo_18 : decode cX1_bargeNextTo 18 = .ok (.ireturn, 1) := by decide +kernel
theorem dX1_takeIn_0 : decode cX1_takeIn 0 = .ok (.aload_n 0, 1) := by decide +kernel
theorem dX1_takeIn_1 : decode cX1_takeIn 1 = .ok (.getfield 39, 3) := by decide +kernel
theorem dX1_takeIn_4 : decode cX1_takeIn 4 = .ok (.ifCond .lt 15, 3) := by decide +kernel
theorem dX1_takeIn_7 : decode cX1_takeIn 7 = .ok (.aload_n 0, 1) := by decide +kernel
theorem dX1_takeIn_8 : decode cX1_takeIn 8 = .ok (.getfield 39, 3) := by decide +kernel
theorem dX1_takeIn_11 : decode cX1_takeIn 11 = .ok (.aload_n 0, 1) := by decide +kernel
theorem dX1_takeIn_12 : decode cX1_takeIn 12 = .ok (.getfield 28, 3) := by decide +kernel
theorem dX1_takeIn_15 : decode cX1_takeIn 15 = .ok (.arraylength, 1) := by decide +kernel
theorem dX1_takeIn_16 : decode cX1_takeIn 16 = .ok (.if_icmp .lt 4, 3) := by decide +kernel
theorem dX1_takeIn_19 : decode cX1_takeIn 19 = .ok (.return_, 1) := by decide +kernel
theorem dX1_takeIn_20 : decode cX1_takeIn 20 = .ok (.aload_n 0, 1) := by decide +kernel
theorem dX1_takeIn_21 : decode cX1_takeIn 21 = .ok (.getfield 39, 3) := by decide +kernel
theorem dX1_takeIn_24 : decode cX1_takeIn 24 = .ok (.istore 4, 2) := by decide +kernel
theorem dX1_takeIn_26 : decode cX1_takeIn 26 = .ok (.iload_n 3, 1) := by decide +kernel
theorem dX1_takeIn_27 : decode cX1_takeIn 27 = .ok (.ifCond .ne 23, 3) := by decide +kernel
theorem dX1_takeIn_30 : decode cX1_takeIn 30 = .ok (.aload_n 0, 1) := by decide +kernel
theorem dX1_takeIn_31 : decode cX1_takeIn 31 = .ok (.getfield 28, 3) := by decide +kernel
theorem dX1_takeIn_34 : decode cX1_takeIn 34 = .ok (.iconst 0, 1) := by decide +kernel
theorem dX1_takeIn_35 : decode cX1_takeIn 35 = .ok (.aload_n 0, 1) := by decide +kernel
theorem dX1_takeIn_36 : decode cX1_takeIn 36 = .ok (.getfield 28, 3) := by decide +kernel
theorem dX1_takeIn_39 : decode cX1_takeIn 39 = .ok (.iconst 1, 1) := by decide +kernel
theorem dX1_takeIn_40 : decode cX1_takeIn 40 = .ok (.aload_n 0, 1) := by decide +kernel
theorem dX1_takeIn_41 : decode cX1_takeIn 41 = .ok (.getfield 39, 3) := by decide +kernel
theorem dX1_takeIn_44 : decode cX1_takeIn 44 = .ok (.invokestatic 56, 3) := by decide +kernel
theorem dX1_takeIn_47 : decode cX1_takeIn 47 = .ok (.iconst 0, 1) := by decide +kernel
theorem dX1_takeIn_48 : decode cX1_takeIn 48 = .ok (.istore 4, 2) := by decide +kernel
theorem dX1_takeIn_50 : decode cX1_takeIn 50 = .ok (.aload_n 0, 1) := by decide +kernel
theorem dX1_takeIn_51 : decode cX1_takeIn 51 = .ok (.getfield 28, 3) := by decide +kernel
theorem dX1_takeIn_54 : decode cX1_takeIn 54 = .ok (.iload 4, 2) := by decide +kernel
theorem dX1_takeIn_56 : decode cX1_takeIn 56 = .ok (.iload_n 1, 1) := by decide +kernel
theorem dX1_takeIn_57 : decode cX1_takeIn 57 = .ok (.iastore, 1) := by decide +kernel
theorem dX1_takeIn_58 : decode cX1_takeIn 58 = .ok (.aload_n 0, 1) := by decide +kernel
theorem dX1_takeIn_59 : decode cX1_takeIn 59 = .ok (.dup, 1) := by decide +kernel
theorem dX1_takeIn_60 : decode cX1_takeIn 60 = .ok (.getfield 39, 3) := by decide +kernel
theorem dX1_takeIn_63 : decode cX1_takeIn 63 = .ok (.iconst 1, 1) := by decide +kernel
theorem dX1_takeIn_64 : decode cX1_takeIn 64 = .ok (.iadd, 1) := by decide +kernel
theorem dX1_takeIn_65 : decode cX1_takeIn 65 = .ok (.putfield 39, 3) := by decide +kernel
theorem dX1_takeIn_68 : decode cX1_takeIn 68 = .ok (.aload_n 0, 1) := by decide +kernel
theorem dX1_takeIn_69 : decode cX1_takeIn 69 = .ok (.dup, 1) := by decide +kernel
theorem dX1_takeIn_70 : decode cX1_takeIn 70 = .ok (.getfield 46, 3) := by decide +kernel
theorem dX1_takeIn_73 : decode cX1_takeIn 73 = .ok (.iload_n 2, 1) := by decide +kernel
theorem dX1_takeIn_74 : decode cX1_takeIn 74 = .ok (.isub, 1) := by decide +kernel
theorem dX1_takeIn_75 : decode cX1_takeIn 75 = .ok (.putfield 46, 3) := by decide +kernel
theorem dX1_takeIn_78 : decode cX1_takeIn 78 = .ok (.return_, 1) := by decide +kernel
theorem dX1_letOut_0 : decode cX1_letOut 0 = .ok (.aload_n 0, 1) := by decide +kernel
theorem dX1_letOut_1 : decode cX1_letOut 1 = .ok (.getfield 39, 3) := by decide +kernel
theorem dX1_letOut_4 : decode cX1_letOut 4 = .ok (.iconst 1, 1) := by decide +kernel
theorem dX1_letOut_5 : decode cX1_letOut 5 = .ok (.if_icmp .lt 15, 3) := by decide +kernel
theorem dX1_letOut_8 : decode cX1_letOut 8 = .ok (.aload_n 0, 1) := by decide +kernel
theorem dX1_letOut_9 : decode cX1_letOut 9 = .ok (.getfield 39, 3) := by decide +kernel
theorem dX1_letOut_12 : decode cX1_letOut 12 = .ok (.aload_n 0, 1) := by decide +kernel
theorem dX1_letOut_13 : decode cX1_letOut 13 = .ok (.getfield 28, 3) := by decide +kernel
theorem dX1_letOut_16 : decode cX1_letOut 16 = .ok (.arraylength, 1) := by decide +kernel
theorem dX1_letOut_17 : decode cX1_letOut 17 = .ok (.if_icmp .le 4, 3) := by decide +kernel
theorem dX1_letOut_20 : decode cX1_letOut 20 = .ok (.return_, 1) := by decide +kernel
theorem dX1_letOut_21 : decode cX1_letOut 21 = .ok (.aload_n 0, 1) := by decide +kernel
theorem dX1_letOut_22 : decode cX1_letOut 22 = .ok (.dup, 1) := by decide +kernel
theorem dX1_letOut_23 : decode cX1_letOut 23 = .ok (.getfield 39, 3) := by decide +kernel
theorem dX1_letOut_26 : decode cX1_letOut 26 = .ok (.iconst 1, 1) := by decide +kernel
theorem dX1_letOut_27 : decode cX1_letOut 27 = .ok (.isub, 1) := by decide +kernel
theorem dX1_letOut_28 : decode cX1_letOut 28 = .ok (.putfield 39, 3) := by decide +kernel
theorem dX1_letOut_31 : decode cX1_letOut 31 = .ok (.aload_n 0, 1) := by decide +kernel
theorem dX1_letOut_32 : decode cX1_letOut 32 = .ok (.dup, 1) := by decide +kernel
theorem dX1_letOut_33 : decode cX1_letOut 33 = .ok (.getfield 46, 3) := by decide +kernel
theorem dX1_letOut_36 : decode cX1_letOut 36 = .ok (.iload_n 1, 1) := by decide +kernel
theorem dX1_letOut_37 : decode cX1_letOut 37 = .ok (.iadd, 1) := by decide +kernel
theorem dX1_letOut_38 : decode cX1_letOut 38 = .ok (.putfield 46, 3) := by decide +kernel
theorem dX1_letOut_41 : decode cX1_letOut 41 = .ok (.iload_n 2, 1) := by decide +kernel
theorem dX1_letOut_42 : decode cX1_letOut 42 = .ok (.ifCond .ne 20, 3) := by decide +kernel
theorem dX1_letOut_45 : decode cX1_letOut 45 = .ok (.aload_n 0, 1) := by decide +kernel
theorem dX1_letOut_46 : decode cX1_letOut 46 = .ok (.getfield 28, 3) := by decide +kernel
theorem dX1_letOut_49 : decode cX1_letOut 49 = .ok (.iconst 1, 1) := by decide +kernel
theorem dX1_letOut_50 : decode cX1_letOut 50 = .ok (.aload_n 0, 1) := by decide +kernel
theorem dX1_letOut_51 : decode cX1_letOut 51 = .ok (.getfield 28, 3) := by decide +kernel
theorem dX1_letOut_54 : decode cX1_letOut 54 = .ok (.iconst 0, 1) := by decide +kernel
theorem dX1_letOut_55 : decode cX1_letOut 55 = .ok (.aload_n 0, 1) := by decide +kernel
theorem dX1_letOut_56 : decode cX1_letOut 56 = .ok (.getfield 39, 3) := by decide +kernel
theorem dX1_letOut_59 : decode cX1_letOut 59 = .ok (.invokestatic 56, 3) := by decide +kernel
theorem dX1_letOut_62 : decode cX1_letOut 62 = .ok (.return_, 1) := by decide +kernel
theorem dX1_copyTo_0 : decode cX1_copyTo 0 = .ok (.aload_n 0, 1) := by decide +kernel
theorem dX1_copyTo_1 : decode cX1_copyTo 1 = .ok (.getfield 12, 3) := by decide +kernel
theorem dX1_copyTo_4 : decode cX1_copyTo 4 = .ok (.aload_n 1, 1) := by decide +kernel
theorem dX1_copyTo_5 : decode cX1_copyTo 5 = .ok (.getfield 12, 3) := by decide +kernel
theorem dX1_copyTo_8 : decode cX1_copyTo 8 = .ok (.invokevirtual 62, 3) := by decide +kernel
theorem dX1_copyTo_11 : decode cX1_copyTo 11 = .ok (.aload_n 0, 1) := by decide +kernel
theorem dX1_copyTo_12 : decode cX1_copyTo 12 = .ok (.getfield 21, 3) := by decide +kernel
theorem dX1_copyTo_15 : decode cX1_copyTo 15 = .ok (.aload_n 1, 1) := by decide +kernel
theorem dX1_copyTo_16 : decode cX1_copyTo 16 = .ok (.getfield 21, 3) := by decide +kernel
theorem dX1_copyTo_19 : decode cX1_copyTo 19 = .ok (.invokevirtual 66, 3) := by decide +kernel
theorem dX1_copyTo_22 : decode cX1_copyTo 22 = .ok (.aload_n 0, 1) := by decide +kernel
theorem dX1_copyTo_23 : decode cX1_copyTo 23 = .ok (.getfield 25, 3) := by decide +kernel
theorem dX1_copyTo_26 : decode cX1_copyTo 26 = .ok (.aload_n 1, 1) := by decide +kernel
theorem dX1_copyTo_27 : decode cX1_copyTo 27 = .ok (.getfield 25, 3) := by decide +kernel
theorem dX1_copyTo_30 : decode cX1_copyTo 30 = .ok (.invokevirtual 66, 3) := by decide +kernel
theorem dX1_copyTo_33 : decode cX1_copyTo 33 = .ok (.aload_n 0, 1) := by decide +kernel
theorem dX1_copyTo_34 : decode cX1_copyTo 34 = .ok (.getfield 28, 3) := by decide +kernel
theorem dX1_copyTo_37 : decode cX1_copyTo 37 = .ok (.iconst 0, 1) := by decide +kernel
theorem dX1_copyTo_38 : decode cX1_copyTo 38 = .ok (.aload_n 1, 1) := by decide +kernel
theorem dX1_copyTo_39 : decode cX1_copyTo 39 = .ok (.getfield 28, 3) := by decide +kernel
theorem dX1_copyTo_42 : decode cX1_copyTo 42 = .ok (.iconst 0, 1) := by decide +kernel
theorem dX1_copyTo_43 : decode cX1_copyTo 43 = .ok (.aload_n 0, 1) := by decide +kernel
theorem dX1_copyTo_44 : decode cX1_copyTo 44 = .ok (.getfield 28, 3) := by decide +kernel
theorem dX1_copyTo_47 : decode cX1_copyTo 47 = .ok (.arraylength, 1) := by decide +kernel
theorem dX1_copyTo_48 : decode cX1_copyTo 48 = .ok (.aload_n 1, 1) := by decide +kernel
theorem dX1_copyTo_49 : decode cX1_copyTo 49 = .ok (.getfield 28, 3) := by decide +kernel
theorem dX1_copyTo_52 : decode cX1_copyTo 52 = .ok (.arraylength, 1) := by decide +kernel
theorem dX1_copyTo_53 : decode cX1_copyTo 53 = .ok (.invokestatic 69, 3) := by decide +kernel
theorem dX1_copyTo_56 : decode cX1_copyTo 56 = .ok (.invokestatic 56, 3) := by decide +kernel
theorem dX1_copyTo_59 : decode cX1_copyTo 59 = .ok (.aload_n 1, 1) := by decide +kernel
theorem dX1_copyTo_60 : decode cX1_copyTo 60 = .ok (.aload_n 0, 1) := by decide +kernel
theorem dX1_copyTo_61 : decode cX1_copyTo 61 = .ok (.getfield 39, 3) := by decide +kernel
theorem dX1_copyTo_64 : decode cX1_copyTo 64 = .ok (.putfield 39, 3) := by decide +kernel
theorem dX1_copyTo_67 : decode cX1_copyTo 67 = .ok (.aload_n 1, 1) := by decide +kernel
theorem dX1_copyTo_68 : decode cX1_copyTo 68 = .ok (.aload_n 0, 1) := by decide +kernel
theorem dX1_copyTo_69 : decode cX1_copyTo 69 = .ok (.getfield 43, 3) := by decide +kernel
theorem dX1_copyTo_72 : decode cX1_copyTo 72 = .ok (.putfield 43, 3) := by decide +kernel
theorem dX1_copyTo_75 : decode cX1_copyTo 75 = .ok (.aload_n 1, 1) := by decide +kernel
theorem dX1_copyTo_76 : decode cX1_copyTo 76 = .ok (.aload_n 0, 1) := by decide +kernel
theorem dX1_copyTo_77 : decode cX1_copyTo 77 = .ok (.getfield 46, 3) := by decide +kernel
theorem dX1_copyTo_80 : decode cX1_copyTo 80 = .ok (.putfield 46, 3) := by decide +kernel
theorem dX1_copyTo_83 : decode cX1_copyTo 83 = .ok (.aload_n 1, 1) := by decide +kernel
theorem dX1_copyTo_84 : decode cX1_copyTo 84 = .ok (.aload_n 0, 1) := by decide +kernel
theorem dX1_copyTo_85 : decode cX1_copyTo 85 = .ok (.getfield 49, 3) := by decide +kernel
theorem dX1_copyTo_88 : decode cX1_copyTo 88 = .ok (.putfield 49, 3) := by decide +kernel
theorem dX1_copyTo_91 : decode cX1_copyTo 91 = .ok (.return_, 1) := by decide +kernel
theorem dX2_init_0 : decode cX2_init 0 = .ok (.aload_n 0, 1) := by decide +kernel
theorem dX2_init_1 : decode cX2_init 1 = .ok (.invokespecial 3, 3) := by decide +kernel
theorem dX2_init_4 : decode cX2_init 4 = .ok (.aload_n 0, 1) := by decide +kernel
theorem dX2_init_5 : decode cX2_init 5 = .ok (.iconst 5, 1) := by decide +kernel
theorem dX2_init_6 : decode cX2_init 6 = .ok (.anewarray 9, 3) := by decide +kernel
theorem dX2_init_9 : decode cX2_init 9 = .ok (.putfield 11, 3) := by decide +kernel
theorem dX2_init_12 : decode cX2_init 12 = .ok (.aload_n 0, 1) := by decide +kernel
theorem dX2_init_13 : decode cX2_init 13 = .ok (.iconst 4, 1) := by decide +kernel
theorem dX2_init_14 : decode cX2_init 14 = .ok (.anewarray 17, 3) := by decide +kernel
theorem dX2_init_17 : decode cX2_init 17 = .ok (.putfield 19, 3) := by decide +kernel
theorem dX2_init_20 : decode cX2_init 20 = .ok (.aload_n 0, 1) := by decide +kernel
theorem dX2_init_21 : decode cX2_init 21 = .ok (.bipush 12, 2) := by decide +kernel
theorem dX2_init_23 : decode cX2_init 23 = .ok (.anewarray 23, 3) := by decide +kernel
theorem dX2_init_26 : decode cX2_init 26 = .ok (.putfield 25, 3) := by decide +kernel
theorem dX2_init_29 : decode cX2_init 29 = .ok (.iconst 0, 1) := by decide +kernel
theorem dX2_init_30 : decode cX2_init 30 = .ok (.istore_n 1, 1) := by decide +kernel
theorem dX2_init_31 : decode cX2_init 31 = .ok (.iload_n 1, 1) := by decide +kernel
theorem dX2_init_32 : decode cX2_init 32 = .ok (.aload_n 0, 1) := by decide +kernel
theorem dX2_init_33 : decode cX2_init 33 = .ok (.getfield 11, 3) := by decide +kernel
theorem dX2_init_36 : decode cX2_init 36 = .ok (.arraylength, 1) := by decide +kernel
theorem dX2_init_37 : decode cX2_init 37 = .ok (.if_icmp .ge 22, 3) := by decide +kernel
theorem dX2_init_40 : decode cX2_init 40 = .ok (.aload_n 0, 1) := by decide +kernel
theorem dX2_init_41 : decode cX2_init 41 = .ok (.getfield 11, 3) := by decide +kernel
theorem dX2_init_44 : decode cX2_init 44 = .ok (.iload_n 1, 1) := by decide +kernel
theorem dX2_init_45 : decode cX2_init 45 = .ok (.new 9, 3) := by decide +kernel
theorem dX2_init_48 : decode cX2_init 48 = .ok (.dup, 1) := by decide +kernel
theorem dX2_init_49 : decode cX2_init 49 = .ok (.invokespecial 29, 3) := by decide +kernel
theorem dX2_init_52 : decode cX2_init 52 = .ok (.aastore, 1) := by decide +kernel
theorem dX2_init_53 : decode cX2_init 53 = .ok (.iinc 1 1, 3) := by decide +kernel
theorem dX2_init_56 : decode cX2_init 56 = .ok (.goto (-25), 3) := by decide +kernel
theorem dX2_init_59 : decode cX2_init 59 = .ok (.iconst 0, 1) := by decide +kernel
theorem dX2_init_60 : decode cX2_init 60 = .ok (.istore_n 1, 1) := by decide +kernel
theorem dX2_init_61 : decode cX2_init 61 = .ok (.iload_n 1, 1) := by decide +kernel
theorem dX2_init_62 : decode cX2_init 62 = .ok (.aload_n 0, 1) := by decide +kernel
theorem dX2_init_63 : decode cX2_init 63 = .ok (.getfield 19, 3) := by decide +kernel
theorem dX2_init_66 : decode cX2_init 66 = .ok (.arraylength, 1) := by decide +kernel
theorem dX2_init_67 : decode cX2_init 67 = .ok (.if_icmp .ge 22, 3) := by decide +kernel
theorem dX2_init_70 : decode cX2_init 70 = .ok (.aload_n 0, 1) := by decide +kernel
theorem dX2_init_71 : decode cX2_init 71 = .ok (.getfield 19, 3) := by decide +kernel
theorem dX2_init_74 : decode cX2_init 74 = .ok (.iload_n 1, 1) := by decide +kernel
theorem dX2_init_75 : decode cX2_init 75 = .ok (.new 17, 3) := by decide +kernel
theorem dX2_init_78 : decode cX2_init 78 = .ok (.dup, 1) := by decide +kernel
theorem dX2_init_79 : decode cX2_init 79 = .ok (.invokespecial 30, 3) := by decide +kernel
theorem dX2_init_82 : decode cX2_init 82 = .ok (.aastore, 1) := by decide +kernel
theorem dX2_init_83 : decode cX2_init 83 = .ok (.iinc 1 1, 3) := by decide +kernel
theorem dX2_init_86 : decode cX2_init 86 = .ok (.goto (-25), 3) := by decide +kernel
theorem dX2_init_89 : decode cX2_init 89 = .ok (.iconst 0, 1) := by decide +kernel
theorem dX2_init_90 : decode cX2_init 90 = .ok (.istore_n 1, 1) := by decide +kernel
theorem dX2_init_91 : decode cX2_init 91 = .ok (.iload_n 1, 1) := by decide +kernel
theorem dX2_init_92 : decode cX2_init 92 = .ok (.aload_n 0, 1) := by decide +kernel
theorem dX2_init_93 : decode cX2_init 93 = .ok (.getfield 25, 3) := by decide +kernel
theorem dX2_init_96 : decode cX2_init 96 = .ok (.arraylength, 1) := by decide +kernel
theorem dX2_init_97 : decode cX2_init 97 = .ok (.if_icmp .ge 22, 3) := by decide +kernel
theorem dX2_init_100 : decode cX2_init 100 = .ok (.aload_n 0, 1) := by decide +kernel
theorem dX2_init_101 : decode cX2_init 101 = .ok (.getfield 25, 3) := by decide +kernel
theorem dX2_init_104 : decode cX2_init 104 = .ok (.iload_n 1, 1) := by decide +kernel
theorem dX2_init_105 : decode cX2_init 105 = .ok (.new 23, 3) := by decide +kernel
theorem dX2_init_108 : decode cX2_init 108 = .ok (.dup, 1) := by decide +kernel
theorem dX2_init_109 : decode cX2_init 109 = .ok (.invokespecial 31, 3) := by decide +kernel
theorem dX2_init_112 : decode cX2_init 112 = .ok (.aastore, 1) := by decide +kernel
theorem dX2_init_113 : decode cX2_init 113 = .ok (.iinc 1 1, 3) := by decide +kernel
theorem dX2_init_116 : decode cX2_init 116 = .ok (.goto (-25), 3) := by decide +kernel
theorem dX2_init_119 : decode cX2_init 119 = .ok (.aload_n 0, 1) := by decide +kernel
theorem dX2_init_120 : decode cX2_init 120 = .ok (.iconst 0, 1) := by decide +kernel
theorem dX2_init_121 : decode cX2_init 121 = .ok (.putfield 32, 3) := by decide +kernel
theorem dX2_init_124 : decode cX2_init 124 = .ok (.aload_n 0, 1) := by decide +kernel
theorem dX2_init_125 : decode cX2_init 125 = .ok (.iconst 0, 1) := by decide +kernel
theorem dX2_init_126 : decode cX2_init 126 = .ok (.putfield 36, 3) := by decide +kernel
theorem dX2_init_129 : decode cX2_init 129 = .ok (.aload_n 0, 1) := by decide +kernel
theorem dX2_init_130 : decode cX2_init 130 = .ok (.iconst 0, 1) := by decide +kernel
theorem dX2_init_131 : decode cX2_init 131 = .ok (.putfield 39, 3) := by decide +kernel
theorem dX2_init_134 : decode cX2_init 134 = .ok (.aload_n 0, 1) := by decide +kernel
theorem dX2_init_135 : decode cX2_init 135 = .ok (.bipush 10, 2) := by decide +kernel
theorem dX2_init_137 : decode cX2_init 137 = .ok (.putfield 42, 3) := by decide +kernel
theorem dX2_init_140 : decode cX2_init 140 = .ok (.aload_n 0, 1) := by decide +kernel
theorem dX2_init_141 : decode cX2_init 141 = .ok (.lconst 0, 1) := by decide +kernel
theorem dX2_init_142 : decode cX2_init 142 = .ok (.putfield 45, 3) := by decide +kernel
theorem dX2_init_145 : decode cX2_init 145 = .ok (.aload_n 0, 1) := by decide +kernel
theorem dX2_init_146 : decode cX2_init 146 = .ok (.lconst 0, 1) := by decide +kernel
theorem dX2_init_147 : decode cX2_init 147 = .ok (.putfield 49, 3) := by decide +kernel
theorem dX2_init_150 : decode cX2_init 150 = .ok (.return_, 1) := by decide +kernel
theorem dX2_reachAt_0 : decode cX2_reachAt 0 = .ok (.iload_n 1, 1) := by decide +kernel
theorem dX2_reachAt_1 : decode cX2_reachAt 1 = .ok (.ifCond .lt 24, 3) := by decide +kernel
theorem dX2_reachAt_4 : decode cX2_reachAt 4 = .ok (.iload_n 1, 1) := by decide +kernel
theorem dX2_reachAt_5 : decode cX2_reachAt 5 = .ok (.aload_n 0, 1) := by decide +kernel
theorem dX2_reachAt_6 : decode cX2_reachAt 6 = .ok (.getfield 32, 3) := by decide +kernel
theorem dX2_reachAt_9 : decode cX2_reachAt 9 = .ok (.if_icmp .ge 16, 3) := by decide +kernel
theorem dX2_reachAt_12 : decode cX2_reachAt 12 = .ok (.iload_n 1, 1) := by decide +kernel
theorem dX2_reachAt_13 : decode cX2_reachAt 13 = .ok (.aload_n 0, 1) := by decide +kernel
theorem dX2_reachAt_14 : decode cX2_reachAt 14 = .ok (.getfield 11, 3) := by decide +kernel
theorem dX2_reachAt_17 : decode cX2_reachAt 17 = .ok (.arraylength, 1) := by decide +kernel
theorem dX2_reachAt_18 : decode cX2_reachAt 18 = .ok (.if_icmp .ge 7, 3) := by decide +kernel
theorem dX2_reachAt_21 : decode cX2_reachAt 21 = .ok (.iconst 1, 1) := by decide +kernel
theorem dX2_reachAt_22 : decode cX2_reachAt 22 = .ok (.goto 4, 3) := by decide +kernel
theorem dX2_reachAt_25 : decode cX2_reachAt 25 = .ok (.iconst 0, 1) := by decide +kernel
theorem dX2_reachAt_26 : decode cX2_reachAt 26 = .ok (.istore_n 2, 1) := by decide +kernel
theorem dX2_reachAt_27 : decode cX2_reachAt 27 = .ok (.iload_n 2, 1) := by decide +kernel
theorem dX2_reachAt_28 : decode cX2_reachAt 28 = .ok (.ifCond .eq 12, 3) := by decide +kernel
theorem dX2_reachAt_31 : decode cX2_reachAt 31 = .ok (.aload_n 0, 1) := by decide +kernel
theorem dX2_reachAt_32 : decode cX2_reachAt 32 = .ok (.getfield 11, 3) := by decide +kernel
theorem dX2_reachAt_35 : decode cX2_reachAt 35 = .ok (.iload_n 1, 1) := by decide +kernel
theorem dX2_reachAt_36 : decode cX2_reachAt 36 = .ok (.aaload, 1) := by decide +kernel
theorem dX2_reachAt_37 : decode cX2_reachAt 37 = .ok (.goto 4, 3) := by decide +kernel
theorem dX2_reachAt_40 : decode cX2_reachAt 40 = .ok (.aconst_null, 1) := by decide +kernel
theorem dX2_reachAt_41 : decode cX2_reachAt 41 = .ok (.areturn, 1) := by decide +kernel
theorem dX2_chamberAt_0 : decode cX2_chamberAt 0 = .ok (.iload_n 1, 1) := by decide +kernel
theorem dX2_chamberAt_1 : decode cX2_chamberAt 1 = .ok (.ifCond .lt 24, 3) := by decide +kernel
theorem dX2_chamberAt_4 : decode cX2_chamberAt 4 = .ok (.iload_n 1, 1) := by decide +kernel
theorem dX2_chamberAt_5 : decode cX2_chamberAt 5 = .ok (.aload_n 0, 1) := by decide +kernel
theorem dX2_chamberAt_6 : decode cX2_chamberAt 6 = .ok (.getfield 36, 3) := by decide +kernel
theorem dX2_chamberAt_9 : decode cX2_chamberAt 9 = .ok (.if_icmp .ge 16, 3) := by decide +kernel
theorem dX2_chamberAt_12 : decode cX2_chamberAt 12 = .ok (.iload_n 1, 1) := by decide +kernel
theorem dX2_chamberAt_13 : decode cX2_chamberAt 13 = .ok (.aload_n 0, 1) := by decide +kernel
theorem dX2_chamberAt_14 : decode cX2_chamberAt 14 = .ok (.getfield 19, 3) := by decide +kernel
theorem dX2_chamberAt_17 : decode cX2_chamberAt 17 = .ok (.arraylength, 1) := by decide +kernel
theorem dX2_chamberAt_18 : decode cX2_chamberAt 18 = .ok (.if_icmp .ge 7, 3) := by decide +kernel
theorem dX2_chamberAt_21 : decode cX2_chamberAt 21 = .ok (.iconst 1, 1) := by decide +kernel
theorem dX2_chamberAt_22 : decode cX2_chamberAt 22 = .ok (.goto 4, 3) := by decide +kernel
theorem dX2_chamberAt_25 : decode cX2_chamberAt 25 = .ok (.iconst 0, 1) := by decide +kernel
theorem dX2_chamberAt_26 : decode cX2_chamberAt 26 = .ok (.istore_n 2, 1) := by decide +kernel
theorem dX2_chamberAt_27 : decode cX2_chamberAt 27 = .ok (.iload_n 2, 1) := by decide +kernel
theorem dX2_chamberAt_28 : decode cX2_chamberAt 28 = .ok (.ifCond .eq 12, 3) := by decide +kernel
theorem dX2_chamberAt_31 : decode cX2_chamberAt 31 = .ok (.aload_n 0, 1) := by decide +kernel
theorem dX2_chamberAt_32 : decode cX2_chamberAt 32 = .ok (.getfield 19, 3) := by decide +kernel
theorem dX2_chamberAt_35 : decode cX2_chamberAt 35 = .ok (.iload_n 1, 1) := by decide +kernel
theorem dX2_chamberAt_36 : decode cX2_chamberAt 36 = .ok (.aaload, 1) := by decide +kernel
theorem dX2_chamberAt_37 : decode cX2_chamberAt 37 = .ok (.goto 4, 3) := by decide +kernel
theorem dX2_chamberAt_40 : decode cX2_chamberAt 40 = .ok (.aconst_null, 1) := by decide +kernel
theorem dX2_chamberAt_41 : decode cX2_chamberAt 41 = .ok (.areturn, 1) := by decide +kernel
theorem dX2_bargeAt_0 : decode cX2_bargeAt 0 = .ok (.iload_n 1, 1) := by decide +kernel
theorem dX2_bargeAt_1 : decode cX2_bargeAt 1 = .ok (.ifCond .lt 24, 3) := by decide +kernel
theorem dX2_bargeAt_4 : decode cX2_bargeAt 4 = .ok (.iload_n 1, 1) := by decide +kernel
theorem dX2_bargeAt_5 : decode cX2_bargeAt 5 = .ok (.aload_n 0, 1) := by decide +kernel
theorem dX2_bargeAt_6 : decode cX2_bargeAt 6 = .ok (.getfield 39, 3) := by decide +kernel
theorem dX2_bargeAt_9 : decode cX2_bargeAt 9 = .ok (.if_icmp .ge 16, 3) := by decide +kernel
theorem dX2_bargeAt_12 : decode cX2_bargeAt 12 = .ok (.iload_n 1, 1) := by decide +kernel
theorem dX2_bargeAt_13 : decode cX2_bargeAt 13 = .ok (.aload_n 0, 1) := by decide +kernel
theorem dX2_bargeAt_14 : decode cX2_bargeAt 14 = .ok (.getfield 25, 3) := by decide +kernel
theorem dX2_bargeAt_17 : decode cX2_bargeAt 17 = .ok (.arraylength, 1) := by decide +kernel
theorem dX2_bargeAt_18 : decode cX2_bargeAt 18 = .ok (.if_icmp .ge 7, 3) := by decide +kernel
theorem dX2_bargeAt_21 : decode cX2_bargeAt 21 = .ok (.iconst 1, 1) := by decide +kernel
theorem dX2_bargeAt_22 : decode cX2_bargeAt 22 = .ok (.goto 4, 3) := by decide +kernel
theorem dX2_bargeAt_25 : decode cX2_bargeAt 25 = .ok (.iconst 0, 1) := by decide +kernel
theorem dX2_bargeAt_26 : decode cX2_bargeAt 26 = .ok (.istore_n 2, 1) := by decide +kernel
theorem dX2_bargeAt_27 : decode cX2_bargeAt 27 = .ok (.iload_n 2, 1) := by decide +kernel
theorem dX2_bargeAt_28 : decode cX2_bargeAt 28 = .ok (.ifCond .eq 12, 3) := by decide +kernel
theorem dX2_bargeAt_31 : decode cX2_bargeAt 31 = .ok (.aload_n 0, 1) := by decide +kernel
theorem dX2_bargeAt_32 : decode cX2_bargeAt 32 = .ok (.getfield 25, 3) := by decide +kernel
theorem dX2_bargeAt_35 : decode cX2_bargeAt 35 = .ok (.iload_n 1, 1) := by decide +kernel
theorem dX2_bargeAt_36 : decode cX2_bargeAt 36 = .ok (.aaload, 1) := by decide +kernel
theorem dX2_bargeAt_37 : decode cX2_bargeAt 37 = .ok (.goto 4, 3) := by decide +kernel
theorem dX2_bargeAt_40 : decode cX2_bargeAt 40 = .ok (.aconst_null, 1) := by decide +kernel
theorem dX2_bargeAt_41 : decode cX2_bargeAt 41 = .ok (.areturn, 1) := by decide +kernel
theorem dX2_sillAt_0 : decode cX2_sillAt 0 = .ok (.aload_n 0, 1) := by decide +kernel
theorem dX2_sillAt_1 : decode cX2_sillAt 1 = .ok (.iload_n 1, 1) := by decide +kernel
theorem dX2_sillAt_2 : decode cX2_sillAt 2 = .ok (.invokevirtual 52, 3) := by decide +kernel
theorem dX2_sillAt_5 : decode cX2_sillAt 5 = .ok (.astore_n 3, 1) := by decide +kernel
theorem dX2_sillAt_6 : decode cX2_sillAt 6 = .ok (.aload_n 3, 1) := by decide +kernel
theorem dX2_sillAt_7 : decode cX2_sillAt 7 = .ok (.ifnonnull 7, 3) := by decide +kernel
theorem dX2_sillAt_10 : decode cX2_sillAt 10 = .ok (.aconst_null, 1) := by decide +kernel
theorem dX2_sillAt_11 : decode cX2_sillAt 11 = .ok (.goto 8, 3) := by decide +kernel
theorem dX2_sillAt_14 : decode cX2_sillAt 14 = .ok (.aload_n 3, 1) := by decide +kernel
theorem dX2_sillAt_15 : decode cX2_sillAt 15 = .ok (.iload_n 2, 1) := by decide +kernel
theorem dX2_sillAt_16 : decode cX2_sillAt 16 = .ok (.invokevirtual 56, 3) := by decide +kernel
theorem dX2_sillAt_19 : decode cX2_sillAt 19 = .ok (.areturn, 1) := by decide +kernel
theorem dX2_reachBehind_0 : decode cX2_reachBehind 0 = .ok (.aload_n 0, 1) := by decide +kernel
theorem dX2_reachBehind_1 : decode cX2_reachBehind 1 = .ok (.iload_n 1, 1) := by decide +kernel
theorem dX2_reachBehind_2 : decode cX2_reachBehind 2 = .ok (.iload_n 2, 1) := by decide +kernel
theorem dX2_reachBehind_3 : decode cX2_reachBehind 3 = .ok (.invokevirtual 60, 3) := by decide +kernel
theorem dX2_reachBehind_6 : decode cX2_reachBehind 6 = .ok (.ifnonnull 7, 3) := by decide +kernel
theorem dX2_reachBehind_9 : decode cX2_reachBehind 9 = .ok (.aconst_null, 1) := by decide +kernel
theorem dX2_reachBehind_10 : decode cX2_reachBehind 10 = .ok (.goto 10, 3) := by decide +kernel
theorem dX2_reachBehind_13 : decode cX2_reachBehind 13 = .ok (.aload_n 0, 1) := by decide +kernel
theorem dX2_reachBehind_14 : decode cX2_reachBehind 14 = .ok (.iload_n 1, 1) := by decide +kernel
theorem dX2_reachBehind_15 : decode cX2_reachBehind 15 = .ok (.iload_n 2, 1) := by decide +kernel
theorem dX2_reachBehind_16 : decode cX2_reachBehind 16 = .ok (.iadd, 1) := by decide +kernel
theorem dX2_reachBehind_17 : decode cX2_reachBehind 17 = .ok (.invokevirtual 64, 3) := by decide +kernel
theorem dX2_reachBehind_20 : decode cX2_reachBehind 20 = .ok (.areturn, 1) := by decide +kernel
theorem dX2_waterAt_0 : decode cX2_waterAt 0 = .ok (.iload_n 1, 1) := by decide +kernel
theorem dX2_waterAt_1 : decode cX2_waterAt 1 = .ok (.bipush 100, 2) := by decide +kernel
theorem dX2_waterAt_3 : decode cX2_waterAt 3 = .ok (.if_icmp .ge 9, 3) := by decide +kernel
theorem dX2_waterAt_6 : decode cX2_waterAt 6 = .ok (.aload_n 0, 1) := by decide +kernel
theorem dX2_waterAt_7 : decode cX2_waterAt 7 = .ok (.iload_n 1, 1) := by decide +kernel
theorem dX2_waterAt_8 : decode cX2_waterAt 8 = .ok (.invokevirtual 64, 3) := by decide +kernel
theorem dX2_waterAt_11 : decode cX2_waterAt 11 = .ok (.areturn, 1) := by decide +kernel
theorem dX2_waterAt_12 : decode cX2_waterAt 12 = .ok (.aload_n 0, 1) := by decide +kernel
theorem dX2_waterAt_13 : decode cX2_waterAt 13 = .ok (.iload_n 1, 1) := by decide +kernel
theorem dX2_waterAt_14 : decode cX2_waterAt 14 = .ok (.bipush 100, 2) := by decide +kernel
theorem dX2_waterAt_16 : decode cX2_waterAt 16 = .ok (.isub, 1) := by decide +kernel
theorem dX2_waterAt_17 : decode cX2_waterAt 17 = .ok (.invokevirtual 52, 3) := by decide +kernel
theorem dX2_waterAt_20 : decode cX2_waterAt 20 = .ok (.astore_n 2, 1) := by decide +kernel
theorem dX2_waterAt_21 : decode cX2_waterAt 21 = .ok (.aload_n 2, 1) := by decide +kernel
theorem dX2_waterAt_22 : decode cX2_waterAt 22 = .ok (.ifnonnull 7, 3) := by decide +kernel
theorem dX2_waterAt_25 : decode cX2_waterAt 25 = .ok (.aconst_null, 1) := by decide +kernel
theorem dX2_waterAt_26 : decode cX2_waterAt 26 = .ok (.goto 7, 3) := by decide +kernel
theorem dX2_waterAt_29 : decode cX2_waterAt 29 = .ok (.aload_n 2, 1) := by decide +kernel
theorem dX2_waterAt_30 : decode cX2_waterAt 30 = .ok (.getfield 68, 3) := by decide +kernel
theorem dX2_waterAt_33 : decode cX2_waterAt 33 = .ok (.areturn, 1) := by decide +kernel
theorem dX2_appendReach_0 : decode cX2_appendReach 0 = .ok (.aload_n 0, 1) := by decide +kernel
theorem dX2_appendReach_1 : decode cX2_appendReach 1 = .ok (.dup, 1) := by decide +kernel
theorem dX2_appendReach_2 : decode cX2_appendReach 2 = .ok (.getfield 32, 3) := by decide +kernel
theorem dX2_appendReach_5 : decode cX2_appendReach 5 = .ok (.iconst 1, 1) := by decide +kernel
theorem dX2_appendReach_6 : decode cX2_appendReach 6 = .ok (.iadd, 1) := by decide +kernel
theorem dX2_appendReach_7 : decode cX2_appendReach 7 = .ok (.putfield 32, 3) := by decide +kernel
theorem dX2_appendReach_10 : decode cX2_appendReach 10 = .ok (.aload_n 0, 1) := by decide +kernel
theorem dX2_appendReach_11 : decode cX2_appendReach 11 = .ok (.aload_n 0, 1) := by decide +kernel
theorem dX2_appendReach_12 : decode cX2_appendReach 12 = .ok (.getfield 32, 3) := by decide +kernel
theorem dX2_appendReach_15 : decode cX2_appendReach 15 = .ok (.iconst 1, 1) := by decide +kernel
theorem dX2_appendReach_16 : decode cX2_appendReach 16 = .ok (.isub, 1) := by decide +kernel
theorem dX2_appendReach_17 : decode cX2_appendReach 17 = .ok (.invokevirtual 64, 3) := by decide +kernel
theorem dX2_appendReach_20 : decode cX2_appendReach 20 = .ok (.astore 4, 2) := by decide +kernel
theorem dX2_appendReach_22 : decode cX2_appendReach 22 = .ok (.aload 4, 2) := by decide +kernel
theorem dX2_appendReach_24 : decode cX2_appendReach 24 = .ok (.ifnull 22, 3) := by decide +kernel
theorem dX2_appendReach_27 : decode cX2_appendReach 27 = .ok (.aload 4, 2) := by decide +kernel
theorem dX2_appendReach_29 : decode cX2_appendReach 29 = .ok (.iload_n 1, 1) := by decide +kernel
theorem dX2_appendReach_30 : decode cX2_appendReach 30 = .ok (.iload_n 2, 1) := by decide +kernel
theorem dX2_appendReach_31 : decode cX2_appendReach 31 = .ok (.iload_n 3, 1) := by decide +kernel
theorem dX2_appendReach_32 : decode cX2_appendReach 32 = .ok (.invokevirtual 72, 3) := by decide +kernel
theorem dX2_appendReach_35 : decode cX2_appendReach 35 = .ok (.aload_n 0, 1) := by decide +kernel
theorem dX2_appendReach_36 : decode cX2_appendReach 36 = .ok (.dup, 1) := by decide +kernel
theorem dX2_appendReach_37 : decode cX2_appendReach 37 = .ok (.getfield 49, 3) := by decide +kernel
theorem dX2_appendReach_40 : decode cX2_appendReach 40 = .ok (.iload_n 3, 1) := by decide +kernel
theorem dX2_appendReach_41 : decode cX2_appendReach 41 = .ok (.i2l, 1) := by decide +kernel
theorem dX2_appendReach_42 : decode cX2_appendReach 42 = .ok (.ladd, 1) := by decide +kernel
theorem dX2_appendReach_43 : decode cX2_appendReach 43 = .ok (.putfield 49, 3) := by decide +kernel
theorem dX2_appendReach_46 : decode cX2_appendReach 46 = .ok (.return_, 1) := by decide +kernel
theorem dX2_appendChamber_0 : decode cX2_appendChamber 0 = .ok (.aload_n 0, 1) := by decide +kernel
theorem dX2_appendChamber_1 : decode cX2_appendChamber 1 = .ok (.dup, 1) := by decide +kernel
theorem dX2_appendChamber_2 : decode cX2_appendChamber 2 = .ok (.getfield 36, 3) := by decide +kernel
theorem dX2_appendChamber_5 : decode cX2_appendChamber 5 = .ok (.iconst 1, 1) := by decide +kernel
theorem dX2_appendChamber_6 : decode cX2_appendChamber 6 = .ok (.iadd, 1) := by decide +kernel
theorem dX2_appendChamber_7 : decode cX2_appendChamber 7 = .ok (.putfield 36, 3) := by decide +kernel
theorem dX2_appendChamber_10 : decode cX2_appendChamber 10 = .ok (.aload_n 0, 1) := by decide +kernel
theorem dX2_appendChamber_11 : decode cX2_appendChamber 11 = .ok (.aload_n 0, 1) := by decide +kernel
theorem dX2_appendChamber_12 : decode cX2_appendChamber 12 = .ok (.getfield 36, 3) := by decide +kernel
theorem dX2_appendChamber_15 : decode cX2_appendChamber 15 = .ok (.iconst 1, 1) := by decide +kernel
theorem dX2_appendChamber_16 : decode cX2_appendChamber 16 = .ok (.isub, 1) := by decide +kernel
theorem dX2_appendChamber_17 : decode cX2_appendChamber 17 = .ok (.invokevirtual 52, 3) := by decide +kernel
theorem dX2_appendChamber_20 : decode cX2_appendChamber 20 = .ok (.astore 4, 2) := by decide +kernel
theorem dX2_appendChamber_22 : decode cX2_appendChamber 22 = .ok (.aload 4, 2) := by decide +kernel
theorem dX2_appendChamber_24 : decode cX2_appendChamber 24 = .ok (.ifnull 11, 3) := by decide +kernel
theorem dX2_appendChamber_27 : decode cX2_appendChamber 27 = .ok (.aload 4, 2) := by decide +kernel
theorem dX2_appendChamber_29 : decode cX2_appendChamber 29 = .ok (.iload_n 1, 1) := by decide +kernel
theorem dX2_appendChamber_30 : decode cX2_appendChamber 30 = .ok (.iload_n 2, 1) := by decide +kernel
theorem dX2_appendChamber_31 : decode cX2_appendChamber 31 = .ok (.iload_n 3, 1) := by decide +kernel
theorem dX2_appendChamber_32 : decode cX2_appendChamber 32 = .ok (.invokevirtual 76, 3) := by decide +kernel
theorem dX2_appendChamber_35 : decode cX2_appendChamber 35 = .ok (.return_, 1) := by decide +kernel
theorem dX2_appendBarge_0 : decode cX2_appendBarge 0 = .ok (.aload_n 0, 1) := by decide +kernel
theorem dX2_appendBarge_1 : decode cX2_appendBarge 1 = .ok (.dup, 1) := by decide +kernel
theorem dX2_appendBarge_2 : decode cX2_appendBarge 2 = .ok (.getfield 39, 3) := by decide +kernel
theorem dX2_appendBarge_5 : decode cX2_appendBarge 5 = .ok (.iconst 1, 1) := by decide +kernel
theorem dX2_appendBarge_6 : decode cX2_appendBarge 6 = .ok (.iadd, 1) := by decide +kernel
theorem dX2_appendBarge_7 : decode cX2_appendBarge 7 = .ok (.putfield 39, 3) := by decide +kernel
theorem dX2_appendBarge_10 : decode cX2_appendBarge 10 = .ok (.aload_n 0, 1) := by decide +kernel
theorem dX2_appendBarge_11 : decode cX2_appendBarge 11 = .ok (.aload_n 0, 1) := by decide +kernel
theorem dX2_appendBarge_12 : decode cX2_appendBarge 12 = .ok (.getfield 39, 3) := by decide +kernel
theorem dX2_appendBarge_15 : decode cX2_appendBarge 15 = .ok (.iconst 1, 1) := by decide +kernel
theorem dX2_appendBarge_16 : decode cX2_appendBarge 16 = .ok (.isub, 1) := by decide +kernel
theorem dX2_appendBarge_17 : decode cX2_appendBarge 17 = .ok (.invokevirtual 77, 3) := by decide +kernel
theorem dX2_appendBarge_20 : decode cX2_appendBarge 20 = .ok (.astore 6, 2) := by decide +kernel
theorem dX2_appendBarge_22 : decode cX2_appendBarge 22 = .ok (.aload_n 0, 1) := by decide +kernel
theorem dX2_appendBarge_23 : decode cX2_appendBarge 23 = .ok (.iload_n 1, 1) := by decide +kernel
theorem dX2_appendBarge_24 : decode cX2_appendBarge 24 = .ok (.invokevirtual 81, 3) := by decide +kernel
theorem dX2_appendBarge_27 : decode cX2_appendBarge 27 = .ok (.astore 7, 2) := by decide +kernel
theorem dX2_appendBarge_29 : decode cX2_appendBarge 29 = .ok (.aload 6, 2) := by decide +kernel
theorem dX2_appendBarge_31 : decode cX2_appendBarge 31 = .ok (.ifnull 26, 3) := by decide +kernel
theorem dX2_appendBarge_34 : decode cX2_appendBarge 34 = .ok (.aload 7, 2) := by decide +kernel
theorem dX2_appendBarge_36 : decode cX2_appendBarge 36 = .ok (.ifnull 21, 3) := by decide +kernel
theorem dX2_appendBarge_39 : decode cX2_appendBarge 39 = .ok (.aload 6, 2) := by decide +kernel
theorem dX2_appendBarge_41 : decode cX2_appendBarge 41 = .ok (.iload_n 1, 1) := by decide +kernel
theorem dX2_appendBarge_42 : decode cX2_appendBarge 42 = .ok (.iload_n 2, 1) := by decide +kernel
theorem dX2_appendBarge_43 : decode cX2_appendBarge 43 = .ok (.iload_n 3, 1) := by decide +kernel
theorem dX2_appendBarge_44 : decode cX2_appendBarge 44 = .ok (.iload 4, 2) := by decide +kernel
theorem dX2_appendBarge_46 : decode cX2_appendBarge 46 = .ok (.iload 5, 2) := by decide +kernel
theorem dX2_appendBarge_48 : decode cX2_appendBarge 48 = .ok (.invokevirtual 84, 3) := by decide +kernel
theorem dX2_appendBarge_51 : decode cX2_appendBarge 51 = .ok (.aload 7, 2) := by decide +kernel
theorem dX2_appendBarge_53 : decode cX2_appendBarge 53 = .ok (.iload_n 3, 1) := by decide +kernel
theorem dX2_appendBarge_54 : decode cX2_appendBarge 54 = .ok (.invokevirtual 87, 3) := by decide +kernel
theorem dX2_appendBarge_57 : decode cX2_appendBarge 57 = .ok (.return_, 1) := by decide +kernel
theorem dX2_isAground_0 : decode cX2_isAground 0 = .ok (.aload_n 0, 1) := by decide +kernel
theorem dX2_isAground_1 : decode cX2_isAground 1 = .ok (.aload_n 1, 1) := by decide +kernel
theorem dX2_isAground_2 : decode cX2_isAground 2 = .ok (.getfield 91, 3) := by decide +kernel
theorem dX2_isAground_5 : decode cX2_isAground 5 = .ok (.invokevirtual 81, 3) := by decide +kernel
theorem dX2_isAground_8 : decode cX2_isAground 8 = .ok (.astore_n 2, 1) := by decide +kernel
theorem dX2_isAground_9 : decode cX2_isAground 9 = .ok (.aload_n 2, 1) := by decide +kernel
theorem dX2_isAground_10 : decode cX2_isAground 10 = .ok (.ifnull 20, 3) := by decide +kernel
theorem dX2_isAground_13 : decode cX2_isAground 13 = .ok (.aload_n 2, 1) := by decide +kernel
theorem dX2_isAground_14 : decode cX2_isAground 14 = .ok (.invokevirtual 94, 3) := by decide +kernel
theorem dX2_isAground_17 : decode cX2_isAground 17 = .ok (.aload_n 1, 1) := by decide +kernel
theorem dX2_isAground_18 : decode cX2_isAground 18 = .ok (.invokevirtual 98, 3) := by decide +kernel
theorem dX2_isAground_21 : decode cX2_isAground 21 = .ok (.i2l, 1) := by decide +kernel
theorem dX2_isAground_22 : decode cX2_isAground 22 = .ok (.lcmp, 1) := by decide +kernel
theorem dX2_isAground_23 : decode cX2_isAground 23 = .ok (.ifCond .ge 7, 3) := by decide +kernel
theorem dX2_isAground_26 : decode cX2_isAground 26 = .ok (.iconst 1, 1) := by decide +kernel
theorem dX2_isAground_27 : decode cX2_isAground 27 = .ok (.goto 4, 3) := by decide +kernel
theorem dX2_isAground_30 : decode cX2_isAground 30 = .ok (.iconst 0, 1) := by decide +kernel
theorem dX2_isAground_31 : decode cX2_isAground 31 = .ok (.ireturn, 1) := by decide +kernel
theorem dX2_mostDraught_0 : decode cX2_mostDraught 0 = .ok (.aload_n 1, 1) := by decide +kernel
theorem dX2_mostDraught_1 : decode cX2_mostDraught 1 = .ok (.getfield 68, 3) := by decide +kernel
theorem dX2_mostDraught_4 : decode cX2_mostDraught 4 = .ok (.invokevirtual 102, 3) := by decide +kernel
theorem dX2_mostDraught_7 : decode cX2_mostDraught 7 = .ok (.aload_n 2, 1) := by decide +kernel
theorem dX2_mostDraught_8 : decode cX2_mostDraught 8 = .ok (.invokevirtual 105, 3) := by decide +kernel
theorem dX2_mostDraught_11 : decode cX2_mostDraught 11 = .ok (.i2l, 1) := by decide +kernel
theorem dX2_mostDraught_12 : decode cX2_mostDraught 12 = .ok (.lsub, 1) := by decide +kernel
theorem dX2_mostDraught_13 : decode cX2_mostDraught 13 = .ok (.aload_n 0, 1) := by decide +kernel
theorem dX2_mostDraught_14 : decode cX2_mostDraught 14 = .ok (.getfield 42, 3) := by decide +kernel
theorem dX2_mostDraught_17 : decode cX2_mostDraught 17 = .ok (.i2l, 1) := by decide +kernel
theorem dX2_mostDraught_18 : decode cX2_mostDraught 18 = .ok (.lsub, 1) := by decide +kernel
theorem dX2_mostDraught_19 : decode cX2_mostDraught 19 = .ok (.lreturn, 1) := by decide +kernel
theorem dX2_move_0 : decode cX2_move 0 = .ok (.aload_n 0, 1) := by decide +kernel
theorem dX2_move_1 : decode cX2_move 1 = .ok (.aload_n 1, 1) := by decide +kernel
theorem dX2_move_2 : decode cX2_move 2 = .ok (.getfield 91, 3) := by decide +kernel
theorem dX2_move_5 : decode cX2_move 5 = .ok (.invokevirtual 81, 3) := by decide +kernel
theorem dX2_move_8 : decode cX2_move 8 = .ok (.astore_n 3, 1) := by decide +kernel
theorem dX2_move_9 : decode cX2_move 9 = .ok (.aload_n 0, 1) := by decide +kernel
theorem dX2_move_10 : decode cX2_move 10 = .ok (.iload_n 2, 1) := by decide +kernel
theorem dX2_move_11 : decode cX2_move 11 = .ok (.invokevirtual 81, 3) := by decide +kernel
theorem dX2_move_14 : decode cX2_move 14 = .ok (.astore 4, 2) := by decide +kernel
theorem dX2_move_16 : decode cX2_move 16 = .ok (.aload_n 3, 1) := by decide +kernel
theorem dX2_move_17 : decode cX2_move 17 = .ok (.ifnull 8, 3) := by decide +kernel
theorem dX2_move_20 : decode cX2_move 20 = .ok (.aload 4, 2) := by decide +kernel
theorem dX2_move_22 : decode cX2_move 22 = .ok (.ifnonnull 4, 3) := by decide +kernel
theorem dX2_move_25 : decode cX2_move 25 = .ok (.return_, 1) := by decide +kernel
theorem dX2_move_26 : decode cX2_move 26 = .ok (.aload_n 3, 1) := by decide +kernel
theorem dX2_move_27 : decode cX2_move 27 = .ok (.aload_n 1, 1) := by decide +kernel
theorem dX2_move_28 : decode cX2_move 28 = .ok (.invokevirtual 110, 3) := by decide +kernel
theorem dX2_move_31 : decode cX2_move 31 = .ok (.invokevirtual 113, 3) := by decide +kernel
theorem dX2_move_34 : decode cX2_move 34 = .ok (.aload 4, 2) := by decide +kernel
theorem dX2_move_36 : decode cX2_move 36 = .ok (.aload_n 1, 1) := by decide +kernel
theorem dX2_move_37 : decode cX2_move 37 = .ok (.invokevirtual 110, 3) := by decide +kernel
theorem dX2_move_40 : decode cX2_move 40 = .ok (.invokevirtual 87, 3) := by decide +kernel
theorem dX2_move_43 : decode cX2_move 43 = .ok (.aload_n 1, 1) := by decide +kernel
theorem dX2_move_44 : decode cX2_move 44 = .ok (.iload_n 2, 1) := by decide +kernel
theorem dX2_move_45 : decode cX2_move 45 = .ok (.putfield 91, 3) := by decide +kernel
theorem dX2_move_48 : decode cX2_move 48 = .ok (.aload_n 1, 1) := by decide +kernel
theorem dX2_move_49 : decode cX2_move 49 = .ok (.dup, 1) := by decide +kernel
theorem dX2_move_50 : decode cX2_move 50 = .ok (.getfield 116, 3) := by decide +kernel
theorem dX2_move_53 : decode cX2_move 53 = .ok (.iconst 1, 1) := by decide +kernel
theorem dX2_move_54 : decode cX2_move 54 = .ok (.iadd, 1) := by decide +kernel
theorem dX2_move_55 : decode cX2_move 55 = .ok (.putfield 116, 3) := by decide +kernel
theorem dX2_move_58 : decode cX2_move 58 = .ok (.return_, 1) := by decide +kernel
theorem dX2_settle_0 : decode cX2_settle 0 = .ok (.iconst 0, 1) := by decide +kernel
theorem dX2_settle_1 : decode cX2_settle 1 = .ok (.istore_n 1, 1) := by decide +kernel
theorem dX2_settle_2 : decode cX2_settle 2 = .ok (.iload_n 1, 1) := by decide +kernel
theorem dX2_settle_3 : decode cX2_settle 3 = .ok (.aload_n 0, 1) := by decide +kernel
theorem dX2_settle_4 : decode cX2_settle 4 = .ok (.getfield 36, 3) := by decide +kernel
theorem dX2_settle_7 : decode cX2_settle 7 = .ok (.if_icmp .ge 41, 3) := by decide +kernel
theorem dX2_settle_10 : decode cX2_settle 10 = .ok (.aload_n 0, 1) := by decide +kernel
theorem dX2_settle_11 : decode cX2_settle 11 = .ok (.iload_n 1, 1) := by decide +kernel
theorem dX2_settle_12 : decode cX2_settle 12 = .ok (.invokevirtual 52, 3) := by decide +kernel
theorem dX2_settle_15 : decode cX2_settle 15 = .ok (.astore_n 2, 1) := by decide +kernel
theorem dX2_settle_16 : decode cX2_settle 16 = .ok (.aload_n 2, 1) := by decide +kernel
theorem dX2_settle_17 : decode cX2_settle 17 = .ok (.ifnull 25, 3) := by decide +kernel
theorem dX2_settle_20 : decode cX2_settle 20 = .ok (.aload_n 0, 1) := by decide +kernel
theorem dX2_settle_21 : decode cX2_settle 21 = .ok (.iload_n 1, 1) := by decide +kernel
theorem dX2_settle_22 : decode cX2_settle 22 = .ok (.aload_n 2, 1) := by decide +kernel
theorem dX2_settle_23 : decode cX2_settle 23 = .ok (.getfield 119, 3) := by decide +kernel
theorem dX2_settle_26 : decode cX2_settle 26 = .ok (.invokevirtual 122, 3) := by decide +kernel
theorem dX2_settle_29 : decode cX2_settle 29 = .ok (.astore_n 3, 1) := by decide +kernel
theorem dX2_settle_30 : decode cX2_settle 30 = .ok (.aload_n 3, 1) := by decide +kernel
theorem dX2_settle_31 : decode cX2_settle 31 = .ok (.ifnull 11, 3) := by decide +kernel
theorem dX2_settle_34 : decode cX2_settle 34 = .ok (.aload_n 2, 1) := by decide +kernel
theorem dX2_settle_35 : decode cX2_settle 35 = .ok (.getfield 68, 3) := by decide +kernel
theorem dX2_settle_38 : decode cX2_settle 38 = .ok (.aload_n 3, 1) := by decide +kernel
theorem dX2_settle_39 : decode cX2_settle 39 = .ok (.invokevirtual 126, 3) := by decide +kernel
theorem dX2_settle_42 : decode cX2_settle 42 = .ok (.iinc 1 1, 3) := by decide +kernel
theorem dX2_settle_45 : decode cX2_settle 45 = .ok (.goto (-43), 3) := by decide +kernel
theorem dX2_settle_48 : decode cX2_settle 48 = .ok (.return_, 1) := by decide +kernel
theorem dX2_propertyOf_0 : decode cX2_propertyOf 0 = .ok (.iload_n 2, 1) := by decide +kernel
theorem dX2_propertyOf_1 : decode cX2_propertyOf 1 = .ok (.tableswitch 105 0 8 #[51, 56, 61, 66, 71, 76, 81, 95, 100], 51) := by decide +kernel
theorem dX2_propertyOf_52 : decode cX2_propertyOf 52 = .ok (.aload_n 1, 1) := by decide +kernel
theorem dX2_propertyOf_53 : decode cX2_propertyOf 53 = .ok (.getfield 130, 3) := by decide +kernel
theorem dX2_propertyOf_56 : decode cX2_propertyOf 56 = .ok (.ireturn, 1) := by decide +kernel
theorem dX2_propertyOf_57 : decode cX2_propertyOf 57 = .ok (.aload_n 1, 1) := by decide +kernel
theorem dX2_propertyOf_58 : decode cX2_propertyOf 58 = .ok (.invokevirtual 110, 3) := by decide +kernel
theorem dX2_propertyOf_61 : decode cX2_propertyOf 61 = .ok (.ireturn, 1) := by decide +kernel
theorem dX2_propertyOf_62 : decode cX2_propertyOf 62 = .ok (.aload_n 1, 1) := by decide +kernel
theorem dX2_propertyOf_63 : decode cX2_propertyOf 63 = .ok (.invokevirtual 98, 3) := by decide +kernel
theorem dX2_propertyOf_66 : decode cX2_propertyOf 66 = .ok (.ireturn, 1) := by decide +kernel
theorem dX2_propertyOf_67 : decode cX2_propertyOf 67 = .ok (.aload_n 1, 1) := by decide +kernel
theorem dX2_propertyOf_68 : decode cX2_propertyOf 68 = .ok (.getfield 133, 3) := by decide +kernel
theorem dX2_propertyOf_71 : decode cX2_propertyOf 71 = .ok (.ireturn, 1) := by decide +kernel
theorem dX2_propertyOf_72 : decode cX2_propertyOf 72 = .ok (.aload_n 1, 1) := by decide +kernel
theorem dX2_propertyOf_73 : decode cX2_propertyOf 73 = .ok (.getfield 136, 3) := by decide +kernel
theorem dX2_propertyOf_76 : decode cX2_propertyOf 76 = .ok (.ireturn, 1) := by decide +kernel
theorem dX2_propertyOf_77 : decode cX2_propertyOf 77 = .ok (.aload_n 1, 1) := by decide +kernel
theorem dX2_propertyOf_78 : decode cX2_propertyOf 78 = .ok (.invokevirtual 139, 3) := by decide +kernel
theorem dX2_propertyOf_81 : decode cX2_propertyOf 81 = .ok (.ireturn, 1) := by decide +kernel
theorem dX2_propertyOf_82 : decode cX2_propertyOf 82 = .ok (.aload_n 0, 1) := by decide +kernel
theorem dX2_propertyOf_83 : decode cX2_propertyOf 83 = .ok (.aload_n 1, 1) := by decide +kernel
theorem dX2_propertyOf_84 : decode cX2_propertyOf 84 = .ok (.invokevirtual 142, 3) := by decide +kernel
theorem dX2_propertyOf_87 : decode cX2_propertyOf 87 = .ok (.ifCond .eq 7, 3) := by decide +kernel
theorem dX2_propertyOf_90 : decode cX2_propertyOf 90 = .ok (.iconst 1, 1) := by decide +kernel
theorem dX2_propertyOf_91 : decode cX2_propertyOf 91 = .ok (.goto 4, 3) := by decide +kernel
theorem dX2_propertyOf_94 : decode cX2_propertyOf 94 = .ok (.iconst 0, 1) := by decide +kernel
theorem dX2_propertyOf_95 : decode cX2_propertyOf 95 = .ok (.ireturn, 1) := by decide +kernel
theorem dX2_propertyOf_96 : decode cX2_propertyOf 96 = .ok (.aload_n 1, 1) := by decide +kernel
theorem dX2_propertyOf_97 : decode cX2_propertyOf 97 = .ok (.getfield 91, 3) := by decide +kernel
theorem dX2_propertyOf_100 : decode cX2_propertyOf 100 = .ok (.ireturn, 1) := by decide +kernel
theorem dX2_propertyOf_101 : decode cX2_propertyOf 101 = .ok (.aload_n 1, 1) := by decide +kernel
theorem dX2_propertyOf_102 : decode cX2_propertyOf 102 = .ok (.getfield 116, 3) := by decide +kernel
theorem dX2_propertyOf_105 : decode cX2_propertyOf 105 = .ok (.ireturn, 1) := by decide +kernel
theorem dX2_propertyOf_106 : decode cX2_propertyOf 106 = .ok (.ldc 146, 2) := by decide +kernel
theorem dX2_propertyOf_108 : decode cX2_propertyOf 108 = .ok (.ireturn, 1) := by decide +kernel
theorem dX2_sumOfBarges_0 : decode cX2_sumOfBarges 0 = .ok (.lconst 0, 1) := by decide +kernel
theorem dX2_sumOfBarges_1 : decode cX2_sumOfBarges 1 = .ok (.lstore_n 2, 1) := by decide +kernel
theorem dX2_sumOfBarges_2 : decode cX2_sumOfBarges 2 = .ok (.iconst 0, 1) := by decide +kernel
theorem dX2_sumOfBarges_3 : decode cX2_sumOfBarges 3 = .ok (.istore 4, 2) := by decide +kernel
theorem dX2_sumOfBarges_5 : decode cX2_sumOfBarges 5 = .ok (.iload 4, 2) := by decide +kernel
theorem dX2_sumOfBarges_7 : decode cX2_sumOfBarges 7 = .ok (.aload_n 0, 1) := by decide +kernel
theorem dX2_sumOfBarges_8 : decode cX2_sumOfBarges 8 = .ok (.getfield 39, 3) := by decide +kernel
theorem dX2_sumOfBarges_11 : decode cX2_sumOfBarges 11 = .ok (.if_icmp .ge 33, 3) := by decide +kernel
theorem dX2_sumOfBarges_14 : decode cX2_sumOfBarges 14 = .ok (.aload_n 0, 1) := by decide +kernel
theorem dX2_sumOfBarges_15 : decode cX2_sumOfBarges 15 = .ok (.iload 4, 2) := by decide +kernel
theorem dX2_sumOfBarges_17 : decode cX2_sumOfBarges 17 = .ok (.invokevirtual 77, 3) := by decide +kernel
theorem dX2_sumOfBarges_20 : decode cX2_sumOfBarges 20 = .ok (.astore 5, 2) := by decide +kernel
theorem dX2_sumOfBarges_22 : decode cX2_sumOfBarges 22 = .ok (.aload 5, 2) := by decide +kernel
theorem dX2_sumOfBarges_24 : decode cX2_sumOfBarges 24 = .ok (.ifnull 14, 3) := by decide +kernel
theorem dX2_sumOfBarges_27 : decode cX2_sumOfBarges 27 = .ok (.lload_n 2, 1) := by decide +kernel
theorem dX2_sumOfBarges_28 : decode cX2_sumOfBarges 28 = .ok (.aload_n 0, 1) := by decide +kernel
theorem dX2_sumOfBarges_29 : decode cX2_sumOfBarges 29 = .ok (.aload 5, 2) := by decide +kernel
theorem dX2_sumOfBarges_31 : decode cX2_sumOfBarges 31 = .ok (.iload_n 1, 1) := by decide +kernel
theorem dX2_sumOfBarges_32 : decode cX2_sumOfBarges 32 = .ok (.invokevirtual 147, 3) := by decide +kernel
theorem dX2_sumOfBarges_35 : decode cX2_sumOfBarges 35 = .ok (.i2l, 1) := by decide +kernel
theorem dX2_sumOfBarges_36 : decode cX2_sumOfBarges 36 = .ok (.ladd, 1) := by decide +kernel
theorem dX2_sumOfBarges_37 : decode cX2_sumOfBarges 37 = .ok (.lstore_n 2, 1) := by decide +kernel
theorem dX2_sumOfBarges_38 : decode cX2_sumOfBarges 38 = .ok (.iinc 4 1, 3) := by decide +kernel
theorem dX2_sumOfBarges_41 : decode cX2_sumOfBarges 41 = .ok (.goto (-36), 3) := by decide +kernel
theorem dX2_sumOfBarges_44 : decode cX2_sumOfBarges 44 = .ok (.lload_n 2, 1) := by decide +kernel
theorem dX2_sumOfBarges_45 : decode cX2_sumOfBarges 45 = .ok (.lreturn, 1) := by decide +kernel
theorem dX2_allWater_0 : decode cX2_allWater 0 = .ok (.lconst 0, 1) := by decide +kernel
theorem dX2_allWater_1 : decode cX2_allWater 1 = .ok (.lstore_n 1, 1) := by decide +kernel
theorem dX2_allWater_2 : decode cX2_allWater 2 = .ok (.iconst 0, 1) := by decide +kernel
theorem dX2_allWater_3 : decode cX2_allWater 3 = .ok (.istore_n 3, 1) := by decide +kernel
theorem dX2_allWater_4 : decode cX2_allWater 4 = .ok (.iload_n 3, 1) := by decide +kernel
theorem dX2_allWater_5 : decode cX2_allWater 5 = .ok (.aload_n 0, 1) := by decide +kernel
theorem dX2_allWater_6 : decode cX2_allWater 6 = .ok (.getfield 32, 3) := by decide +kernel
theorem dX2_allWater_9 : decode cX2_allWater 9 = .ok (.if_icmp .ge 60, 3) := by decide +kernel
theorem dX2_allWater_12 : decode cX2_allWater 12 = .ok (.aload_n 0, 1) := by decide +kernel
theorem dX2_allWater_13 : decode cX2_allWater 13 = .ok (.iload_n 3, 1) := by decide +kernel
theorem dX2_allWater_14 : decode cX2_allWater 14 = .ok (.invokevirtual 64, 3) := by decide +kernel
theorem dX2_allWater_17 : decode cX2_allWater 17 = .ok (.astore 4, 2) := by decide +kernel
theorem dX2_allWater_19 : decode cX2_allWater 19 = .ok (.aload_n 0, 1) := by decide +kernel
theorem dX2_allWater_20 : decode cX2_allWater 20 = .ok (.iload_n 3, 1) := by decide +kernel
theorem dX2_allWater_21 : decode cX2_allWater 21 = .ok (.invokevirtual 52, 3) := by decide +kernel
theorem dX2_allWater_24 : decode cX2_allWater 24 = .ok (.astore 5, 2) := by decide +kernel
theorem dX2_allWater_26 : decode cX2_allWater 26 = .ok (.lload_n 1, 1) := by decide +kernel
theorem dX2_allWater_27 : decode cX2_allWater 27 = .ok (.aload 4, 2) := by decide +kernel
theorem dX2_allWater_29 : decode cX2_allWater 29 = .ok (.ifnonnull 7, 3) := by decide +kernel
theorem dX2_allWater_32 : decode cX2_allWater 32 = .ok (.lconst 0, 1) := by decide +kernel
theorem dX2_allWater_33 : decode cX2_allWater 33 = .ok (.goto 8, 3) := by decide +kernel
theorem dX2_allWater_36 : decode cX2_allWater 36 = .ok (.aload 4, 2) := by decide +kernel
theorem dX2_allWater_38 : decode cX2_allWater 38 = .ok (.getfield 151, 3) := by decide +kernel
theorem dX2_allWater_41 : decode cX2_allWater 41 = .ok (.ladd, 1) := by decide +kernel
theorem dX2_allWater_42 : decode cX2_allWater 42 = .ok (.lstore_n 1, 1) := by decide +kernel
theorem dX2_allWater_43 : decode cX2_allWater 43 = .ok (.lload_n 1, 1) := by decide +kernel
theorem dX2_allWater_44 : decode cX2_allWater 44 = .ok (.aload 5, 2) := by decide +kernel
theorem dX2_allWater_46 : decode cX2_allWater 46 = .ok (.ifnonnull 7, 3) := by decide +kernel
theorem dX2_allWater_49 : decode cX2_allWater 49 = .ok (.lconst 0, 1) := by decide +kernel
theorem dX2_allWater_50 : decode cX2_allWater 50 = .ok (.goto 11, 3) := by decide +kernel
theorem dX2_allWater_53 : decode cX2_allWater 53 = .ok (.aload 5, 2) := by decide +kernel
theorem dX2_allWater_55 : decode cX2_allWater 55 = .ok (.getfield 68, 3) := by decide +kernel
theorem dX2_allWater_58 : decode cX2_allWater 58 = .ok (.getfield 151, 3) := by decide +kernel
theorem dX2_allWater_61 : decode cX2_allWater 61 = .ok (.ladd, 1) := by decide +kernel
theorem dX2_allWater_62 : decode cX2_allWater 62 = .ok (.lstore_n 1, 1) := by decide +kernel
theorem dX2_allWater_63 : decode cX2_allWater 63 = .ok (.iinc 3 1, 3) := by decide +kernel
theorem dX2_allWater_66 : decode cX2_allWater 66 = .ok (.goto (-62), 3) := by decide +kernel
theorem dX2_allWater_69 : decode cX2_allWater 69 = .ok (.lload_n 1, 1) := by decide +kernel
theorem dX2_allWater_70 : decode cX2_allWater 70 = .ok (.lreturn, 1) := by decide +kernel
theorem dX2_openGates_0 : decode cX2_openGates 0 = .ok (.iconst 0, 1) := by decide +kernel
theorem dX2_openGates_1 : decode cX2_openGates 1 = .ok (.istore_n 1, 1) := by decide +kernel
theorem dX2_openGates_2 : decode cX2_openGates 2 = .ok (.iconst 0, 1) := by decide +kernel
theorem dX2_openGates_3 : decode cX2_openGates 3 = .ok (.istore_n 2, 1) := by decide +kernel
theorem dX2_openGates_4 : decode cX2_openGates 4 = .ok (.iload_n 2, 1) := by decide +kernel
theorem dX2_openGates_5 : decode cX2_openGates 5 = .ok (.aload_n 0, 1) := by decide +kernel
theorem dX2_openGates_6 : decode cX2_openGates 6 = .ok (.getfield 36, 3) := by decide +kernel
theorem dX2_openGates_9 : decode cX2_openGates 9 = .ok (.if_icmp .ge 30, 3) := by decide +kernel
theorem dX2_openGates_12 : decode cX2_openGates 12 = .ok (.aload_n 0, 1) := by decide +kernel
theorem dX2_openGates_13 : decode cX2_openGates 13 = .ok (.iload_n 2, 1) := by decide +kernel
theorem dX2_openGates_14 : decode cX2_openGates 14 = .ok (.invokevirtual 52, 3) := by decide +kernel
theorem dX2_openGates_17 : decode cX2_openGates 17 = .ok (.astore_n 3, 1) := by decide +kernel
theorem dX2_openGates_18 : decode cX2_openGates 18 = .ok (.aload_n 3, 1) := by decide +kernel
theorem dX2_openGates_19 : decode cX2_openGates 19 = .ok (.ifnull 14, 3) := by decide +kernel
theorem dX2_openGates_22 : decode cX2_openGates 22 = .ok (.aload_n 3, 1) := by decide +kernel
theorem dX2_openGates_23 : decode cX2_openGates 23 = .ok (.getfield 119, 3) := by decide +kernel
theorem dX2_openGates_26 : decode cX2_openGates 26 = .ok (.iconst (-1), 1) := by decide +kernel
theorem dX2_openGates_27 : decode cX2_openGates 27 = .ok (.if_icmp .eq 6, 3) := by decide +kernel
theorem dX2_openGates_30 : decode cX2_openGates 30 = .ok (.iinc 1 1, 3) := by decide +kernel
theorem dX2_openGates_33 : decode cX2_openGates 33 = .ok (.iinc 2 1, 3) := by decide +kernel
theorem dX2_openGates_36 : decode cX2_openGates 36 = .ok (.goto (-32), 3) := by decide +kernel
theorem dX2_openGates_39 : decode cX2_openGates 39 = .ok (.iload_n 1, 1) := by decide +kernel
theorem dX2_openGates_40 : decode cX2_openGates 40 = .ok (.ireturn, 1) := by decide +kernel
theorem dX2_bargesInChambers_0 : decode cX2_bargesInChambers 0 = .ok (.iconst 0, 1) := by decide +kernel
theorem dX2_bargesInChambers_1 : decode cX2_bargesInChambers 1 = .ok (.istore_n 1, 1) := by decide +kernel
theorem dX2_bargesInChambers_2 : decode cX2_bargesInChambers 2 = .ok (.iconst 0, 1) := by decide +kernel
theorem dX2_bargesInChambers_3 : decode cX2_bargesInChambers 3 = .ok (.istore_n 2, 1) := by decide +kernel
theorem dX2_bargesInChambers_4 : decode cX2_bargesInChambers 4 = .ok (.iload_n 2, 1) := by decide +kernel
theorem dX2_bargesInChambers_5 : decode cX2_bargesInChambers 5 = .ok (.aload_n 0, 1) := by decide +kernel
theorem dX2_bargesInChambers_6 : decode cX2_bargesInChambers 6 = .ok (.getfield 36, 3) := by decide +kernel
theorem dX2_bargesInChambers_9 : decode cX2_bargesInChambers 9 = .ok (.if_icmp .ge 30, 3) := by decide +kernel
theorem dX2_bargesInChambers_12 : decode cX2_bargesInChambers 12 = .ok (.aload_n 0, 1) := by decide +kernel
theorem dX2_bargesInChambers_13 : decode cX2_bargesInChambers 13 = .ok (.iload_n 2, 1) := by decide +kernel
theorem dX2_bargesInChambers_14 : decode cX2_bargesInChambers 14 = .ok (.invokevirtual 52, 3) := by decide +kernel
theorem dX2_bargesInChambers_17 : decode cX2_bargesInChambers 17 = .ok (.astore_n 3, 1) := by decide +kernel
theorem dX2_bargesInChambers_18 : decode cX2_bargesInChambers 18 = .ok (.iload_n 1, 1) := by decide +kernel
theorem dX2_bargesInChambers_19 : decode cX2_bargesInChambers 19 = .ok (.aload_n 3, 1) := by decide +kernel
theorem dX2_bargesInChambers_20 : decode cX2_bargesInChambers 20 = .ok (.ifnonnull 7, 3) := by decide +kernel
theorem dX2_bargesInChambers_23 : decode cX2_bargesInChambers 23 = .ok (.iconst 0, 1) := by decide +kernel
theorem dX2_bargesInChambers_24 : decode cX2_bargesInChambers 24 = .ok (.goto 7, 3) := by decide +kernel
theorem dX2_bargesInChambers_27 : decode cX2_bargesInChambers 27 = .ok (.aload_n 3, 1) := by decide +kernel
theorem dX2_bargesInChambers_28 : decode cX2_bargesInChambers 28 = .ok (.getfield 154, 3) := by decide +kernel
theorem dX2_bargesInChambers_31 : decode cX2_bargesInChambers 31 = .ok (.iadd, 1) := by decide +kernel
theorem dX2_bargesInChambers_32 : decode cX2_bargesInChambers 32 = .ok (.istore_n 1, 1) := by decide +kernel
theorem dX2_bargesInChambers_33 : decode cX2_bargesInChambers 33 = .ok (.iinc 2 1, 3) := by decide +kernel
theorem dX2_bargesInChambers_36 : decode cX2_bargesInChambers 36 = .ok (.goto (-32), 3) := by decide +kernel
theorem dX2_bargesInChambers_39 : decode cX2_bargesInChambers 39 = .ok (.iload_n 1, 1) := by decide +kernel
theorem dX2_bargesInChambers_40 : decode cX2_bargesInChambers 40 = .ok (.ireturn, 1) := by decide +kernel
theorem dX2_copyTo_0 : decode cX2_copyTo 0 = .ok (.iconst 0, 1) := by decide +kernel
theorem dX2_copyTo_1 : decode cX2_copyTo 1 = .ok (.istore_n 2, 1) := by decide +kernel
theorem dX2_copyTo_2 : decode cX2_copyTo 2 = .ok (.iload_n 2, 1) := by decide +kernel
theorem dX2_copyTo_3 : decode cX2_copyTo 3 = .ok (.aload_n 0, 1) := by decide +kernel
theorem dX2_copyTo_4 : decode cX2_copyTo 4 = .ok (.getfield 11, 3) := by decide +kernel
theorem dX2_copyTo_7 : decode cX2_copyTo 7 = .ok (.arraylength, 1) := by decide +kernel
theorem dX2_copyTo_8 : decode cX2_copyTo 8 = .ok (.if_icmp .ge 51, 3) := by decide +kernel
theorem dX2_copyTo_11 : decode cX2_copyTo 11 = .ok (.iload_n 2, 1) := by decide +kernel
theorem dX2_copyTo_12 : decode cX2_copyTo 12 = .ok (.aload_n 1, 1) := by decide +kernel
theorem dX2_copyTo_13 : decode cX2_copyTo 13 = .ok (.getfield 11, 3) := by decide +kernel
theorem dX2_copyTo_16 : decode cX2_copyTo 16 = .ok (.arraylength, 1) := by decide +kernel
theorem dX2_copyTo_17 : decode cX2_copyTo 17 = .ok (.if_icmp .ge 42, 3) := by decide +kernel
theorem dX2_copyTo_20 : decode cX2_copyTo 20 = .ok (.aload_n 0, 1) := by decide +kernel
theorem dX2_copyTo_21 : decode cX2_copyTo 21 = .ok (.getfield 11, 3) := by decide +kernel
theorem dX2_copyTo_24 : decode cX2_copyTo 24 = .ok (.iload_n 2, 1) := by decide +kernel
theorem dX2_copyTo_25 : decode cX2_copyTo 25 = .ok (.aaload, 1) := by decide +kernel
theorem dX2_copyTo_26 : decode cX2_copyTo 26 = .ok (.ifnull 27, 3) := by decide +kernel
theorem dX2_copyTo_29 : decode cX2_copyTo 29 = .ok (.aload_n 1, 1) := by decide +kernel
theorem dX2_copyTo_30 : decode cX2_copyTo 30 = .ok (.getfield 11, 3) := by decide +kernel
theorem dX2_copyTo_33 : decode cX2_copyTo 33 = .ok (.iload_n 2, 1) := by decide +kernel
theorem dX2_copyTo_34 : decode cX2_copyTo 34 = .ok (.aaload, 1) := by decide +kernel
theorem dX2_copyTo_35 : decode cX2_copyTo 35 = .ok (.ifnull 18, 3) := by decide +kernel
theorem dX2_copyTo_38 : decode cX2_copyTo 38 = .ok (.aload_n 0, 1) := by decide +kernel
theorem dX2_copyTo_39 : decode cX2_copyTo 39 = .ok (.getfield 11, 3) := by decide +kernel
theorem dX2_copyTo_42 : decode cX2_copyTo 42 = .ok (.iload_n 2, 1) := by decide +kernel
theorem dX2_copyTo_43 : decode cX2_copyTo 43 = .ok (.aaload, 1) := by decide +kernel
theorem dX2_copyTo_44 : decode cX2_copyTo 44 = .ok (.aload_n 1, 1) := by decide +kernel
theorem dX2_copyTo_45 : decode cX2_copyTo 45 = .ok (.getfield 11, 3) := by decide +kernel
theorem dX2_copyTo_48 : decode cX2_copyTo 48 = .ok (.iload_n 2, 1) := by decide +kernel
theorem dX2_copyTo_49 : decode cX2_copyTo 49 = .ok (.aaload, 1) := by decide +kernel
theorem dX2_copyTo_50 : decode cX2_copyTo 50 = .ok (.invokevirtual 157, 3) := by decide +kernel
theorem dX2_copyTo_53 : decode cX2_copyTo 53 = .ok (.iinc 2 1, 3) := by decide +kernel
theorem dX2_copyTo_56 : decode cX2_copyTo 56 = .ok (.goto (-54), 3) := by decide +kernel
theorem dX2_copyTo_59 : decode cX2_copyTo 59 = .ok (.iconst 0, 1) := by decide +kernel
theorem dX2_copyTo_60 : decode cX2_copyTo 60 = .ok (.istore_n 2, 1) := by decide +kernel
theorem dX2_copyTo_61 : decode cX2_copyTo 61 = .ok (.iload_n 2, 1) := by decide +kernel
theorem dX2_copyTo_62 : decode cX2_copyTo 62 = .ok (.aload_n 0, 1) := by decide +kernel
theorem dX2_copyTo_63 : decode cX2_copyTo 63 = .ok (.getfield 19, 3) := by decide +kernel
theorem dX2_copyTo_66 : decode cX2_copyTo 66 = .ok (.arraylength, 1) := by decide +kernel
theorem dX2_copyTo_67 : decode cX2_copyTo 67 = .ok (.if_icmp .ge 51, 3) := by decide +kernel
theorem dX2_copyTo_70 : decode cX2_copyTo 70 = .ok (.iload_n 2, 1) := by decide +kernel
theorem dX2_copyTo_71 : decode cX2_copyTo 71 = .ok (.aload_n 1, 1) := by decide +kernel
theorem dX2_copyTo_72 : decode cX2_copyTo 72 = .ok (.getfield 19, 3) := by decide +kernel
theorem dX2_copyTo_75 : decode cX2_copyTo 75 = .ok (.arraylength, 1) := by decide +kernel
theorem dX2_copyTo_76 : decode cX2_copyTo 76 = .ok (.if_icmp .ge 42, 3) := by decide +kernel
theorem dX2_copyTo_79 : decode cX2_copyTo 79 = .ok (.aload_n 0, 1) := by decide +kernel
theorem dX2_copyTo_80 : decode cX2_copyTo 80 = .ok (.getfield 19, 3) := by decide +kernel
theorem dX2_copyTo_83 : decode cX2_copyTo 83 = .ok (.iload_n 2, 1) := by decide +kernel
theorem dX2_copyTo_84 : decode cX2_copyTo 84 = .ok (.aaload, 1) := by decide +kernel
theorem dX2_copyTo_85 : decode cX2_copyTo 85 = .ok (.ifnull 27, 3) := by decide +kernel
theorem dX2_copyTo_88 : decode cX2_copyTo 88 = .ok (.aload_n 1, 1) := by decide +kernel
theorem dX2_copyTo_89 : decode cX2_copyTo 89 = .ok (.getfield 19, 3) := by decide +kernel
theorem dX2_copyTo_92 : decode cX2_copyTo 92 = .ok (.iload_n 2, 1) := by decide +kernel
theorem dX2_copyTo_93 : decode cX2_copyTo 93 = .ok (.aaload, 1) := by decide +kernel
theorem dX2_copyTo_94 : decode cX2_copyTo 94 = .ok (.ifnull 18, 3) := by decide +kernel
theorem dX2_copyTo_97 : decode cX2_copyTo 97 = .ok (.aload_n 0, 1) := by decide +kernel
theorem dX2_copyTo_98 : decode cX2_copyTo 98 = .ok (.getfield 19, 3) := by decide +kernel
theorem dX2_copyTo_101 : decode cX2_copyTo 101 = .ok (.iload_n 2, 1) := by decide +kernel
theorem dX2_copyTo_102 : decode cX2_copyTo 102 = .ok (.aaload, 1) := by decide +kernel
theorem dX2_copyTo_103 : decode cX2_copyTo 103 = .ok (.aload_n 1, 1) := by decide +kernel
theorem dX2_copyTo_104 : decode cX2_copyTo 104 = .ok (.getfield 19, 3) := by decide +kernel
theorem dX2_copyTo_107 : decode cX2_copyTo 107 = .ok (.iload_n 2, 1) := by decide +kernel
theorem dX2_copyTo_108 : decode cX2_copyTo 108 = .ok (.aaload, 1) := by decide +kernel
theorem dX2_copyTo_109 : decode cX2_copyTo 109 = .ok (.invokevirtual 160, 3) := by decide +kernel
theorem dX2_copyTo_112 : decode cX2_copyTo 112 = .ok (.iinc 2 1, 3) := by decide +kernel
theorem dX2_copyTo_115 : decode cX2_copyTo 115 = .ok (.goto (-54), 3) := by decide +kernel
theorem dX2_copyTo_118 : decode cX2_copyTo 118 = .ok (.iconst 0, 1) := by decide +kernel
theorem dX2_copyTo_119 : decode cX2_copyTo 119 = .ok (.istore_n 2, 1) := by decide +kernel
theorem dX2_copyTo_120 : decode cX2_copyTo 120 = .ok (.iload_n 2, 1) := by decide +kernel
theorem dX2_copyTo_121 : decode cX2_copyTo 121 = .ok (.aload_n 0, 1) := by decide +kernel
theorem dX2_copyTo_122 : decode cX2_copyTo 122 = .ok (.getfield 25, 3) := by decide +kernel
theorem dX2_copyTo_125 : decode cX2_copyTo 125 = .ok (.arraylength, 1) := by decide +kernel
theorem dX2_copyTo_126 : decode cX2_copyTo 126 = .ok (.if_icmp .ge 51, 3) := by decide +kernel
theorem dX2_copyTo_129 : decode cX2_copyTo 129 = .ok (.iload_n 2, 1) := by decide +kernel
theorem dX2_copyTo_130 : decode cX2_copyTo 130 = .ok (.aload_n 1, 1) := by decide +kernel
theorem dX2_copyTo_131 : decode cX2_copyTo 131 = .ok (.getfield 25, 3) := by decide +kernel
theorem dX2_copyTo_134 : decode cX2_copyTo 134 = .ok (.arraylength, 1) := by decide +kernel
theorem dX2_copyTo_135 : decode cX2_copyTo 135 = .ok (.if_icmp .ge 42, 3) := by decide +kernel
theorem dX2_copyTo_138 : decode cX2_copyTo 138 = .ok (.aload_n 0, 1) := by decide +kernel
theorem dX2_copyTo_139 : decode cX2_copyTo 139 = .ok (.getfield 25, 3) := by decide +kernel
theorem dX2_copyTo_142 : decode cX2_copyTo 142 = .ok (.iload_n 2, 1) := by decide +kernel
theorem dX2_copyTo_143 : decode cX2_copyTo 143 = .ok (.aaload, 1) := by decide +kernel
theorem dX2_copyTo_144 : decode cX2_copyTo 144 = .ok (.ifnull 27, 3) := by decide +kernel
theorem dX2_copyTo_147 : decode cX2_copyTo 147 = .ok (.aload_n 1, 1) := by decide +kernel
theorem dX2_copyTo_148 : decode cX2_copyTo 148 = .ok (.getfield 25, 3) := by decide +kernel
theorem dX2_copyTo_151 : decode cX2_copyTo 151 = .ok (.iload_n 2, 1) := by decide +kernel
theorem dX2_copyTo_152 : decode cX2_copyTo 152 = .ok (.aaload, 1) := by decide +kernel
theorem dX2_copyTo_153 : decode cX2_copyTo 153 = .ok (.ifnull 18, 3) := by decide +kernel
theorem dX2_copyTo_156 : decode cX2_copyTo 156 = .ok (.aload_n 0, 1) := by decide +kernel
theorem dX2_copyTo_157 : decode cX2_copyTo 157 = .ok (.getfield 25, 3) := by decide +kernel
theorem dX2_copyTo_160 : decode cX2_copyTo 160 = .ok (.iload_n 2, 1) := by decide +kernel
theorem dX2_copyTo_161 : decode cX2_copyTo 161 = .ok (.aaload, 1) := by decide +kernel
theorem dX2_copyTo_162 : decode cX2_copyTo 162 = .ok (.aload_n 1, 1) := by decide +kernel
theorem dX2_copyTo_163 : decode cX2_copyTo 163 = .ok (.getfield 25, 3) := by decide +kernel
theorem dX2_copyTo_166 : decode cX2_copyTo 166 = .ok (.iload_n 2, 1) := by decide +kernel
theorem dX2_copyTo_167 : decode cX2_copyTo 167 = .ok (.aaload, 1) := by decide +kernel
theorem dX2_copyTo_168 : decode cX2_copyTo 168 = .ok (.invokevirtual 163, 3) := by decide +kernel
theorem dX2_copyTo_171 : decode cX2_copyTo 171 = .ok (.iinc 2 1, 3) := by decide +kernel
theorem dX2_copyTo_174 : decode cX2_copyTo 174 = .ok (.goto (-54), 3) := by decide +kernel
theorem dX2_copyTo_177 : decode cX2_copyTo 177 = .ok (.aload_n 1, 1) := by decide +kernel
theorem dX2_copyTo_178 : decode cX2_copyTo 178 = .ok (.aload_n 0, 1) := by decide +kernel
theorem dX2_copyTo_179 : decode cX2_copyTo 179 = .ok (.getfield 32, 3) := by decide +kernel
theorem dX2_copyTo_182 : decode cX2_copyTo 182 = .ok (.putfield 32, 3) := by decide +kernel
theorem dX2_copyTo_185 : decode cX2_copyTo 185 = .ok (.aload_n 1, 1) := by decide +kernel
theorem dX2_copyTo_186 : decode cX2_copyTo 186 = .ok (.aload_n 0, 1) := by decide +kernel
theorem dX2_copyTo_187 : decode cX2_copyTo 187 = .ok (.getfield 36, 3) := by decide +kernel
theorem dX2_copyTo_190 : decode cX2_copyTo 190 = .ok (.putfield 36, 3) := by decide +kernel
theorem dX2_copyTo_193 : decode cX2_copyTo 193 = .ok (.aload_n 1, 1) := by decide +kernel
theorem dX2_copyTo_194 : decode cX2_copyTo 194 = .ok (.aload_n 0, 1) := by decide +kernel
theorem dX2_copyTo_195 : decode cX2_copyTo 195 = .ok (.getfield 39, 3) := by decide +kernel
theorem dX2_copyTo_198 : decode cX2_copyTo 198 = .ok (.putfield 39, 3) := by decide +kernel
theorem dX2_copyTo_201 : decode cX2_copyTo 201 = .ok (.aload_n 1, 1) := by decide +kernel
theorem dX2_copyTo_202 : decode cX2_copyTo 202 = .ok (.aload_n 0, 1) := by decide +kernel
theorem dX2_copyTo_203 : decode cX2_copyTo 203 = .ok (.getfield 42, 3) := by decide +kernel
theorem dX2_copyTo_206 : decode cX2_copyTo 206 = .ok (.putfield 42, 3) := by decide +kernel
theorem dX2_copyTo_209 : decode cX2_copyTo 209 = .ok (.aload_n 1, 1) := by decide +kernel
theorem dX2_copyTo_210 : decode cX2_copyTo 210 = .ok (.aload_n 0, 1) := by decide +kernel
theorem dX2_copyTo_211 : decode cX2_copyTo 211 = .ok (.getfield 45, 3) := by decide +kernel
theorem dX2_copyTo_214 : decode cX2_copyTo 214 = .ok (.putfield 45, 3) := by decide +kernel
theorem dX2_copyTo_217 : decode cX2_copyTo 217 = .ok (.aload_n 1, 1) := by decide +kernel
theorem dX2_copyTo_218 : decode cX2_copyTo 218 = .ok (.aload_n 0, 1) := by decide +kernel
theorem dX2_copyTo_219 : decode cX2_copyTo 219 = .ok (.getfield 49, 3) := by decide +kernel
theorem dX2_copyTo_222 : decode cX2_copyTo 222 = .ok (.putfield 49, 3) := by decide +kernel
theorem dX2_copyTo_225 : decode cX2_copyTo 225 = .ok (.return_, 1) := by decide +kernel
theorem dX3_init_0 : decode cX3_init 0 = .ok (.aload_n 0, 1) := by decide +kernel
theorem dX3_init_1 : decode cX3_init 1 = .ok (.invokespecial 3, 3) := by decide +kernel
theorem dX3_init_4 : decode cX3_init 4 = .ok (.aload_n 0, 1) := by decide +kernel
theorem dX3_init_5 : decode cX3_init 5 = .ok (.iconst 5, 1) := by decide +kernel
theorem dX3_init_6 : decode cX3_init 6 = .ok (.anewarray 9, 3) := by decide +kernel
theorem dX3_init_9 : decode cX3_init 9 = .ok (.putfield 11, 3) := by decide +kernel
theorem dX3_init_12 : decode cX3_init 12 = .ok (.iconst 0, 1) := by decide +kernel
theorem dX3_init_13 : decode cX3_init 13 = .ok (.istore_n 1, 1) := by decide +kernel
theorem dX3_init_14 : decode cX3_init 14 = .ok (.iload_n 1, 1) := by decide +kernel
theorem dX3_init_15 : decode cX3_init 15 = .ok (.aload_n 0, 1) := by decide +kernel
theorem dX3_init_16 : decode cX3_init 16 = .ok (.getfield 11, 3) := by decide +kernel
theorem dX3_init_19 : decode cX3_init 19 = .ok (.arraylength, 1) := by decide +kernel
theorem dX3_init_20 : decode cX3_init 20 = .ok (.if_icmp .ge 22, 3) := by decide +kernel
theorem dX3_init_23 : decode cX3_init 23 = .ok (.aload_n 0, 1) := by decide +kernel
theorem dX3_init_24 : decode cX3_init 24 = .ok (.getfield 11, 3) := by decide +kernel
theorem dX3_init_27 : decode cX3_init 27 = .ok (.iload_n 1, 1) := by decide +kernel
theorem dX3_init_28 : decode cX3_init 28 = .ok (.new 9, 3) := by decide +kernel
theorem dX3_init_31 : decode cX3_init 31 = .ok (.dup, 1) := by decide +kernel
theorem dX3_init_32 : decode cX3_init 32 = .ok (.invokespecial 17, 3) := by decide +kernel
theorem dX3_init_35 : decode cX3_init 35 = .ok (.aastore, 1) := by decide +kernel
theorem dX3_init_36 : decode cX3_init 36 = .ok (.iinc 1 1, 3) := by decide +kernel
theorem dX3_init_39 : decode cX3_init 39 = .ok (.goto (-25), 3) := by decide +kernel
theorem dX3_init_42 : decode cX3_init 42 = .ok (.aload_n 0, 1) := by decide +kernel
theorem dX3_init_43 : decode cX3_init 43 = .ok (.iconst 0, 1) := by decide +kernel
theorem dX3_init_44 : decode cX3_init 44 = .ok (.putfield 18, 3) := by decide +kernel
theorem dX3_init_47 : decode cX3_init 47 = .ok (.aload_n 0, 1) := by decide +kernel
theorem dX3_init_48 : decode cX3_init 48 = .ok (.iconst 0, 1) := by decide +kernel
theorem dX3_init_49 : decode cX3_init 49 = .ok (.putfield 22, 3) := by decide +kernel
theorem dX3_init_52 : decode cX3_init 52 = .ok (.return_, 1) := by decide +kernel
theorem dX3_stateAt_0 : decode cX3_stateAt 0 = .ok (.aload_n 0, 1) := by decide +kernel
theorem dX3_stateAt_1 : decode cX3_stateAt 1 = .ok (.getfield 18, 3) := by decide +kernel
theorem dX3_stateAt_4 : decode cX3_stateAt 4 = .ok (.iload_n 1, 1) := by decide +kernel
theorem dX3_stateAt_5 : decode cX3_stateAt 5 = .ok (.iadd, 1) := by decide +kernel
theorem dX3_stateAt_6 : decode cX3_stateAt 6 = .ok (.iconst 5, 1) := by decide +kernel
theorem dX3_stateAt_7 : decode cX3_stateAt 7 = .ok (.irem, 1) := by decide +kernel
theorem dX3_stateAt_8 : decode cX3_stateAt 8 = .ok (.istore_n 2, 1) := by decide +kernel
theorem dX3_stateAt_9 : decode cX3_stateAt 9 = .ok (.iload_n 2, 1) := by decide +kernel
theorem dX3_stateAt_10 : decode cX3_stateAt 10 = .ok (.ifCond .lt 21, 3) := by decide +kernel
theorem dX3_stateAt_13 : decode cX3_stateAt 13 = .ok (.iload_n 2, 1) := by decide +kernel
theorem dX3_stateAt_14 : decode cX3_stateAt 14 = .ok (.aload_n 0, 1) := by decide +kernel
theorem dX3_stateAt_15 : decode cX3_stateAt 15 = .ok (.getfield 11, 3) := by decide +kernel
theorem dX3_stateAt_18 : decode cX3_stateAt 18 = .ok (.arraylength, 1) := by decide +kernel
theorem dX3_stateAt_19 : decode cX3_stateAt 19 = .ok (.if_icmp .ge 12, 3) := by decide +kernel
theorem dX3_stateAt_22 : decode cX3_stateAt 22 = .ok (.aload_n 0, 1) := by decide +kernel
theorem dX3_stateAt_23 : decode cX3_stateAt 23 = .ok (.getfield 11, 3) := by decide +kernel
theorem dX3_stateAt_26 : decode cX3_stateAt 26 = .ok (.iload_n 2, 1) := by decide +kernel
theorem dX3_stateAt_27 : decode cX3_stateAt 27 = .ok (.aaload, 1) := by decide +kernel
theorem dX3_stateAt_28 : decode cX3_stateAt 28 = .ok (.goto 4, 3) := by decide +kernel
theorem dX3_stateAt_31 : decode cX3_stateAt 31 = .ok (.aconst_null, 1) := by decide +kernel
theorem dX3_stateAt_32 : decode cX3_stateAt 32 = .ok (.areturn, 1) := by decide +kernel
theorem dX3_add_0 : decode cX3_add 0 = .ok (.aload_n 0, 1) := by decide +kernel
theorem dX3_add_1 : decode cX3_add 1 = .ok (.getfield 22, 3) := by decide +kernel
theorem dX3_add_4 : decode cX3_add 4 = .ok (.iconst 5, 1) := by decide +kernel
theorem dX3_add_5 : decode cX3_add 5 = .ok (.if_icmp .ne 25, 3) := by decide +kernel
theorem dX3_add_8 : decode cX3_add 8 = .ok (.aload_n 0, 1) := by decide +kernel
theorem dX3_add_9 : decode cX3_add 9 = .ok (.aload_n 0, 1) := by decide +kernel
theorem dX3_add_10 : decode cX3_add 10 = .ok (.getfield 18, 3) := by decide +kernel
theorem dX3_add_13 : decode cX3_add 13 = .ok (.iconst 1, 1) := by decide +kernel
theorem dX3_add_14 : decode cX3_add 14 = .ok (.iadd, 1) := by decide +kernel
theorem dX3_add_15 : decode cX3_add 15 = .ok (.iconst 5, 1) := by decide +kernel
theorem dX3_add_16 : decode cX3_add 16 = .ok (.irem, 1) := by decide +kernel
theorem dX3_add_17 : decode cX3_add 17 = .ok (.putfield 18, 3) := by decide +kernel
theorem dX3_add_20 : decode cX3_add 20 = .ok (.aload_n 0, 1) := by decide +kernel
theorem dX3_add_21 : decode cX3_add 21 = .ok (.dup, 1) := by decide +kernel
theorem dX3_add_22 : decode cX3_add 22 = .ok (.getfield 22, 3) := by decide +kernel
theorem dX3_add_25 : decode cX3_add 25 = .ok (.iconst 1, 1) := by decide +kernel
theorem dX3_add_26 : decode cX3_add 26 = .ok (.isub, 1) := by decide +kernel
theorem dX3_add_27 : decode cX3_add 27 = .ok (.putfield 22, 3) := by decide +kernel
theorem dX3_add_30 : decode cX3_add 30 = .ok (.aload_n 0, 1) := by decide +kernel
theorem dX3_add_31 : decode cX3_add 31 = .ok (.aload_n 0, 1) := by decide +kernel
theorem dX3_add_32 : decode cX3_add 32 = .ok (.getfield 22, 3) := by decide +kernel
theorem dX3_add_35 : decode cX3_add 35 = .ok (.invokevirtual 25, 3) := by decide +kernel
theorem dX3_add_38 : decode cX3_add 38 = .ok (.astore_n 2, 1) := by decide +kernel
theorem dX3_add_39 : decode cX3_add 39 = .ok (.aload_n 2, 1) := by decide +kernel
theorem dX3_add_40 : decode cX3_add 40 = .ok (.ifnull 18, 3) := by decide +kernel
theorem dX3_add_43 : decode cX3_add 43 = .ok (.aload_n 1, 1) := by decide +kernel
theorem dX3_add_44 : decode cX3_add 44 = .ok (.aload_n 2, 1) := by decide +kernel
theorem dX3_add_45 : decode cX3_add 45 = .ok (.invokevirtual 29, 3) := by decide +kernel
theorem dX3_add_48 : decode cX3_add 48 = .ok (.aload_n 0, 1) := by decide +kernel
theorem dX3_add_49 : decode cX3_add 49 = .ok (.dup, 1) := by decide +kernel
theorem dX3_add_50 : decode cX3_add 50 = .ok (.getfield 22, 3) := by decide +kernel
theorem dX3_add_53 : decode cX3_add 53 = .ok (.iconst 1, 1) := by decide +kernel
theorem dX3_add_54 : decode cX3_add 54 = .ok (.iadd, 1) := by decide +kernel
theorem dX3_add_55 : decode cX3_add 55 = .ok (.putfield 22, 3) := by decide +kernel
theorem dX3_add_58 : decode cX3_add 58 = .ok (.return_, 1) := by decide +kernel
theorem dX3_takeLatest_0 : decode cX3_takeLatest 0 = .ok (.aload_n 0, 1) := by decide +kernel
theorem dX3_takeLatest_1 : decode cX3_takeLatest 1 = .ok (.getfield 22, 3) := by decide +kernel
theorem dX3_takeLatest_4 : decode cX3_takeLatest 4 = .ok (.ifCond .ne 4, 3) := by decide +kernel
theorem dX3_takeLatest_7 : decode cX3_takeLatest 7 = .ok (.return_, 1) := by decide +kernel
theorem dX3_takeLatest_8 : decode cX3_takeLatest 8 = .ok (.aload_n 0, 1) := by decide +kernel
theorem dX3_takeLatest_9 : decode cX3_takeLatest 9 = .ok (.dup, 1) := by decide +kernel
theorem dX3_takeLatest_10 : decode cX3_takeLatest 10 = .ok (.getfield 22, 3) := by decide +kernel
theorem dX3_takeLatest_13 : decode cX3_takeLatest 13 = .ok (.iconst 1, 1) := by decide +kernel
theorem dX3_takeLatest_14 : decode cX3_takeLatest 14 = .ok (.isub, 1) := by decide +kernel
theorem dX3_takeLatest_15 : decode cX3_takeLatest 15 = .ok (.putfield 22, 3) := by decide +kernel
theorem dX3_takeLatest_18 : decode cX3_takeLatest 18 = .ok (.aload_n 0, 1) := by decide +kernel
theorem dX3_takeLatest_19 : decode cX3_takeLatest 19 = .ok (.aload_n 0, 1) := by decide +kernel
theorem dX3_takeLatest_20 : decode cX3_takeLatest 20 = .ok (.getfield 22, 3) := by decide +kernel
theorem dX3_takeLatest_23 : decode cX3_takeLatest 23 = .ok (.invokevirtual 25, 3) := by decide +kernel
theorem dX3_takeLatest_26 : decode cX3_takeLatest 26 = .ok (.astore_n 2, 1) := by decide +kernel
theorem dX3_takeLatest_27 : decode cX3_takeLatest 27 = .ok (.aload_n 2, 1) := by decide +kernel
theorem dX3_takeLatest_28 : decode cX3_takeLatest 28 = .ok (.ifnull 8, 3) := by decide +kernel
theorem dX3_takeLatest_31 : decode cX3_takeLatest 31 = .ok (.aload_n 2, 1) := by decide +kernel
theorem dX3_takeLatest_32 : decode cX3_takeLatest 32 = .ok (.aload_n 1, 1) := by decide +kernel
theorem dX3_takeLatest_33 : decode cX3_takeLatest 33 = .ok (.invokevirtual 29, 3) := by decide +kernel
theorem dX3_takeLatest_36 : decode cX3_takeLatest 36 = .ok (.return_, 1) := by decide +kernel
theorem dX4_init_0 : decode cX4_init 0 = .ok (.aload_n 0, 1) := by decide +kernel
theorem dX4_init_1 : decode cX4_init 1 = .ok (.invokespecial 3, 3) := by decide +kernel
theorem dX4_init_4 : decode cX4_init 4 = .ok (.aload_n 0, 1) := by decide +kernel
theorem dX4_init_5 : decode cX4_init 5 = .ok (.bipush 60, 2) := by decide +kernel
theorem dX4_init_7 : decode cX4_init 7 = .ok (.newarray .char, 2) := by decide +kernel
theorem dX4_init_9 : decode cX4_init 9 = .ok (.putfield 9, 3) := by decide +kernel
theorem dX4_init_12 : decode cX4_init 12 = .ok (.aload_n 0, 1) := by decide +kernel
theorem dX4_init_13 : decode cX4_init 13 = .ok (.iconst 0, 1) := by decide +kernel
theorem dX4_init_14 : decode cX4_init 14 = .ok (.putfield 15, 3) := by decide +kernel
theorem dX4_init_17 : decode cX4_init 17 = .ok (.aload_n 0, 1) := by decide +kernel
theorem dX4_init_18 : decode cX4_init 18 = .ok (.iconst 0, 1) := by decide +kernel
theorem dX4_init_19 : decode cX4_init 19 = .ok (.putfield 19, 3) := by decide +kernel
theorem dX4_init_22 : decode cX4_init 22 = .ok (.aload_n 0, 1) := by decide +kernel
theorem dX4_init_23 : decode cX4_init 23 = .ok (.iconst (-1), 1) := by decide +kernel
theorem dX4_init_24 : decode cX4_init 24 = .ok (.putfield 22, 3) := by decide +kernel
theorem dX4_init_27 : decode cX4_init 27 = .ok (.aload_n 0, 1) := by decide +kernel
theorem dX4_init_28 : decode cX4_init 28 = .ok (.iconst (-1), 1) := by decide +kernel
theorem dX4_init_29 : decode cX4_init 29 = .ok (.putfield 25, 3) := by decide +kernel
theorem dX4_init_32 : decode cX4_init 32 = .ok (.aload_n 0, 1) := by decide +kernel
theorem dX4_init_33 : decode cX4_init 33 = .ok (.iconst (-1), 1) := by decide +kernel
theorem dX4_init_34 : decode cX4_init 34 = .ok (.putfield 28, 3) := by decide +kernel
theorem dX4_init_37 : decode cX4_init 37 = .ok (.return_, 1) := by decide +kernel
theorem dX4_append_0 : decode cX4_append 0 = .ok (.aload_n 0, 1) := by decide +kernel
theorem dX4_append_1 : decode cX4_append 1 = .ok (.getfield 15, 3) := by decide +kernel
theorem dX4_append_4 : decode cX4_append 4 = .ok (.ifCond .lt 15, 3) := by decide +kernel
theorem dX4_append_7 : decode cX4_append 7 = .ok (.aload_n 0, 1) := by decide +kernel
theorem dX4_append_8 : decode cX4_append 8 = .ok (.getfield 15, 3) := by decide +kernel
theorem dX4_append_11 : decode cX4_append 11 = .ok (.aload_n 0, 1) := by decide +kernel
theorem dX4_append_12 : decode cX4_append 12 = .ok (.getfield 9, 3) := by decide +kernel
theorem dX4_append_15 : decode cX4_append 15 = .ok (.arraylength, 1) := by decide +kernel
theorem dX4_append_16 : decode cX4_append 16 = .ok (.if_icmp .lt 6, 3) := by decide +kernel
theorem dX4_append_19 : decode cX4_append 19 = .ok (.ldc 31, 2) := by decide +kernel
theorem dX4_append_21 : decode cX4_append 21 = .ok (.ireturn, 1) := by decide +kernel
theorem dX4_append_22 : decode cX4_append 22 = .ok (.aload_n 0, 1) := by decide +kernel
theorem dX4_append_23 : decode cX4_append 23 = .ok (.getfield 9, 3) := by decide +kernel
theorem dX4_append_26 : decode cX4_append 26 = .ok (.aload_n 0, 1) := by decide +kernel
theorem dX4_append_27 : decode cX4_append 27 = .ok (.getfield 15, 3) := by decide +kernel
theorem dX4_append_30 : decode cX4_append 30 = .ok (.iload_n 1, 1) := by decide +kernel
theorem dX4_append_31 : decode cX4_append 31 = .ok (.castore, 1) := by decide +kernel
theorem dX4_append_32 : decode cX4_append 32 = .ok (.aload_n 0, 1) := by decide +kernel
theorem dX4_append_33 : decode cX4_append 33 = .ok (.dup, 1) := by decide +kernel
theorem dX4_append_34 : decode cX4_append 34 = .ok (.getfield 15, 3) := by decide +kernel
theorem dX4_append_37 : decode cX4_append 37 = .ok (.iconst 1, 1) := by decide +kernel
theorem dX4_append_38 : decode cX4_append 38 = .ok (.iadd, 1) := by decide +kernel
theorem dX4_append_39 : decode cX4_append 39 = .ok (.putfield 15, 3) := by decide +kernel
theorem dX4_append_42 : decode cX4_append 42 = .ok (.aload_n 0, 1) := by decide +kernel
theorem dX4_append_43 : decode cX4_append 43 = .ok (.getfield 15, 3) := by decide +kernel
theorem dX4_append_46 : decode cX4_append 46 = .ok (.ireturn, 1) := by decide +kernel
theorem dX4_removeAll_0 : decode cX4_removeAll 0 = .ok (.aload_n 0, 1) := by decide +kernel
theorem dX4_removeAll_1 : decode cX4_removeAll 1 = .ok (.getfield 15, 3) := by decide +kernel
theorem dX4_removeAll_4 : decode cX4_removeAll 4 = .ok (.istore_n 1, 1) := by decide +kernel
theorem dX4_removeAll_5 : decode cX4_removeAll 5 = .ok (.aload_n 0, 1) := by decide +kernel
theorem dX4_removeAll_6 : decode cX4_removeAll 6 = .ok (.iconst 0, 1) := by decide +kernel
theorem dX4_removeAll_7 : decode cX4_removeAll 7 = .ok (.putfield 15, 3) := by decide +kernel
theorem dX4_removeAll_10 : decode cX4_removeAll 10 = .ok (.iload_n 1, 1) := by decide +kernel
theorem dX4_removeAll_11 : decode cX4_removeAll 11 = .ok (.ireturn, 1) := by decide +kernel
theorem dX4_rewind_0 : decode cX4_rewind 0 = .ok (.aload_n 0, 1) := by decide +kernel
theorem dX4_rewind_1 : decode cX4_rewind 1 = .ok (.iconst 0, 1) := by decide +kernel
theorem dX4_rewind_2 : decode cX4_rewind 2 = .ok (.putfield 19, 3) := by decide +kernel
theorem dX4_rewind_5 : decode cX4_rewind 5 = .ok (.return_, 1) := by decide +kernel
theorem dX4_hasMore_0 : decode cX4_hasMore 0 = .ok (.aload_n 0, 1) := by decide +kernel
theorem dX4_hasMore_1 : decode cX4_hasMore 1 = .ok (.getfield 19, 3) := by decide +kernel
theorem dX4_hasMore_4 : decode cX4_hasMore 4 = .ok (.aload_n 0, 1) := by decide +kernel
theorem dX4_hasMore_5 : decode cX4_hasMore 5 = .ok (.getfield 15, 3) := by decide +kernel
theorem dX4_hasMore_8 : decode cX4_hasMore 8 = .ok (.if_icmp .ge 7, 3) := by decide +kernel
theorem dX4_hasMore_11 : decode cX4_hasMore 11 = .ok (.iconst 1, 1) := by decide +kernel
theorem dX4_hasMore_12 : decode cX4_hasMore 12 = .ok (.goto 4, 3) := by decide +kernel
theorem dX4_hasMore_15 : decode cX4_hasMore 15 = .ok (.iconst 0, 1) := by decide +kernel
theorem dX4_hasMore_16 : decode cX4_hasMore 16 = .ok (.ireturn, 1) := by decide +kernel
theorem dX4_findFault_0 : decode cX4_findFault 0 = .ok (.aload_n 0, 1) := by decide +kernel
theorem dX4_findFault_1 : decode cX4_findFault 1 = .ok (.invokevirtual 32, 3) := by decide +kernel
theorem dX4_findFault_4 : decode cX4_findFault 4 = .ok (.aload_n 0, 1) := by decide +kernel
theorem dX4_findFault_5 : decode cX4_findFault 5 = .ok (.invokevirtual 35, 3) := by decide +kernel
theorem dX4_findFault_8 : decode cX4_findFault 8 = .ok (.istore_n 1, 1) := by decide +kernel
theorem dX4_findFault_9 : decode cX4_findFault 9 = .ok (.iconst 0, 1) := by decide +kernel
theorem dX4_findFault_10 : decode cX4_findFault 10 = .ok (.istore_n 2, 1) := by decide +kernel
theorem dX4_findFault_11 : decode cX4_findFault 11 = .ok (.iload_n 2, 1) := by decide +kernel
theorem dX4_findFault_12 : decode cX4_findFault 12 = .ok (.bipush 60, 2) := by decide +kernel
theorem dX4_findFault_14 : decode cX4_findFault 14 = .ok (.if_icmp .ge 25, 3) := by decide +kernel
theorem dX4_findFault_17 : decode cX4_findFault 17 = .ok (.iload_n 1, 1) := by decide +kernel
theorem dX4_findFault_18 : decode cX4_findFault 18 = .ok (.ifCond .eq 21, 3) := by decide +kernel
theorem dX4_findFault_21 : decode cX4_findFault 21 = .ok (.aload_n 0, 1) := by decide +kernel
theorem dX4_findFault_22 : decode cX4_findFault 22 = .ok (.invokevirtual 39, 3) := by decide +kernel
theorem dX4_findFault_25 : decode cX4_findFault 25 = .ok (.ifCond .eq 14, 3) := by decide +kernel
theorem dX4_findFault_28 : decode cX4_findFault 28 = .ok (.aload_n 0, 1) := by decide +kernel
theorem dX4_findFault_29 : decode cX4_findFault 29 = .ok (.invokevirtual 35, 3) := by decide +kernel
theorem dX4_findFault_32 : decode cX4_findFault 32 = .ok (.istore_n 1, 1) := by decide +kernel
theorem dX4_findFault_33 : decode cX4_findFault 33 = .ok (.iinc 2 1, 3) := by decide +kernel
theorem dX4_findFault_36 : decode cX4_findFault 36 = .ok (.goto (-25), 3) := by decide +kernel
theorem dX4_findFault_39 : decode cX4_findFault 39 = .ok (.iload_n 1, 1) := by decide +kernel
theorem dX4_findFault_40 : decode cX4_findFault 40 = .ok (.ifCond .eq 7, 3) := by decide +kernel
theorem dX4_findFault_43 : decode cX4_findFault 43 = .ok (.iconst (-1), 1) := by decide +kernel
theorem dX4_findFault_44 : decode cX4_findFault 44 = .ok (.goto 7, 3) := by decide +kernel
theorem dX4_findFault_47 : decode cX4_findFault 47 = .ok (.aload_n 0, 1) := by decide +kernel
theorem dX4_findFault_48 : decode cX4_findFault 48 = .ok (.getfield 19, 3) := by decide +kernel
theorem dX4_findFault_51 : decode cX4_findFault 51 = .ok (.ireturn, 1) := by decide +kernel
theorem dX4_readOrder_0 : decode cX4_readOrder 0 = .ok (.aload_n 0, 1) := by decide +kernel
theorem dX4_readOrder_1 : decode cX4_readOrder 1 = .ok (.getfield 19, 3) := by decide +kernel
theorem dX4_readOrder_4 : decode cX4_readOrder 4 = .ok (.ifCond .le 14, 3) := by decide +kernel
theorem dX4_readOrder_7 : decode cX4_readOrder 7 = .ok (.aload_n 0, 1) := by decide +kernel
theorem dX4_readOrder_8 : decode cX4_readOrder 8 = .ok (.bipush 59, 2) := by decide +kernel
theorem dX4_readOrder_10 : decode cX4_readOrder 10 = .ok (.invokevirtual 42, 3) := by decide +kernel
theorem dX4_readOrder_13 : decode cX4_readOrder 13 = .ok (.ifCond .ne 5, 3) := by decide +kernel
theorem dX4_readOrder_16 : decode cX4_readOrder 16 = .ok (.iconst 0, 1) := by decide +kernel
theorem dX4_readOrder_17 : decode cX4_readOrder 17 = .ok (.ireturn, 1) := by decide +kernel
theorem dX4_readOrder_18 : decode cX4_readOrder 18 = .ok (.aload_n 0, 1) := by decide +kernel
theorem dX4_readOrder_19 : decode cX4_readOrder 19 = .ok (.invokevirtual 46, 3) := by decide +kernel
theorem dX4_readOrder_22 : decode cX4_readOrder 22 = .ok (.aload_n 0, 1) := by decide +kernel
theorem dX4_readOrder_23 : decode cX4_readOrder 23 = .ok (.getfield 22, 3) := by decide +kernel
theorem dX4_readOrder_26 : decode cX4_readOrder 26 = .ok (.tableswitch 121 0 6 #[42, 42, 65, 71, 42, 95, 95], 42) := by decide +kernel
theorem dX4_readOrder_68 : decode cX4_readOrder 68 = .ok (.aload_n 0, 1) := by decide +kernel
theorem dX4_readOrder_69 : decode cX4_readOrder 69 = .ok (.iconst 3, 1) := by decide +kernel
theorem dX4_readOrder_70 : decode cX4_readOrder 70 = .ok (.invokevirtual 49, 3) := by decide +kernel
theorem dX4_readOrder_73 : decode cX4_readOrder 73 = .ok (.ifCond .eq 16, 3) := by decide +kernel
theorem dX4_readOrder_76 : decode cX4_readOrder 76 = .ok (.aload_n 0, 1) := by decide +kernel
theorem dX4_readOrder_77 : decode cX4_readOrder 77 = .ok (.iconst 0, 1) := by decide +kernel
theorem dX4_readOrder_78 : decode cX4_readOrder 78 = .ok (.iconst 1, 1) := by decide +kernel
theorem dX4_readOrder_79 : decode cX4_readOrder 79 = .ok (.invokevirtual 53, 3) := by decide +kernel
theorem dX4_readOrder_82 : decode cX4_readOrder 82 = .ok (.ifCond .eq 7, 3) := by decide +kernel
theorem dX4_readOrder_85 : decode cX4_readOrder 85 = .ok (.iconst 1, 1) := by decide +kernel
theorem dX4_readOrder_86 : decode cX4_readOrder 86 = .ok (.goto 4, 3) := by decide +kernel
theorem dX4_readOrder_89 : decode cX4_readOrder 89 = .ok (.iconst 0, 1) := by decide +kernel
theorem dX4_readOrder_90 : decode cX4_readOrder 90 = .ok (.ireturn, 1) := by decide +kernel
theorem dX4_readOrder_91 : decode cX4_readOrder 91 = .ok (.aload_n 0, 1) := by decide +kernel
theorem dX4_readOrder_92 : decode cX4_readOrder 92 = .ok (.iconst 3, 1) := by decide +kernel
theorem dX4_readOrder_93 : decode cX4_readOrder 93 = .ok (.invokevirtual 49, 3) := by decide +kernel
theorem dX4_readOrder_96 : decode cX4_readOrder 96 = .ok (.ireturn, 1) := by decide +kernel
theorem dX4_readOrder_97 : decode cX4_readOrder 97 = .ok (.aload_n 0, 1) := by decide +kernel
theorem dX4_readOrder_98 : decode cX4_readOrder 98 = .ok (.bipush 11, 2) := by decide +kernel
theorem dX4_readOrder_100 : decode cX4_readOrder 100 = .ok (.invokevirtual 49, 3) := by decide +kernel
theorem dX4_readOrder_103 : decode cX4_readOrder 103 = .ok (.ifCond .eq 16, 3) := by decide +kernel
theorem dX4_readOrder_106 : decode cX4_readOrder 106 = .ok (.aload_n 0, 1) := by decide +kernel
theorem dX4_readOrder_107 : decode cX4_readOrder 107 = .ok (.iconst 0, 1) := by decide +kernel
theorem dX4_readOrder_108 : decode cX4_readOrder 108 = .ok (.iconst 3, 1) := by decide +kernel
theorem dX4_readOrder_109 : decode cX4_readOrder 109 = .ok (.invokevirtual 53, 3) := by decide +kernel
theorem dX4_readOrder_112 : decode cX4_readOrder 112 = .ok (.ifCond .eq 7, 3) := by decide +kernel
theorem dX4_readOrder_115 : decode cX4_readOrder 115 = .ok (.iconst 1, 1) := by decide +kernel
theorem dX4_readOrder_116 : decode cX4_readOrder 116 = .ok (.goto 4, 3) := by decide +kernel
theorem dX4_readOrder_119 : decode cX4_readOrder 119 = .ok (.iconst 0, 1) := by decide +kernel
theorem dX4_readOrder_120 : decode cX4_readOrder 120 = .ok (.ireturn, 1) := by decide +kernel
theorem dX4_readOrder_121 : decode cX4_readOrder 121 = .ok (.aload_n 0, 1) := by decide +kernel
theorem dX4_readOrder_122 : decode cX4_readOrder 122 = .ok (.bipush 11, 2) := by decide +kernel
theorem dX4_readOrder_124 : decode cX4_readOrder 124 = .ok (.invokevirtual 49, 3) := by decide +kernel
theorem dX4_readOrder_127 : decode cX4_readOrder 127 = .ok (.ifCond .eq 18, 3) := by decide +kernel
theorem dX4_readOrder_130 : decode cX4_readOrder 130 = .ok (.aload_n 0, 1) := by decide +kernel
theorem dX4_readOrder_131 : decode cX4_readOrder 131 = .ok (.iconst 1, 1) := by decide +kernel
theorem dX4_readOrder_132 : decode cX4_readOrder 132 = .ok (.sipush 999, 3) := by decide +kernel
theorem dX4_readOrder_135 : decode cX4_readOrder 135 = .ok (.invokevirtual 53, 3) := by decide +kernel
theorem dX4_readOrder_138 : decode cX4_readOrder 138 = .ok (.ifCond .eq 7, 3) := by decide +kernel
theorem dX4_readOrder_141 : decode cX4_readOrder 141 = .ok (.iconst 1, 1) := by decide +kernel
theorem dX4_readOrder_142 : decode cX4_readOrder 142 = .ok (.goto 4, 3) := by decide +kernel
theorem dX4_readOrder_145 : decode cX4_readOrder 145 = .ok (.iconst 0, 1) := by decide +kernel
theorem dX4_readOrder_146 : decode cX4_readOrder 146 = .ok (.ireturn, 1) := by decide +kernel
theorem dX4_readOrder_147 : decode cX4_readOrder 147 = .ok (.iconst 0, 1) := by decide +kernel
theorem dX4_readOrder_148 : decode cX4_readOrder 148 = .ok (.ireturn, 1) := by decide +kernel
theorem dX4_readVerb_0 : decode cX4_readVerb 0 = .ok (.aload_n 0, 1) := by decide +kernel
theorem dX4_readVerb_1 : decode cX4_readVerb 1 = .ok (.invokevirtual 57, 3) := by decide +kernel
theorem dX4_readVerb_4 : decode cX4_readVerb 4 = .ok (.istore_n 1, 1) := by decide +kernel
theorem dX4_readVerb_5 : decode cX4_readVerb 5 = .ok (.aload_n 0, 1) := by decide +kernel
theorem dX4_readVerb_6 : decode cX4_readVerb 6 = .ok (.iconst (-1), 1) := by decide +kernel
theorem dX4_readVerb_7 : decode cX4_readVerb 7 = .ok (.putfield 22, 3) := by decide +kernel
theorem dX4_readVerb_10 : decode cX4_readVerb 10 = .ok (.iconst 0, 1) := by decide +kernel
theorem dX4_readVerb_11 : decode cX4_readVerb 11 = .ok (.istore_n 2, 1) := by decide +kernel
theorem dX4_readVerb_12 : decode cX4_readVerb 12 = .ok (.iload_n 2, 1) := by decide +kernel
theorem dX4_readVerb_13 : decode cX4_readVerb 13 = .ok (.bipush 7, 2) := by decide +kernel
theorem dX4_readVerb_15 : decode cX4_readVerb 15 = .ok (.if_icmp .ge 26, 3) := by decide +kernel
theorem dX4_readVerb_18 : decode cX4_readVerb 18 = .ok (.aload_n 0, 1) := by decide +kernel
theorem dX4_readVerb_19 : decode cX4_readVerb 19 = .ok (.iload_n 2, 1) := by decide +kernel
theorem dX4_readVerb_20 : decode cX4_readVerb 20 = .ok (.invokestatic 61, 3) := by decide +kernel
theorem dX4_readVerb_23 : decode cX4_readVerb 23 = .ok (.iload_n 1, 1) := by decide +kernel
theorem dX4_readVerb_24 : decode cX4_readVerb 24 = .ok (.invokevirtual 65, 3) := by decide +kernel
theorem dX4_readVerb_27 : decode cX4_readVerb 27 = .ok (.ifCond .eq 8, 3) := by decide +kernel
theorem dX4_readVerb_30 : decode cX4_readVerb 30 = .ok (.aload_n 0, 1) := by decide +kernel
theorem dX4_readVerb_31 : decode cX4_readVerb 31 = .ok (.iload_n 2, 1) := by decide +kernel
theorem dX4_readVerb_32 : decode cX4_readVerb 32 = .ok (.putfield 22, 3) := by decide +kernel
theorem dX4_readVerb_35 : decode cX4_readVerb 35 = .ok (.iinc 2 1, 3) := by decide +kernel
theorem dX4_readVerb_38 : decode cX4_readVerb 38 = .ok (.goto (-26), 3) := by decide +kernel
theorem dX4_readVerb_41 : decode cX4_readVerb 41 = .ok (.aload_n 0, 1) := by decide +kernel
theorem dX4_readVerb_42 : decode cX4_readVerb 42 = .ok (.getfield 22, 3) := by decide +kernel
theorem dX4_readVerb_45 : decode cX4_readVerb 45 = .ok (.iconst (-1), 1) := by decide +kernel
theorem dX4_readVerb_46 : decode cX4_readVerb 46 = .ok (.if_icmp .eq 8, 3) := by decide +kernel
theorem dX4_readVerb_49 : decode cX4_readVerb 49 = .ok (.aload_n 0, 1) := by decide +kernel
theorem dX4_readVerb_50 : decode cX4_readVerb 50 = .ok (.iload_n 1, 1) := by decide +kernel
theorem dX4_readVerb_51 : decode cX4_readVerb 51 = .ok (.putfield 19, 3) := by decide +kernel
theorem dX4_readVerb_54 : decode cX4_readVerb 54 = .ok (.return_, 1) := by decide +kernel
theorem dX4_readFirst_0 : decode cX4_readFirst 0 = .ok (.aload_n 0, 1) := by decide +kernel
theorem dX4_readFirst_1 : decode cX4_readFirst 1 = .ok (.aload_n 0, 1) := by decide +kernel
theorem dX4_readFirst_2 : decode cX4_readFirst 2 = .ok (.iconst 0, 1) := by decide +kernel
theorem dX4_readFirst_3 : decode cX4_readFirst 3 = .ok (.iload_n 1, 1) := by decide +kernel
theorem dX4_readFirst_4 : decode cX4_readFirst 4 = .ok (.invokevirtual 69, 3) := by decide +kernel
theorem dX4_readFirst_7 : decode cX4_readFirst 7 = .ok (.putfield 25, 3) := by decide +kernel
theorem dX4_readFirst_10 : decode cX4_readFirst 10 = .ok (.aload_n 0, 1) := by decide +kernel
theorem dX4_readFirst_11 : decode cX4_readFirst 11 = .ok (.getfield 25, 3) := by decide +kernel
theorem dX4_readFirst_14 : decode cX4_readFirst 14 = .ok (.iconst (-1), 1) := by decide +kernel
theorem dX4_readFirst_15 : decode cX4_readFirst 15 = .ok (.if_icmp .eq 7, 3) := by decide +kernel
theorem dX4_readFirst_18 : decode cX4_readFirst 18 = .ok (.iconst 1, 1) := by decide +kernel
theorem dX4_readFirst_19 : decode cX4_readFirst 19 = .ok (.goto 4, 3) := by decide +kernel
theorem dX4_readFirst_22 : decode cX4_readFirst 22 = .ok (.iconst 0, 1) := by decide +kernel
theorem dX4_readFirst_23 : decode cX4_readFirst 23 = .ok (.ireturn, 1) := by decide +kernel
theorem dX4_readSecond_0 : decode cX4_readSecond 0 = .ok (.aload_n 0, 1) := by decide +kernel
theorem dX4_readSecond_1 : decode cX4_readSecond 1 = .ok (.aload_n 0, 1) := by decide +kernel
theorem dX4_readSecond_2 : decode cX4_readSecond 2 = .ok (.iload_n 1, 1) := by decide +kernel
theorem dX4_readSecond_3 : decode cX4_readSecond 3 = .ok (.iload_n 2, 1) := by decide +kernel
theorem dX4_readSecond_4 : decode cX4_readSecond 4 = .ok (.invokevirtual 69, 3) := by decide +kernel
theorem dX4_readSecond_7 : decode cX4_readSecond 7 = .ok (.putfield 28, 3) := by decide +kernel
theorem dX4_readSecond_10 : decode cX4_readSecond 10 = .ok (.aload_n 0, 1) := by decide +kernel
theorem dX4_readSecond_11 : decode cX4_readSecond 11 = .ok (.getfield 28, 3) := by decide +kernel
theorem dX4_readSecond_14 : decode cX4_readSecond 14 = .ok (.iconst (-1), 1) := by decide +kernel
theorem dX4_readSecond_15 : decode cX4_readSecond 15 = .ok (.if_icmp .eq 7, 3) := by decide +kernel
theorem dX4_readSecond_18 : decode cX4_readSecond 18 = .ok (.iconst 1, 1) := by decide +kernel
theorem dX4_readSecond_19 : decode cX4_readSecond 19 = .ok (.goto 4, 3) := by decide +kernel
theorem dX4_readSecond_22 : decode cX4_readSecond 22 = .ok (.iconst 0, 1) := by decide +kernel
theorem dX4_readSecond_23 : decode cX4_readSecond 23 = .ok (.ireturn, 1) := by decide +kernel
theorem dX4_readNumber_0 : decode cX4_readNumber 0 = .ok (.aload_n 0, 1) := by decide +kernel
theorem dX4_readNumber_1 : decode cX4_readNumber 1 = .ok (.bipush 32, 2) := by decide +kernel
theorem dX4_readNumber_3 : decode cX4_readNumber 3 = .ok (.invokevirtual 42, 3) := by decide +kernel
theorem dX4_readNumber_6 : decode cX4_readNumber 6 = .ok (.ifCond .ne 5, 3) := by decide +kernel
theorem dX4_readNumber_9 : decode cX4_readNumber 9 = .ok (.iconst (-1), 1) := by decide +kernel
theorem dX4_readNumber_10 : decode cX4_readNumber 10 = .ok (.ireturn, 1) := by decide +kernel
theorem dX4_readNumber_11 : decode cX4_readNumber 11 = .ok (.aload_n 0, 1) := by decide +kernel
theorem dX4_readNumber_12 : decode cX4_readNumber 12 = .ok (.invokevirtual 57, 3) := by decide +kernel
theorem dX4_readNumber_15 : decode cX4_readNumber 15 = .ok (.istore_n 3, 1) := by decide +kernel
theorem dX4_readNumber_16 : decode cX4_readNumber 16 = .ok (.iload_n 3, 1) := by decide +kernel
theorem dX4_readNumber_17 : decode cX4_readNumber 17 = .ok (.aload_n 0, 1) := by decide +kernel
theorem dX4_readNumber_18 : decode cX4_readNumber 18 = .ok (.getfield 19, 3) := by decide +kernel
theorem dX4_readNumber_21 : decode cX4_readNumber 21 = .ok (.if_icmp .eq 13, 3) := by decide +kernel
theorem dX4_readNumber_24 : decode cX4_readNumber 24 = .ok (.iload_n 3, 1) := by decide +kernel
theorem dX4_readNumber_25 : decode cX4_readNumber 25 = .ok (.aload_n 0, 1) := by decide +kernel
theorem dX4_readNumber_26 : decode cX4_readNumber 26 = .ok (.getfield 19, 3) := by decide +kernel
theorem dX4_readNumber_29 : decode cX4_readNumber 29 = .ok (.isub, 1) := by decide +kernel
theorem dX4_readNumber_30 : decode cX4_readNumber 30 = .ok (.iconst 3, 1) := by decide +kernel
theorem dX4_readNumber_31 : decode cX4_readNumber 31 = .ok (.if_icmp .le 5, 3) := by decide +kernel
theorem dX4_readNumber_34 : decode cX4_readNumber 34 = .ok (.iconst (-1), 1) := by decide +kernel
theorem dX4_readNumber_35 : decode cX4_readNumber 35 = .ok (.ireturn, 1) := by decide +kernel
theorem dX4_readNumber_36 : decode cX4_readNumber 36 = .ok (.iconst 0, 1) := by decide +kernel
theorem dX4_readNumber_37 : decode cX4_readNumber 37 = .ok (.istore 4, 2) := by decide +kernel
theorem dX4_readNumber_39 : decode cX4_readNumber 39 = .ok (.aload_n 0, 1) := by decide +kernel
theorem dX4_readNumber_40 : decode cX4_readNumber 40 = .ok (.getfield 19, 3) := by decide +kernel
theorem dX4_readNumber_43 : decode cX4_readNumber 43 = .ok (.istore 5, 2) := by decide +kernel
theorem dX4_readNumber_45 : decode cX4_readNumber 45 = .ok (.iload 5, 2) := by decide +kernel
theorem dX4_readNumber_47 : decode cX4_readNumber 47 = .ok (.iload_n 3, 1) := by decide +kernel
theorem dX4_readNumber_48 : decode cX4_readNumber 48 = .ok (.if_icmp .ge 46, 3) := by decide +kernel
theorem dX4_readNumber_51 : decode cX4_readNumber 51 = .ok (.aload_n 0, 1) := by decide +kernel
theorem dX4_readNumber_52 : decode cX4_readNumber 52 = .ok (.iload 5, 2) := by decide +kernel
theorem dX4_readNumber_54 : decode cX4_readNumber 54 = .ok (.invokevirtual 73, 3) := by decide +kernel
theorem dX4_readNumber_57 : decode cX4_readNumber 57 = .ok (.istore 6, 2) := by decide +kernel
theorem dX4_readNumber_59 : decode cX4_readNumber 59 = .ok (.iload 6, 2) := by decide +kernel
theorem dX4_readNumber_61 : decode cX4_readNumber 61 = .ok (.bipush 48, 2) := by decide +kernel
theorem dX4_readNumber_63 : decode cX4_readNumber 63 = .ok (.if_icmp .lt 10, 3) := by decide +kernel
theorem dX4_readNumber_66 : decode cX4_readNumber 66 = .ok (.iload 6, 2) := by decide +kernel
theorem dX4_readNumber_68 : decode cX4_readNumber 68 = .ok (.bipush 57, 2) := by decide +kernel
theorem dX4_readNumber_70 : decode cX4_readNumber 70 = .ok (.if_icmp .le 5, 3) := by decide +kernel
theorem dX4_readNumber_73 : decode cX4_readNumber 73 = .ok (.iconst (-1), 1) := by decide +kernel
theorem dX4_readNumber_74 : decode cX4_readNumber 74 = .ok (.ireturn, 1) := by decide +kernel
theorem dX4_readNumber_75 : decode cX4_readNumber 75 = .ok (.iload 4, 2) := by decide +kernel
theorem dX4_readNumber_77 : decode cX4_readNumber 77 = .ok (.bipush 10, 2) := by decide +kernel
theorem dX4_readNumber_79 : decode cX4_readNumber 79 = .ok (.imul, 1) := by decide +kernel
theorem dX4_readNumber_80 : decode cX4_readNumber 80 = .ok (.iload 6, 2) := by decide +kernel
theorem dX4_readNumber_82 : decode cX4_readNumber 82 = .ok (.bipush 48, 2) := by decide +kernel
theorem dX4_readNumber_84 : decode cX4_readNumber 84 = .ok (.isub, 1) := by decide +kernel
theorem dX4_readNumber_85 : decode cX4_readNumber 85 = .ok (.iadd, 1) := by decide +kernel
theorem dX4_readNumber_86 : decode cX4_readNumber 86 = .ok (.istore 4, 2) := by decide +kernel
theorem dX4_readNumber_88 : decode cX4_readNumber 88 = .ok (.iinc 5 1, 3) := by decide +kernel
theorem dX4_readNumber_91 : decode cX4_readNumber 91 = .ok (.goto (-46), 3) := by decide +kernel
theorem dX4_readNumber_94 : decode cX4_readNumber 94 = .ok (.iload 4, 2) := by decide +kernel
theorem dX4_readNumber_96 : decode cX4_readNumber 96 = .ok (.iload_n 1, 1) := by decide +kernel
theorem dX4_readNumber_97 : decode cX4_readNumber 97 = .ok (.iload_n 2, 1) := by decide +kernel
theorem dX4_readNumber_98 : decode cX4_readNumber 98 = .ok (.invokestatic 77, 3) := by decide +kernel
theorem dX4_readNumber_101 : decode cX4_readNumber 101 = .ok (.ifCond .ne 5, 3) := by decide +kernel
theorem dX4_readNumber_104 : decode cX4_readNumber 104 = .ok (.iconst (-1), 1) := by decide +kernel
theorem dX4_readNumber_105 : decode cX4_readNumber 105 = .ok (.ireturn, 1) := by decide +kernel
theorem dX4_readNumber_106 : decode cX4_readNumber 106 = .ok (.aload_n 0, 1) := by decide +kernel
theorem dX4_readNumber_107 : decode cX4_readNumber 107 = .ok (.iload_n 3, 1) := by decide +kernel
theorem dX4_readNumber_108 : decode cX4_readNumber 108 = .ok (.putfield 19, 3) := by decide +kernel
theorem dX4_readNumber_111 : decode cX4_readNumber 111 = .ok (.iload 4, 2) := by decide +kernel
theorem dX4_readNumber_113 : decode cX4_readNumber 113 = .ok (.ireturn, 1) := by decide +kernel
theorem dX4_readSign_0 : decode cX4_readSign 0 = .ok (.aload_n 0, 1) := by decide +kernel
theorem dX4_readSign_1 : decode cX4_readSign 1 = .ok (.invokevirtual 39, 3) := by decide +kernel
theorem dX4_readSign_4 : decode cX4_readSign 4 = .ok (.ifCond .eq 15, 3) := by decide +kernel
theorem dX4_readSign_7 : decode cX4_readSign 7 = .ok (.aload_n 0, 1) := by decide +kernel
theorem dX4_readSign_8 : decode cX4_readSign 8 = .ok (.aload_n 0, 1) := by decide +kernel
theorem dX4_readSign_9 : decode cX4_readSign 9 = .ok (.getfield 19, 3) := by decide +kernel
theorem dX4_readSign_12 : decode cX4_readSign 12 = .ok (.invokevirtual 73, 3) := by decide +kernel
theorem dX4_readSign_15 : decode cX4_readSign 15 = .ok (.iload_n 1, 1) := by decide +kernel
theorem dX4_readSign_16 : decode cX4_readSign 16 = .ok (.if_icmp .eq 5, 3) := by decide +kernel
theorem dX4_readSign_19 : decode cX4_readSign 19 = .ok (.iconst 0, 1) := by decide +kernel
theorem dX4_readSign_20 : decode cX4_readSign 20 = .ok (.ireturn, 1) := by decide +kernel
theorem dX4_readSign_21 : decode cX4_readSign 21 = .ok (.aload_n 0, 1) := by decide +kernel
theorem dX4_readSign_22 : decode cX4_readSign 22 = .ok (.dup, 1) := by decide +kernel
theorem dX4_readSign_23 : decode cX4_readSign 23 = .ok (.getfield 19, 3) := by decide +kernel
theorem dX4_readSign_26 : decode cX4_readSign 26 = .ok (.iconst 1, 1) := by decide +kernel
theorem dX4_readSign_27 : decode cX4_readSign 27 = .ok (.iadd, 1) := by decide +kernel
theorem dX4_readSign_28 : decode cX4_readSign 28 = .ok (.putfield 19, 3) := by decide +kernel
theorem dX4_readSign_31 : decode cX4_readSign 31 = .ok (.iconst 1, 1) := by decide +kernel
theorem dX4_readSign_32 : decode cX4_readSign 32 = .ok (.ireturn, 1) := by decide +kernel
theorem dX4_endOfToken_0 : decode cX4_endOfToken 0 = .ok (.aload_n 0, 1) := by decide +kernel
theorem dX4_endOfToken_1 : decode cX4_endOfToken 1 = .ok (.getfield 19, 3) := by decide +kernel
theorem dX4_endOfToken_4 : decode cX4_endOfToken 4 = .ok (.istore_n 1, 1) := by decide +kernel
theorem dX4_endOfToken_5 : decode cX4_endOfToken 5 = .ok (.iload_n 1, 1) := by decide +kernel
theorem dX4_endOfToken_6 : decode cX4_endOfToken 6 = .ok (.aload_n 0, 1) := by decide +kernel
theorem dX4_endOfToken_7 : decode cX4_endOfToken 7 = .ok (.getfield 15, 3) := by decide +kernel
theorem dX4_endOfToken_10 : decode cX4_endOfToken 10 = .ok (.if_icmp .ge 29, 3) := by decide +kernel
theorem dX4_endOfToken_13 : decode cX4_endOfToken 13 = .ok (.aload_n 0, 1) := by decide +kernel
theorem dX4_endOfToken_14 : decode cX4_endOfToken 14 = .ok (.iload_n 1, 1) := by decide +kernel
theorem dX4_endOfToken_15 : decode cX4_endOfToken 15 = .ok (.invokevirtual 73, 3) := by decide +kernel
theorem dX4_endOfToken_18 : decode cX4_endOfToken 18 = .ok (.bipush 32, 2) := by decide +kernel
theorem dX4_endOfToken_20 : decode cX4_endOfToken 20 = .ok (.if_icmp .eq 19, 3) := by decide +kernel
theorem dX4_endOfToken_23 : decode cX4_endOfToken 23 = .ok (.aload_n 0, 1) := by decide +kernel
theorem dX4_endOfToken_24 : decode cX4_endOfToken 24 = .ok (.iload_n 1, 1) := by decide +kernel
theorem dX4_endOfToken_25 : decode cX4_endOfToken 25 = .ok (.invokevirtual 73, 3) := by decide +kernel
theorem dX4_endOfToken_28 : decode cX4_endOfToken 28 = .ok (.bipush 59, 2) := by decide +kernel
theorem dX4_endOfToken_30 : decode cX4_endOfToken 30 = .ok (.if_icmp .eq 9, 3) := by decide +kernel
theorem dX4_endOfToken_33 : decode cX4_endOfToken 33 = .ok (.iinc 1 1, 3) := by decide +kernel
theorem dX4_endOfToken_36 : decode cX4_endOfToken 36 = .ok (.goto (-31), 3) := by decide +kernel
theorem dX4_endOfToken_39 : decode cX4_endOfToken 39 = .ok (.iload_n 1, 1) := by decide +kernel
theorem dX4_endOfToken_40 : decode cX4_endOfToken 40 = .ok (.ireturn, 1) := by decide +kernel
theorem dX4_stands_0 : decode cX4_stands 0 = .ok (.aload_n 1, 1) := by decide +kernel
theorem dX4_stands_1 : decode cX4_stands 1 = .ok (.invokevirtual 81, 3) := by decide +kernel
theorem dX4_stands_4 : decode cX4_stands 4 = .ok (.iload_n 2, 1) := by decide +kernel
theorem dX4_stands_5 : decode cX4_stands 5 = .ok (.aload_n 0, 1) := by decide +kernel
theorem dX4_stands_6 : decode cX4_stands 6 = .ok (.getfield 19, 3) := by decide +kernel
theorem dX4_stands_9 : decode cX4_stands 9 = .ok (.isub, 1) := by decide +kernel
theorem dX4_stands_10 : decode cX4_stands 10 = .ok (.if_icmp .eq 5, 3) := by decide +kernel
theorem dX4_stands_13 : decode cX4_stands 13 = .ok (.iconst 0, 1) := by decide +kernel
theorem dX4_stands_14 : decode cX4_stands 14 = .ok (.ireturn, 1) := by decide +kernel
theorem dX4_stands_15 : decode cX4_stands 15 = .ok (.iconst 0, 1) := by decide +kernel
theorem dX4_stands_16 : decode cX4_stands 16 = .ok (.istore_n 3, 1) := by decide +kernel
theorem dX4_stands_17 : decode cX4_stands 17 = .ok (.iload_n 3, 1) := by decide +kernel
theorem dX4_stands_18 : decode cX4_stands 18 = .ok (.aload_n 1, 1) := by decide +kernel
theorem dX4_stands_19 : decode cX4_stands 19 = .ok (.invokevirtual 81, 3) := by decide +kernel
theorem dX4_stands_22 : decode cX4_stands 22 = .ok (.if_icmp .ge 29, 3) := by decide +kernel
theorem dX4_stands_25 : decode cX4_stands 25 = .ok (.aload_n 0, 1) := by decide +kernel
theorem dX4_stands_26 : decode cX4_stands 26 = .ok (.aload_n 0, 1) := by decide +kernel
theorem dX4_stands_27 : decode cX4_stands 27 = .ok (.getfield 19, 3) := by decide +kernel
theorem dX4_stands_30 : decode cX4_stands 30 = .ok (.iload_n 3, 1) := by decide +kernel
theorem dX4_stands_31 : decode cX4_stands 31 = .ok (.iadd, 1) := by decide +kernel
theorem dX4_stands_32 : decode cX4_stands 32 = .ok (.invokevirtual 73, 3) := by decide +kernel
theorem dX4_stands_35 : decode cX4_stands 35 = .ok (.aload_n 1, 1) := by decide +kernel
theorem dX4_stands_36 : decode cX4_stands 36 = .ok (.iload_n 3, 1) := by decide +kernel
theorem dX4_stands_37 : decode cX4_stands 37 = .ok (.invokevirtual 85, 3) := by decide +kernel
theorem dX4_stands_40 : decode cX4_stands 40 = .ok (.if_icmp .eq 5, 3) := by decide +kernel
theorem dX4_stands_43 : decode cX4_stands 43 = .ok (.iconst 0, 1) := by decide +kernel
theorem dX4_stands_44 : decode cX4_stands 44 = .ok (.ireturn, 1) := by decide +kernel
theorem dX4_stands_45 : decode cX4_stands 45 = .ok (.iinc 3 1, 3) := by decide +kernel
theorem dX4_stands_48 : decode cX4_stands 48 = .ok (.goto (-31), 3) := by decide +kernel
theorem dX4_stands_51 : decode cX4_stands 51 = .ok (.iconst 1, 1) := by decide +kernel
theorem dX4_stands_52 : decode cX4_stands 52 = .ok (.ireturn, 1) := by decide +kernel
theorem dX4_signAt_0 : decode cX4_signAt 0 = .ok (.iload_n 1, 1) := by decide +kernel
theorem dX4_signAt_1 : decode cX4_signAt 1 = .ok (.ifCond .lt 29, 3) := by decide +kernel
theorem dX4_signAt_4 : decode cX4_signAt 4 = .ok (.iload_n 1, 1) := by decide +kernel
theorem dX4_signAt_5 : decode cX4_signAt 5 = .ok (.aload_n 0, 1) := by decide +kernel
theorem dX4_signAt_6 : decode cX4_signAt 6 = .ok (.getfield 15, 3) := by decide +kernel
theorem dX4_signAt_9 : decode cX4_signAt 9 = .ok (.if_icmp .ge 21, 3) := by decide +kernel
theorem dX4_signAt_12 : decode cX4_signAt 12 = .ok (.iload_n 1, 1) := by decide +kernel
theorem dX4_signAt_13 : decode cX4_signAt 13 = .ok (.aload_n 0, 1) := by decide +kernel
theorem dX4_signAt_14 : decode cX4_signAt 14 = .ok (.getfield 9, 3) := by decide +kernel
theorem dX4_signAt_17 : decode cX4_signAt 17 = .ok (.arraylength, 1) := by decide +kernel
theorem dX4_signAt_18 : decode cX4_signAt 18 = .ok (.if_icmp .ge 12, 3) := by decide +kernel
theorem dX4_signAt_21 : decode cX4_signAt 21 = .ok (.aload_n 0, 1) := by decide +kernel
theorem dX4_signAt_22 : decode cX4_signAt 22 = .ok (.getfield 9, 3) := by decide +kernel
theorem dX4_signAt_25 : decode cX4_signAt 25 = .ok (.iload_n 1, 1) := by decide +kernel
theorem dX4_signAt_26 : decode cX4_signAt 26 = .ok (.caload, 1) := by decide +kernel
theorem dX4_signAt_27 : decode cX4_signAt 27 = .ok (.goto 4, 3) := by decide +kernel
theorem dX4_signAt_30 : decode cX4_signAt 30 = .ok (.iconst 0, 1) := by decide +kernel
theorem dX4_signAt_31 : decode cX4_signAt 31 = .ok (.ireturn, 1) := by decide +kernel
theorem dX4_wordOf_0 : decode cX4_wordOf 0 = .ok (.iload_n 0, 1) := by decide +kernel
theorem dX4_wordOf_1 : decode cX4_wordOf 1 = .ok (.tableswitch 64 0 6 #[43, 46, 49, 52, 55, 58, 61], 43) := by decide +kernel
theorem dX4_wordOf_44 : decode cX4_wordOf 44 = .ok (.ldc 88, 2) := by decide +kernel
theorem dX4_wordOf_46 : decode cX4_wordOf 46 = .ok (.areturn, 1) := by decide +kernel
theorem dX4_wordOf_47 : decode cX4_wordOf 47 = .ok (.ldc 90, 2) := by decide +kernel
theorem dX4_wordOf_49 : decode cX4_wordOf 49 = .ok (.areturn, 1) := by decide +kernel
theorem dX4_wordOf_50 : decode cX4_wordOf 50 = .ok (.ldc 92, 2) := by decide +kernel
theorem dX4_wordOf_52 : decode cX4_wordOf 52 = .ok (.areturn, 1) := by decide +kernel
theorem dX4_wordOf_53 : decode cX4_wordOf 53 = .ok (.ldc 94, 2) := by decide +kernel
theorem dX4_wordOf_55 : decode cX4_wordOf 55 = .ok (.areturn, 1) := by decide +kernel
theorem dX4_wordOf_56 : decode cX4_wordOf 56 = .ok (.ldc 96, 2) := by decide +kernel
theorem dX4_wordOf_58 : decode cX4_wordOf 58 = .ok (.areturn, 1) := by decide +kernel
theorem dX4_wordOf_59 : decode cX4_wordOf 59 = .ok (.ldc 98, 2) := by decide +kernel
theorem dX4_wordOf_61 : decode cX4_wordOf 61 = .ok (.areturn, 1) := by decide +kernel
theorem dX4_wordOf_62 : decode cX4_wordOf 62 = .ok (.ldc 100, 2) := by decide +kernel
theorem dX4_wordOf_64 : decode cX4_wordOf 64 = .ok (.areturn, 1) := by decide +kernel
theorem dX4_wordOf_65 : decode cX4_wordOf 65 = .ok (.ldc 102, 2) := by decide +kernel
theorem dX4_wordOf_67 : decode cX4_wordOf 67 = .ok (.areturn, 1) := by decide +kernel
theorem dX5_init_0 : decode cX5_init 0 = .ok (.aload_n 0, 1) := by decide +kernel
theorem dX5_init_1 : decode cX5_init 1 = .ok (.invokespecial 3, 3) := by decide +kernel
theorem dX5_init_4 : decode cX5_init 4 = .ok (.return_, 1) := by decide +kernel
theorem dX5_begin_0 : decode cX5_begin 0 = .ok (.aload_n 0, 1) := by decide +kernel
theorem dX5_begin_1 : decode cX5_begin 1 = .ok (.iconst 0, 1) := by decide +kernel
theorem dX5_begin_2 : decode cX5_begin 2 = .ok (.putfield 9, 3) := by decide +kernel
theorem dX5_begin_5 : decode cX5_begin 5 = .ok (.aload_n 0, 1) := by decide +kernel
theorem dX5_begin_6 : decode cX5_begin 6 = .ok (.iconst 0, 1) := by decide +kernel
theorem dX5_begin_7 : decode cX5_begin 7 = .ok (.putfield 15, 3) := by decide +kernel
theorem dX5_begin_10 : decode cX5_begin 10 = .ok (.aload_n 0, 1) := by decide +kernel
theorem dX5_begin_11 : decode cX5_begin 11 = .ok (.iconst 0, 1) := by decide +kernel
theorem dX5_begin_12 : decode cX5_begin 12 = .ok (.putfield 18, 3) := by decide +kernel
theorem dX5_begin_15 : decode cX5_begin 15 = .ok (.return_, 1) := by decide +kernel
theorem dX5_height_0 : decode cX5_height 0 = .ok (.aload_n 0, 1) := by decide +kernel
theorem dX5_height_1 : decode cX5_height 1 = .ok (.getfield 9, 3) := by decide +kernel
theorem dX5_height_4 : decode cX5_height 4 = .ok (.aload_n 0, 1) := by decide +kernel
theorem dX5_height_5 : decode cX5_height 5 = .ok (.getfield 15, 3) := by decide +kernel
theorem dX5_height_8 : decode cX5_height 8 = .ok (.iadd, 1) := by decide +kernel
theorem dX5_height_9 : decode cX5_height 9 = .ok (.ireturn, 1) := by decide +kernel
theorem dX5_countPassage_0 : decode cX5_countPassage 0 = .ok (.aload_n 0, 1) := by decide +kernel
theorem dX5_countPassage_1 : decode cX5_countPassage 1 = .ok (.dup, 1) := by decide +kernel
theorem dX5_countPassage_2 : decode cX5_countPassage 2 = .ok (.getfield 18, 3) := by decide +kernel
theorem dX5_countPassage_5 : decode cX5_countPassage 5 = .ok (.iconst 1, 1) := by decide +kernel
theorem dX5_countPassage_6 : decode cX5_countPassage 6 = .ok (.iadd, 1) := by decide +kernel
theorem dX5_countPassage_7 : decode cX5_countPassage 7 = .ok (.putfield 18, 3) := by decide +kernel
theorem dX5_countPassage_10 : decode cX5_countPassage 10 = .ok (.aload_n 0, 1) := by decide +kernel
theorem dX5_countPassage_11 : decode cX5_countPassage 11 = .ok (.getfield 18, 3) := by decide +kernel
theorem dX5_countPassage_14 : decode cX5_countPassage 14 = .ok (.bipush 8, 2) := by decide +kernel
theorem dX5_countPassage_16 : decode cX5_countPassage 16 = .ok (.irem, 1) := by decide +kernel
theorem dX5_countPassage_17 : decode cX5_countPassage 17 = .ok (.ifCond .ne 13, 3) := by decide +kernel
theorem dX5_countPassage_20 : decode cX5_countPassage 20 = .ok (.aload_n 0, 1) := by decide +kernel
theorem dX5_countPassage_21 : decode cX5_countPassage 21 = .ok (.dup, 1) := by decide +kernel
theorem dX5_countPassage_22 : decode cX5_countPassage 22 = .ok (.getfield 15, 3) := by decide +kernel
theorem dX5_countPassage_25 : decode cX5_countPassage 25 = .ok (.iconst 1, 1) := by decide +kernel
theorem dX5_countPassage_26 : decode cX5_countPassage 26 = .ok (.iadd, 1) := by decide +kernel
theorem dX5_countPassage_27 : decode cX5_countPassage 27 = .ok (.putfield 15, 3) := by decide +kernel
theorem dX5_countPassage_30 : decode cX5_countPassage 30 = .ok (.return_, 1) := by decide +kernel
theorem dX5_copyTo_0 : decode cX5_copyTo 0 = .ok (.aload_n 1, 1) := by decide +kernel
theorem dX5_copyTo_1 : decode cX5_copyTo 1 = .ok (.aload_n 0, 1) := by decide +kernel
theorem dX5_copyTo_2 : decode cX5_copyTo 2 = .ok (.getfield 9, 3) := by decide +kernel
theorem dX5_copyTo_5 : decode cX5_copyTo 5 = .ok (.putfield 9, 3) := by decide +kernel
theorem dX5_copyTo_8 : decode cX5_copyTo 8 = .ok (.aload_n 1, 1) := by decide +kernel
theorem dX5_copyTo_9 : decode cX5_copyTo 9 = .ok (.aload_n 0, 1) := by decide +kernel
theorem dX5_copyTo_10 : decode cX5_copyTo 10 = .ok (.getfield 15, 3) := by decide +kernel
theorem dX5_copyTo_13 : decode cX5_copyTo 13 = .ok (.putfield 15, 3) := by decide +kernel
theorem dX5_copyTo_16 : decode cX5_copyTo 16 = .ok (.aload_n 1, 1) := by decide +kernel
theorem dX5_copyTo_17 : decode cX5_copyTo 17 = .ok (.aload_n 0, 1) := by decide +kernel
theorem dX5_copyTo_18 : decode cX5_copyTo 18 = .ok (.getfield 18, 3) := by decide +kernel
theorem dX5_copyTo_21 : decode cX5_copyTo 21 = .ok (.putfield 18, 3) := by decide +kernel
theorem dX5_copyTo_24 : decode cX5_copyTo 24 = .ok (.return_, 1) := by decide +kernel
theorem dX6_init_0 : decode cX6_init 0 = .ok (.aload_n 0, 1) := by decide +kernel
theorem dX6_init_1 : decode cX6_init 1 = .ok (.invokespecial 3, 3) := by decide +kernel
theorem dX6_init_4 : decode cX6_init 4 = .ok (.return_, 1) := by decide +kernel
theorem dX6_begin_0 : decode cX6_begin 0 = .ok (.aload_n 0, 1) := by decide +kernel
theorem dX6_begin_1 : decode cX6_begin 1 = .ok (.iload_n 1, 1) := by decide +kernel
theorem dX6_begin_2 : decode cX6_begin 2 = .ok (.i2l, 1) := by decide +kernel
theorem dX6_begin_3 : decode cX6_begin 3 = .ok (.putfield 9, 3) := by decide +kernel
theorem dX6_begin_6 : decode cX6_begin 6 = .ok (.aload_n 0, 1) := by decide +kernel
theorem dX6_begin_7 : decode cX6_begin 7 = .ok (.iload_n 2, 1) := by decide +kernel
theorem dX6_begin_8 : decode cX6_begin 8 = .ok (.i2l, 1) := by decide +kernel
theorem dX6_begin_9 : decode cX6_begin 9 = .ok (.putfield 15, 3) := by decide +kernel
theorem dX6_begin_12 : decode cX6_begin 12 = .ok (.aload_n 0, 1) := by decide +kernel
theorem dX6_begin_13 : decode cX6_begin 13 = .ok (.iload_n 3, 1) := by decide +kernel
theorem dX6_begin_14 : decode cX6_begin 14 = .ok (.i2l, 1) := by decide +kernel
theorem dX6_begin_15 : decode cX6_begin 15 = .ok (.putfield 18, 3) := by decide +kernel
theorem dX6_begin_18 : decode cX6_begin 18 = .ok (.aload_n 0, 1) := by decide +kernel
theorem dX6_begin_19 : decode cX6_begin 19 = .ok (.lconst 0, 1) := by decide +kernel
theorem dX6_begin_20 : decode cX6_begin 20 = .ok (.putfield 21, 3) := by decide +kernel
theorem dX6_begin_23 : decode cX6_begin 23 = .ok (.aload_n 0, 1) := by decide +kernel
theorem dX6_begin_24 : decode cX6_begin 24 = .ok (.iconst 0, 1) := by decide +kernel
theorem dX6_begin_25 : decode cX6_begin 25 = .ok (.putfield 24, 3) := by decide +kernel
theorem dX6_begin_28 : decode cX6_begin 28 = .ok (.return_, 1) := by decide +kernel
theorem dX6_depth_0 : decode cX6_depth 0 = .ok (.aload_n 0, 1) := by decide +kernel
theorem dX6_depth_1 : decode cX6_depth 1 = .ok (.getfield 18, 3) := by decide +kernel
theorem dX6_depth_4 : decode cX6_depth 4 = .ok (.aload_n 0, 1) := by decide +kernel
theorem dX6_depth_5 : decode cX6_depth 5 = .ok (.getfield 21, 3) := by decide +kernel
theorem dX6_depth_8 : decode cX6_depth 8 = .ok (.ladd, 1) := by decide +kernel
theorem dX6_depth_9 : decode cX6_depth 9 = .ok (.ldc2_w 28, 3) := by decide +kernel
theorem dX6_depth_12 : decode cX6_depth 12 = .ok (.lmul, 1) := by decide +kernel
theorem dX6_depth_13 : decode cX6_depth 13 = .ok (.aload_n 0, 1) := by decide +kernel
theorem dX6_depth_14 : decode cX6_depth 14 = .ok (.getfield 9, 3) := by decide +kernel
theorem dX6_depth_17 : decode cX6_depth 17 = .ok (.invokestatic 30, 3) := by decide +kernel
theorem dX6_depth_20 : decode cX6_depth 20 = .ok (.lreturn, 1) := by decide +kernel
theorem dX6_level_0 : decode cX6_level 0 = .ok (.aload_n 0, 1) := by decide +kernel
theorem dX6_level_1 : decode cX6_level 1 = .ok (.getfield 15, 3) := by decide +kernel
theorem dX6_level_4 : decode cX6_level 4 = .ok (.aload_n 0, 1) := by decide +kernel
theorem dX6_level_5 : decode cX6_level 5 = .ok (.invokevirtual 34, 3) := by decide +kernel
theorem dX6_level_8 : decode cX6_level 8 = .ok (.ladd, 1) := by decide +kernel
theorem dX6_level_9 : decode cX6_level 9 = .ok (.lreturn, 1) := by decide +kernel
theorem dX6_takeIn_0 : decode cX6_takeIn 0 = .ok (.aload_n 0, 1) := by decide +kernel
theorem dX6_takeIn_1 : decode cX6_takeIn 1 = .ok (.dup, 1) := by decide +kernel
theorem dX6_takeIn_2 : decode cX6_takeIn 2 = .ok (.getfield 21, 3) := by decide +kernel
theorem dX6_takeIn_5 : decode cX6_takeIn 5 = .ok (.iload_n 1, 1) := by decide +kernel
theorem dX6_takeIn_6 : decode cX6_takeIn 6 = .ok (.i2l, 1) := by decide +kernel
theorem dX6_takeIn_7 : decode cX6_takeIn 7 = .ok (.ladd, 1) := by decide +kernel
theorem dX6_takeIn_8 : decode cX6_takeIn 8 = .ok (.putfield 21, 3) := by decide +kernel
theorem dX6_takeIn_11 : decode cX6_takeIn 11 = .ok (.aload_n 0, 1) := by decide +kernel
theorem dX6_takeIn_12 : decode cX6_takeIn 12 = .ok (.dup, 1) := by decide +kernel
theorem dX6_takeIn_13 : decode cX6_takeIn 13 = .ok (.getfield 24, 3) := by decide +kernel
theorem dX6_takeIn_16 : decode cX6_takeIn 16 = .ok (.iconst 1, 1) := by decide +kernel
theorem dX6_takeIn_17 : decode cX6_takeIn 17 = .ok (.iadd, 1) := by decide +kernel
theorem dX6_takeIn_18 : decode cX6_takeIn 18 = .ok (.putfield 24, 3) := by decide +kernel
theorem dX6_takeIn_21 : decode cX6_takeIn 21 = .ok (.return_, 1) := by decide +kernel
theorem dX6_letOut_0 : decode cX6_letOut 0 = .ok (.aload_n 0, 1) := by decide +kernel
theorem dX6_letOut_1 : decode cX6_letOut 1 = .ok (.dup, 1) := by decide +kernel
theorem dX6_letOut_2 : decode cX6_letOut 2 = .ok (.getfield 21, 3) := by decide +kernel
theorem dX6_letOut_5 : decode cX6_letOut 5 = .ok (.iload_n 1, 1) := by decide +kernel
theorem dX6_letOut_6 : decode cX6_letOut 6 = .ok (.i2l, 1) := by decide +kernel
theorem dX6_letOut_7 : decode cX6_letOut 7 = .ok (.lsub, 1) := by decide +kernel
theorem dX6_letOut_8 : decode cX6_letOut 8 = .ok (.putfield 21, 3) := by decide +kernel
theorem dX6_letOut_11 : decode cX6_letOut 11 = .ok (.aload_n 0, 1) := by decide +kernel
theorem dX6_letOut_12 : decode cX6_letOut 12 = .ok (.dup, 1) := by decide +kernel
theorem dX6_letOut_13 : decode cX6_letOut 13 = .ok (.getfield 24, 3) := by decide +kernel
theorem dX6_letOut_16 : decode cX6_letOut 16 = .ok (.iconst 1, 1) := by decide +kernel
theorem dX6_letOut_17 : decode cX6_letOut 17 = .ok (.isub, 1) := by decide +kernel
theorem dX6_letOut_18 : decode cX6_letOut 18 = .ok (.putfield 24, 3) := by decide +kernel
theorem dX6_letOut_21 : decode cX6_letOut 21 = .ok (.return_, 1) := by decide +kernel
theorem dX6_flowFrom_0 : decode cX6_flowFrom 0 = .ok (.aload_n 0, 1) := by decide +kernel
theorem dX6_flowFrom_1 : decode cX6_flowFrom 1 = .ok (.getfield 18, 3) := by decide +kernel
theorem dX6_flowFrom_4 : decode cX6_flowFrom 4 = .ok (.aload_n 1, 1) := by decide +kernel
theorem dX6_flowFrom_5 : decode cX6_flowFrom 5 = .ok (.getfield 18, 3) := by decide +kernel
theorem dX6_flowFrom_8 : decode cX6_flowFrom 8 = .ok (.ladd, 1) := by decide +kernel
theorem dX6_flowFrom_9 : decode cX6_flowFrom 9 = .ok (.lstore_n 2, 1) := by decide +kernel
theorem dX6_flowFrom_10 : decode cX6_flowFrom 10 = .ok (.lload_n 2, 1) := by decide +kernel
theorem dX6_flowFrom_11 : decode cX6_flowFrom 11 = .ok (.aload_n 0, 1) := by decide +kernel
theorem dX6_flowFrom_12 : decode cX6_flowFrom 12 = .ok (.getfield 21, 3) := by decide +kernel
theorem dX6_flowFrom_15 : decode cX6_flowFrom 15 = .ok (.ladd, 1) := by decide +kernel
theorem dX6_flowFrom_16 : decode cX6_flowFrom 16 = .ok (.aload_n 1, 1) := by decide +kernel
theorem dX6_flowFrom_17 : decode cX6_flowFrom 17 = .ok (.getfield 21, 3) := by decide +kernel
theorem dX6_flowFrom_20 : decode cX6_flowFrom 20 = .ok (.ladd, 1) := by decide +kernel
theorem dX6_flowFrom_21 : decode cX6_flowFrom 21 = .ok (.lstore 4, 2) := by decide +kernel
theorem dX6_flowFrom_23 : decode cX6_flowFrom 23 = .ok (.aload_n 0, 1) := by decide +kernel
theorem dX6_flowFrom_24 : decode cX6_flowFrom 24 = .ok (.getfield 9, 3) := by decide +kernel
theorem dX6_flowFrom_27 : decode cX6_flowFrom 27 = .ok (.aload_n 0, 1) := by decide +kernel
theorem dX6_flowFrom_28 : decode cX6_flowFrom 28 = .ok (.getfield 15, 3) := by decide +kernel
theorem dX6_flowFrom_31 : decode cX6_flowFrom 31 = .ok (.lmul, 1) := by decide +kernel
theorem dX6_flowFrom_32 : decode cX6_flowFrom 32 = .ok (.aload_n 1, 1) := by decide +kernel
theorem dX6_flowFrom_33 : decode cX6_flowFrom 33 = .ok (.getfield 9, 3) := by decide +kernel
theorem dX6_flowFrom_36 : decode cX6_flowFrom 36 = .ok (.aload_n 1, 1) := by decide +kernel
theorem dX6_flowFrom_37 : decode cX6_flowFrom 37 = .ok (.getfield 15, 3) := by decide +kernel
theorem dX6_flowFrom_40 : decode cX6_flowFrom 40 = .ok (.lmul, 1) := by decide +kernel
theorem dX6_flowFrom_41 : decode cX6_flowFrom 41 = .ok (.ladd, 1) := by decide +kernel
theorem dX6_flowFrom_42 : decode cX6_flowFrom 42 = .ok (.lstore 6, 2) := by decide +kernel
theorem dX6_flowFrom_44 : decode cX6_flowFrom 44 = .ok (.lload 4, 2) := by decide +kernel
theorem dX6_flowFrom_46 : decode cX6_flowFrom 46 = .ok (.ldc2_w 28, 3) := by decide +kernel
theorem dX6_flowFrom_49 : decode cX6_flowFrom 49 = .ok (.lmul, 1) := by decide +kernel
theorem dX6_flowFrom_50 : decode cX6_flowFrom 50 = .ok (.lload 6, 2) := by decide +kernel
theorem dX6_flowFrom_52 : decode cX6_flowFrom 52 = .ok (.ladd, 1) := by decide +kernel
theorem dX6_flowFrom_53 : decode cX6_flowFrom 53 = .ok (.aload_n 0, 1) := by decide +kernel
theorem dX6_flowFrom_54 : decode cX6_flowFrom 54 = .ok (.getfield 9, 3) := by decide +kernel
theorem dX6_flowFrom_57 : decode cX6_flowFrom 57 = .ok (.aload_n 1, 1) := by decide +kernel
theorem dX6_flowFrom_58 : decode cX6_flowFrom 58 = .ok (.getfield 9, 3) := by decide +kernel
theorem dX6_flowFrom_61 : decode cX6_flowFrom 61 = .ok (.ladd, 1) := by decide +kernel
theorem dX6_flowFrom_62 : decode cX6_flowFrom 62 = .ok (.invokestatic 30, 3) := by decide +kernel
theorem dX6_flowFrom_65 : decode cX6_flowFrom 65 = .ok (.lstore 8, 2) := by decide +kernel
theorem dX6_flowFrom_67 : decode cX6_flowFrom 67 = .ok (.aload_n 0, 1) := by decide +kernel
theorem dX6_flowFrom_68 : decode cX6_flowFrom 68 = .ok (.getfield 9, 3) := by decide +kernel
theorem dX6_flowFrom_71 : decode cX6_flowFrom 71 = .ok (.lload 8, 2) := by decide +kernel
theorem dX6_flowFrom_73 : decode cX6_flowFrom 73 = .ok (.aload_n 0, 1) := by decide +kernel
theorem dX6_flowFrom_74 : decode cX6_flowFrom 74 = .ok (.getfield 15, 3) := by decide +kernel
theorem dX6_flowFrom_77 : decode cX6_flowFrom 77 = .ok (.lsub, 1) := by decide +kernel
theorem dX6_flowFrom_78 : decode cX6_flowFrom 78 = .ok (.lmul, 1) := by decide +kernel
theorem dX6_flowFrom_79 : decode cX6_flowFrom 79 = .ok (.ldc2_w 28, 3) := by decide +kernel
theorem dX6_flowFrom_82 : decode cX6_flowFrom 82 = .ok (.invokestatic 30, 3) := by decide +kernel
theorem dX6_flowFrom_85 : decode cX6_flowFrom 85 = .ok (.aload_n 0, 1) := by decide +kernel
theorem dX6_flowFrom_86 : decode cX6_flowFrom 86 = .ok (.getfield 21, 3) := by decide +kernel
theorem dX6_flowFrom_89 : decode cX6_flowFrom 89 = .ok (.lsub, 1) := by decide +kernel
theorem dX6_flowFrom_90 : decode cX6_flowFrom 90 = .ok (.lstore 10, 2) := by decide +kernel
theorem dX6_flowFrom_92 : decode cX6_flowFrom 92 = .ok (.lload 10, 2) := by decide +kernel
theorem dX6_flowFrom_94 : decode cX6_flowFrom 94 = .ok (.lconst 0, 1) := by decide +kernel
theorem dX6_flowFrom_95 : decode cX6_flowFrom 95 = .ok (.invokestatic 38, 3) := by decide +kernel
theorem dX6_flowFrom_98 : decode cX6_flowFrom 98 = .ok (.lload_n 2, 1) := by decide +kernel
theorem dX6_flowFrom_99 : decode cX6_flowFrom 99 = .ok (.invokestatic 43, 3) := by decide +kernel
theorem dX6_flowFrom_102 : decode cX6_flowFrom 102 = .ok (.aload_n 0, 1) := by decide +kernel
theorem dX6_flowFrom_103 : decode cX6_flowFrom 103 = .ok (.getfield 18, 3) := by decide +kernel
theorem dX6_flowFrom_106 : decode cX6_flowFrom 106 = .ok (.lsub, 1) := by decide +kernel
theorem dX6_flowFrom_107 : decode cX6_flowFrom 107 = .ok (.lreturn, 1) := by decide +kernel
theorem dX6_shareWith_0 : decode cX6_shareWith 0 = .ok (.aload_n 0, 1) := by decide +kernel
theorem dX6_shareWith_1 : decode cX6_shareWith 1 = .ok (.aload_n 1, 1) := by decide +kernel
theorem dX6_shareWith_2 : decode cX6_shareWith 2 = .ok (.invokevirtual 46, 3) := by decide +kernel
theorem dX6_shareWith_5 : decode cX6_shareWith 5 = .ok (.lstore_n 2, 1) := by decide +kernel
theorem dX6_shareWith_6 : decode cX6_shareWith 6 = .ok (.aload_n 0, 1) := by decide +kernel
theorem dX6_shareWith_7 : decode cX6_shareWith 7 = .ok (.dup, 1) := by decide +kernel
theorem dX6_shareWith_8 : decode cX6_shareWith 8 = .ok (.getfield 18, 3) := by decide +kernel
theorem dX6_shareWith_11 : decode cX6_shareWith 11 = .ok (.lload_n 2, 1) := by decide +kernel
theorem dX6_shareWith_12 : decode cX6_shareWith 12 = .ok (.ladd, 1) := by decide +kernel
theorem dX6_shareWith_13 : decode cX6_shareWith 13 = .ok (.putfield 18, 3) := by decide +kernel
theorem dX6_shareWith_16 : decode cX6_shareWith 16 = .ok (.aload_n 1, 1) := by decide +kernel
theorem dX6_shareWith_17 : decode cX6_shareWith 17 = .ok (.dup, 1) := by decide +kernel
theorem dX6_shareWith_18 : decode cX6_shareWith 18 = .ok (.getfield 18, 3) := by decide +kernel
theorem dX6_shareWith_21 : decode cX6_shareWith 21 = .ok (.lload_n 2, 1) := by decide +kernel
theorem dX6_shareWith_22 : decode cX6_shareWith 22 = .ok (.lsub, 1) := by decide +kernel
theorem dX6_shareWith_23 : decode cX6_shareWith 23 = .ok (.putfield 18, 3) := by decide +kernel
theorem dX6_shareWith_26 : decode cX6_shareWith 26 = .ok (.return_, 1) := by decide +kernel
theorem dX6_property_0 : decode cX6_property 0 = .ok (.iload_n 1, 1) := by decide +kernel
theorem dX6_property_1 : decode cX6_property 1 = .ok (.tableswitch 74 0 5 #[39, 45, 51, 57, 62, 68], 39) := by decide +kernel
theorem dX6_property_40 : decode cX6_property 40 = .ok (.aload_n 0, 1) := by decide +kernel
theorem dX6_property_41 : decode cX6_property 41 = .ok (.invokevirtual 50, 3) := by decide +kernel
theorem dX6_property_44 : decode cX6_property 44 = .ok (.l2i, 1) := by decide +kernel
theorem dX6_property_45 : decode cX6_property 45 = .ok (.ireturn, 1) := by decide +kernel
theorem dX6_property_46 : decode cX6_property 46 = .ok (.aload_n 0, 1) := by decide +kernel
theorem dX6_property_47 : decode cX6_property 47 = .ok (.getfield 18, 3) := by decide +kernel
theorem dX6_property_50 : decode cX6_property 50 = .ok (.l2i, 1) := by decide +kernel
theorem dX6_property_51 : decode cX6_property 51 = .ok (.ireturn, 1) := by decide +kernel
theorem dX6_property_52 : decode cX6_property 52 = .ok (.aload_n 0, 1) := by decide +kernel
theorem dX6_property_53 : decode cX6_property 53 = .ok (.getfield 21, 3) := by decide +kernel
theorem dX6_property_56 : decode cX6_property 56 = .ok (.l2i, 1) := by decide +kernel
theorem dX6_property_57 : decode cX6_property 57 = .ok (.ireturn, 1) := by decide +kernel
theorem dX6_property_58 : decode cX6_property 58 = .ok (.aload_n 0, 1) := by decide +kernel
theorem dX6_property_59 : decode cX6_property 59 = .ok (.getfield 24, 3) := by decide +kernel
theorem dX6_property_62 : decode cX6_property 62 = .ok (.ireturn, 1) := by decide +kernel
theorem dX6_property_63 : decode cX6_property 63 = .ok (.aload_n 0, 1) := by decide +kernel
theorem dX6_property_64 : decode cX6_property 64 = .ok (.getfield 9, 3) := by decide +kernel
theorem dX6_property_67 : decode cX6_property 67 = .ok (.l2i, 1) := by decide +kernel
theorem dX6_property_68 : decode cX6_property 68 = .ok (.ireturn, 1) := by decide +kernel
theorem dX6_property_69 : decode cX6_property 69 = .ok (.aload_n 0, 1) := by decide +kernel
theorem dX6_property_70 : decode cX6_property 70 = .ok (.getfield 15, 3) := by decide +kernel
theorem dX6_property_73 : decode cX6_property 73 = .ok (.l2i, 1) := by decide +kernel
theorem dX6_property_74 : decode cX6_property 74 = .ok (.ireturn, 1) := by decide +kernel
theorem dX6_property_75 : decode cX6_property 75 = .ok (.ldc 53, 2) := by decide +kernel
theorem dX6_property_77 : decode cX6_property 77 = .ok (.ireturn, 1) := by decide +kernel
theorem dX6_copyTo_0 : decode cX6_copyTo 0 = .ok (.aload_n 1, 1) := by decide +kernel
theorem dX6_copyTo_1 : decode cX6_copyTo 1 = .ok (.aload_n 0, 1) := by decide +kernel
theorem dX6_copyTo_2 : decode cX6_copyTo 2 = .ok (.getfield 9, 3) := by decide +kernel
theorem dX6_copyTo_5 : decode cX6_copyTo 5 = .ok (.putfield 9, 3) := by decide +kernel
theorem dX6_copyTo_8 : decode cX6_copyTo 8 = .ok (.aload_n 1, 1) := by decide +kernel
theorem dX6_copyTo_9 : decode cX6_copyTo 9 = .ok (.aload_n 0, 1) := by decide +kernel
theorem dX6_copyTo_10 : decode cX6_copyTo 10 = .ok (.getfield 15, 3) := by decide +kernel
theorem dX6_copyTo_13 : decode cX6_copyTo 13 = .ok (.putfield 15, 3) := by decide +kernel
theorem dX6_copyTo_16 : decode cX6_copyTo 16 = .ok (.aload_n 1, 1) := by decide +kernel
theorem dX6_copyTo_17 : decode cX6_copyTo 17 = .ok (.aload_n 0, 1) := by decide +kernel
theorem dX6_copyTo_18 : decode cX6_copyTo 18 = .ok (.getfield 18, 3) := by decide +kernel
theorem dX6_copyTo_21 : decode cX6_copyTo 21 = .ok (.putfield 18, 3) := by decide +kernel
theorem dX6_copyTo_24 : decode cX6_copyTo 24 = .ok (.aload_n 1, 1) := by decide +kernel
theorem dX6_copyTo_25 : decode cX6_copyTo 25 = .ok (.aload_n 0, 1) := by decide +kernel
theorem dX6_copyTo_26 : decode cX6_copyTo 26 = .ok (.getfield 21, 3) := by decide +kernel
theorem dX6_copyTo_29 : decode cX6_copyTo 29 = .ok (.putfield 21, 3) := by decide +kernel
theorem dX6_copyTo_32 : decode cX6_copyTo 32 = .ok (.aload_n 1, 1) := by decide +kernel
theorem dX6_copyTo_33 : decode cX6_copyTo 33 = .ok (.aload_n 0, 1) := by decide +kernel
theorem dX6_copyTo_34 : decode cX6_copyTo 34 = .ok (.getfield 24, 3) := by decide +kernel
theorem dX6_copyTo_37 : decode cX6_copyTo 37 = .ok (.putfield 24, 3) := by decide +kernel
theorem dX6_copyTo_40 : decode cX6_copyTo 40 = .ok (.return_, 1) := by decide +kernel
theorem dX7_init_0 : decode cX7_init 0 = .ok (.aload_n 0, 1) := by decide +kernel
theorem dX7_init_1 : decode cX7_init 1 = .ok (.invokespecial 1, 3) := by decide +kernel
theorem dX7_init_4 : decode cX7_init 4 = .ok (.aload_n 0, 1) := by decide +kernel
theorem dX7_init_5 : decode cX7_init 5 = .ok (.new 7, 3) := by decide +kernel
theorem dX7_init_8 : decode cX7_init 8 = .ok (.dup, 1) := by decide +kernel
theorem dX7_init_9 : decode cX7_init 9 = .ok (.invokespecial 9, 3) := by decide +kernel
theorem dX7_init_12 : decode cX7_init 12 = .ok (.putfield 10, 3) := by decide +kernel
theorem dX7_init_15 : decode cX7_init 15 = .ok (.aload_n 0, 1) := by decide +kernel
theorem dX7_init_16 : decode cX7_init 16 = .ok (.new 16, 3) := by decide +kernel
theorem dX7_init_19 : decode cX7_init 19 = .ok (.dup, 1) := by decide +kernel
theorem dX7_init_20 : decode cX7_init 20 = .ok (.invokespecial 18, 3) := by decide +kernel
theorem dX7_init_23 : decode cX7_init 23 = .ok (.putfield 19, 3) := by decide +kernel
theorem dX7_init_26 : decode cX7_init 26 = .ok (.aload_n 0, 1) := by decide +kernel
theorem dX7_init_27 : decode cX7_init 27 = .ok (.iconst 2, 1) := by decide +kernel
theorem dX7_init_28 : decode cX7_init 28 = .ok (.anewarray 7, 3) := by decide +kernel
theorem dX7_init_31 : decode cX7_init 31 = .ok (.putfield 23, 3) := by decide +kernel
theorem dX7_init_34 : decode cX7_init 34 = .ok (.aload_n 0, 1) := by decide +kernel
theorem dX7_init_35 : decode cX7_init 35 = .ok (.new 27, 3) := by decide +kernel
theorem dX7_init_38 : decode cX7_init 38 = .ok (.dup, 1) := by decide +kernel
theorem dX7_init_39 : decode cX7_init 39 = .ok (.invokespecial 29, 3) := by decide +kernel
theorem dX7_init_42 : decode cX7_init 42 = .ok (.putfield 30, 3) := by decide +kernel
theorem dX7_init_45 : decode cX7_init 45 = .ok (.aload_n 0, 1) := by decide +kernel
theorem dX7_init_46 : decode cX7_init 46 = .ok (.iconst 0, 1) := by decide +kernel
theorem dX7_init_47 : decode cX7_init 47 = .ok (.putfield 34, 3) := by decide +kernel
theorem dX7_init_50 : decode cX7_init 50 = .ok (.aload_n 0, 1) := by decide +kernel
theorem dX7_init_51 : decode cX7_init 51 = .ok (.iconst 0, 1) := by decide +kernel
theorem dX7_init_52 : decode cX7_init 52 = .ok (.putfield 38, 3) := by decide +kernel
theorem dX7_init_55 : decode cX7_init 55 = .ok (.return_, 1) := by decide +kernel
theorem dX7_addReach_0 : decode cX7_addReach 0 = .ok (.iload_n 1, 1) := by decide +kernel
theorem dX7_addReach_1 : decode cX7_addReach 1 = .ok (.iload_n 2, 1) := by decide +kernel
theorem dX7_addReach_2 : decode cX7_addReach 2 = .ok (.iload_n 3, 1) := by decide +kernel
theorem dX7_addReach_3 : decode cX7_addReach 3 = .ok (.invokestatic 42, 3) := by decide +kernel
theorem dX7_addReach_6 : decode cX7_addReach 6 = .ok (.ifCond .ne 6, 3) := by decide +kernel
theorem dX7_addReach_9 : decode cX7_addReach 9 = .ok (.ldc 46, 2) := by decide +kernel
theorem dX7_addReach_11 : decode cX7_addReach 11 = .ok (.ireturn, 1) := by decide +kernel
theorem dX7_addReach_12 : decode cX7_addReach 12 = .ok (.aload_n 0, 1) := by decide +kernel
theorem dX7_addReach_13 : decode cX7_addReach 13 = .ok (.getfield 10, 3) := by decide +kernel
theorem dX7_addReach_16 : decode cX7_addReach 16 = .ok (.getfield 47, 3) := by decide +kernel
theorem dX7_addReach_19 : decode cX7_addReach 19 = .ok (.ifCond .le 6, 3) := by decide +kernel
theorem dX7_addReach_22 : decode cX7_addReach 22 = .ok (.ldc 50, 2) := by decide +kernel
theorem dX7_addReach_24 : decode cX7_addReach 24 = .ok (.ireturn, 1) := by decide +kernel
theorem dX7_addReach_25 : decode cX7_addReach 25 = .ok (.aload_n 0, 1) := by decide +kernel
theorem dX7_addReach_26 : decode cX7_addReach 26 = .ok (.invokevirtual 51, 3) := by decide +kernel
theorem dX7_addReach_29 : decode cX7_addReach 29 = .ok (.aload_n 0, 1) := by decide +kernel
theorem dX7_addReach_30 : decode cX7_addReach 30 = .ok (.getfield 10, 3) := by decide +kernel
theorem dX7_addReach_33 : decode cX7_addReach 33 = .ok (.iload_n 1, 1) := by decide +kernel
theorem dX7_addReach_34 : decode cX7_addReach 34 = .ok (.iload_n 2, 1) := by decide +kernel
theorem dX7_addReach_35 : decode cX7_addReach 35 = .ok (.iload_n 3, 1) := by decide +kernel
theorem dX7_addReach_36 : decode cX7_addReach 36 = .ok (.invokevirtual 54, 3) := by decide +kernel
theorem dX7_addReach_39 : decode cX7_addReach 39 = .ok (.aload_n 0, 1) := by decide +kernel
theorem dX7_addReach_40 : decode cX7_addReach 40 = .ok (.getfield 10, 3) := by decide +kernel
theorem dX7_addReach_43 : decode cX7_addReach 43 = .ok (.invokevirtual 58, 3) := by decide +kernel
theorem dX7_addReach_46 : decode cX7_addReach 46 = .ok (.iconst 0, 1) := by decide +kernel
theorem dX7_addReach_47 : decode cX7_addReach 47 = .ok (.ireturn, 1) := by decide +kernel
theorem dX7_addChamber_0 : decode cX7_addChamber 0 = .ok (.iload_n 1, 1) := by decide +kernel
theorem dX7_addChamber_1 : decode cX7_addChamber 1 = .ok (.iload_n 3, 1) := by decide +kernel
theorem dX7_addChamber_2 : decode cX7_addChamber 2 = .ok (.invokestatic 61, 3) := by decide +kernel
theorem dX7_addChamber_5 : decode cX7_addChamber 5 = .ok (.ifCond .eq 15, 3) := by decide +kernel
theorem dX7_addChamber_8 : decode cX7_addChamber 8 = .ok (.iload_n 2, 1) := by decide +kernel
theorem dX7_addChamber_9 : decode cX7_addChamber 9 = .ok (.bipush 10, 2) := by decide +kernel
theorem dX7_addChamber_11 : decode cX7_addChamber 11 = .ok (.sipush 200, 3) := by decide +kernel
theorem dX7_addChamber_14 : decode cX7_addChamber 14 = .ok (.invokestatic 65, 3) := by decide +kernel
theorem dX7_addChamber_17 : decode cX7_addChamber 17 = .ok (.ifCond .ne 6, 3) := by decide +kernel
theorem dX7_addChamber_20 : decode cX7_addChamber 20 = .ok (.ldc 46, 2) := by decide +kernel
theorem dX7_addChamber_22 : decode cX7_addChamber 22 = .ok (.ireturn, 1) := by decide +kernel
theorem dX7_addChamber_23 : decode cX7_addChamber 23 = .ok (.iload 4, 2) := by decide +kernel
theorem dX7_addChamber_25 : decode cX7_addChamber 25 = .ok (.iload 5, 2) := by decide +kernel
theorem dX7_addChamber_27 : decode cX7_addChamber 27 = .ok (.iload 6, 2) := by decide +kernel
theorem dX7_addChamber_29 : decode cX7_addChamber 29 = .ok (.invokestatic 42, 3) := by decide +kernel
theorem dX7_addChamber_32 : decode cX7_addChamber 32 = .ok (.ifCond .ne 6, 3) := by decide +kernel
theorem dX7_addChamber_35 : decode cX7_addChamber 35 = .ok (.ldc 46, 2) := by decide +kernel
theorem dX7_addChamber_37 : decode cX7_addChamber 37 = .ok (.ireturn, 1) := by decide +kernel
theorem dX7_addChamber_38 : decode cX7_addChamber 38 = .ok (.aload_n 0, 1) := by decide +kernel
theorem dX7_addChamber_39 : decode cX7_addChamber 39 = .ok (.getfield 10, 3) := by decide +kernel
theorem dX7_addChamber_42 : decode cX7_addChamber 42 = .ok (.getfield 47, 3) := by decide +kernel
theorem dX7_addChamber_45 : decode cX7_addChamber 45 = .ok (.ifCond .eq 14, 3) := by decide +kernel
theorem dX7_addChamber_48 : decode cX7_addChamber 48 = .ok (.aload_n 0, 1) := by decide +kernel
theorem dX7_addChamber_49 : decode cX7_addChamber 49 = .ok (.getfield 10, 3) := by decide +kernel
theorem dX7_addChamber_52 : decode cX7_addChamber 52 = .ok (.getfield 68, 3) := by decide +kernel
theorem dX7_addChamber_55 : decode cX7_addChamber 55 = .ok (.iconst 4, 1) := by decide +kernel
theorem dX7_addChamber_56 : decode cX7_addChamber 56 = .ok (.if_icmp .lt 6, 3) := by decide +kernel
theorem dX7_addChamber_59 : decode cX7_addChamber 59 = .ok (.ldc 50, 2) := by decide +kernel
theorem dX7_addChamber_61 : decode cX7_addChamber 61 = .ok (.ireturn, 1) := by decide +kernel
theorem dX7_addChamber_62 : decode cX7_addChamber 62 = .ok (.aload_n 0, 1) := by decide +kernel
theorem dX7_addChamber_63 : decode cX7_addChamber 63 = .ok (.invokevirtual 51, 3) := by decide +kernel
theorem dX7_addChamber_66 : decode cX7_addChamber 66 = .ok (.aload_n 0, 1) := by decide +kernel
theorem dX7_addChamber_67 : decode cX7_addChamber 67 = .ok (.getfield 10, 3) := by decide +kernel
theorem dX7_addChamber_70 : decode cX7_addChamber 70 = .ok (.getfield 68, 3) := by decide +kernel
theorem dX7_addChamber_73 : decode cX7_addChamber 73 = .ok (.istore 7, 2) := by decide +kernel
theorem dX7_addChamber_75 : decode cX7_addChamber 75 = .ok (.aload_n 0, 1) := by decide +kernel
theorem dX7_addChamber_76 : decode cX7_addChamber 76 = .ok (.getfield 10, 3) := by decide +kernel
theorem dX7_addChamber_79 : decode cX7_addChamber 79 = .ok (.iload_n 1, 1) := by decide +kernel
theorem dX7_addChamber_80 : decode cX7_addChamber 80 = .ok (.iload_n 2, 1) := by decide +kernel
theorem dX7_addChamber_81 : decode cX7_addChamber 81 = .ok (.iload_n 3, 1) := by decide +kernel
theorem dX7_addChamber_82 : decode cX7_addChamber 82 = .ok (.invokevirtual 71, 3) := by decide +kernel
theorem dX7_addChamber_85 : decode cX7_addChamber 85 = .ok (.aload_n 0, 1) := by decide +kernel
theorem dX7_addChamber_86 : decode cX7_addChamber 86 = .ok (.getfield 10, 3) := by decide +kernel
theorem dX7_addChamber_89 : decode cX7_addChamber 89 = .ok (.iload 4, 2) := by decide +kernel
theorem dX7_addChamber_91 : decode cX7_addChamber 91 = .ok (.iload 5, 2) := by decide +kernel
theorem dX7_addChamber_93 : decode cX7_addChamber 93 = .ok (.iload 6, 2) := by decide +kernel
theorem dX7_addChamber_95 : decode cX7_addChamber 95 = .ok (.invokevirtual 54, 3) := by decide +kernel
theorem dX7_addChamber_98 : decode cX7_addChamber 98 = .ok (.aload_n 0, 1) := by decide +kernel
theorem dX7_addChamber_99 : decode cX7_addChamber 99 = .ok (.getfield 10, 3) := by decide +kernel
theorem dX7_addChamber_102 : decode cX7_addChamber 102 = .ok (.invokevirtual 58, 3) := by decide +kernel
theorem dX7_addChamber_105 : decode cX7_addChamber 105 = .ok (.iload 7, 2) := by decide +kernel
theorem dX7_addChamber_107 : decode cX7_addChamber 107 = .ok (.ireturn, 1) := by decide +kernel
theorem dX7_setSill_0 : decode cX7_setSill 0 = .ok (.aload_n 0, 1) := by decide +kernel
theorem dX7_setSill_1 : decode cX7_setSill 1 = .ok (.getfield 10, 3) := by decide +kernel
theorem dX7_setSill_4 : decode cX7_setSill 4 = .ok (.iload_n 1, 1) := by decide +kernel
theorem dX7_setSill_5 : decode cX7_setSill 5 = .ok (.iload_n 2, 1) := by decide +kernel
theorem dX7_setSill_6 : decode cX7_setSill 6 = .ok (.invokevirtual 74, 3) := by decide +kernel
theorem dX7_setSill_9 : decode cX7_setSill 9 = .ok (.astore 4, 2) := by decide +kernel
theorem dX7_setSill_11 : decode cX7_setSill 11 = .ok (.aload 4, 2) := by decide +kernel
theorem dX7_setSill_13 : decode cX7_setSill 13 = .ok (.ifnonnull 6, 3) := by decide +kernel
theorem dX7_setSill_16 : decode cX7_setSill 16 = .ok (.ldc 78, 2) := by decide +kernel
theorem dX7_setSill_18 : decode cX7_setSill 18 = .ok (.ireturn, 1) := by decide +kernel
theorem dX7_setSill_19 : decode cX7_setSill 19 = .ok (.iload_n 3, 1) := by decide +kernel
theorem dX7_setSill_20 : decode cX7_setSill 20 = .ok (.iconst 0, 1) := by decide +kernel
theorem dX7_setSill_21 : decode cX7_setSill 21 = .ok (.sipush 5000, 3) := by decide +kernel
theorem dX7_setSill_24 : decode cX7_setSill 24 = .ok (.invokestatic 65, 3) := by decide +kernel
theorem dX7_setSill_27 : decode cX7_setSill 27 = .ok (.ifCond .ne 6, 3) := by decide +kernel
theorem dX7_setSill_30 : decode cX7_setSill 30 = .ok (.ldc 46, 2) := by decide +kernel
theorem dX7_setSill_32 : decode cX7_setSill 32 = .ok (.ireturn, 1) := by decide +kernel
theorem dX7_setSill_33 : decode cX7_setSill 33 = .ok (.aload_n 0, 1) := by decide +kernel
theorem dX7_setSill_34 : decode cX7_setSill 34 = .ok (.invokevirtual 51, 3) := by decide +kernel
theorem dX7_setSill_37 : decode cX7_setSill 37 = .ok (.aload 4, 2) := by decide +kernel
theorem dX7_setSill_39 : decode cX7_setSill 39 = .ok (.getfield 79, 3) := by decide +kernel
theorem dX7_setSill_42 : decode cX7_setSill 42 = .ok (.istore 5, 2) := by decide +kernel
theorem dX7_setSill_44 : decode cX7_setSill 44 = .ok (.aload 4, 2) := by decide +kernel
theorem dX7_setSill_46 : decode cX7_setSill 46 = .ok (.iload_n 3, 1) := by decide +kernel
theorem dX7_setSill_47 : decode cX7_setSill 47 = .ok (.putfield 79, 3) := by decide +kernel
theorem dX7_setSill_50 : decode cX7_setSill 50 = .ok (.aload_n 0, 1) := by decide +kernel
theorem dX7_setSill_51 : decode cX7_setSill 51 = .ok (.getfield 10, 3) := by decide +kernel
theorem dX7_setSill_54 : decode cX7_setSill 54 = .ok (.invokevirtual 58, 3) := by decide +kernel
theorem dX7_setSill_57 : decode cX7_setSill 57 = .ok (.iload 5, 2) := by decide +kernel
theorem dX7_setSill_59 : decode cX7_setSill 59 = .ok (.ireturn, 1) := by decide +kernel
theorem dX7_setClearance_0 : decode cX7_setClearance 0 = .ok (.iload_n 1, 1) := by decide +kernel
theorem dX7_setClearance_1 : decode cX7_setClearance 1 = .ok (.iconst 0, 1) := by decide +kernel
theorem dX7_setClearance_2 : decode cX7_setClearance 2 = .ok (.bipush 50, 2) := by decide +kernel
theorem dX7_setClearance_4 : decode cX7_setClearance 4 = .ok (.invokestatic 65, 3) := by decide +kernel
theorem dX7_setClearance_7 : decode cX7_setClearance 7 = .ok (.ifCond .ne 6, 3) := by decide +kernel
theorem dX7_setClearance_10 : decode cX7_setClearance 10 = .ok (.ldc 46, 2) := by decide +kernel
theorem dX7_setClearance_12 : decode cX7_setClearance 12 = .ok (.ireturn, 1) := by decide +kernel
theorem dX7_setClearance_13 : decode cX7_setClearance 13 = .ok (.aload_n 0, 1) := by decide +kernel
theorem dX7_setClearance_14 : decode cX7_setClearance 14 = .ok (.invokevirtual 51, 3) := by decide +kernel
theorem dX7_setClearance_17 : decode cX7_setClearance 17 = .ok (.aload_n 0, 1) := by decide +kernel
theorem dX7_setClearance_18 : decode cX7_setClearance 18 = .ok (.getfield 10, 3) := by decide +kernel
theorem dX7_setClearance_21 : decode cX7_setClearance 21 = .ok (.getfield 84, 3) := by decide +kernel
theorem dX7_setClearance_24 : decode cX7_setClearance 24 = .ok (.istore_n 2, 1) := by decide +kernel
theorem dX7_setClearance_25 : decode cX7_setClearance 25 = .ok (.aload_n 0, 1) := by decide +kernel
theorem dX7_setClearance_26 : decode cX7_setClearance 26 = .ok (.getfield 10, 3) := by decide +kernel
theorem dX7_setClearance_29 : decode cX7_setClearance 29 = .ok (.iload_n 1, 1) := by decide +kernel
theorem dX7_setClearance_30 : decode cX7_setClearance 30 = .ok (.putfield 84, 3) := by decide +kernel
theorem dX7_setClearance_33 : decode cX7_setClearance 33 = .ok (.aload_n 0, 1) := by decide +kernel
theorem dX7_setClearance_34 : decode cX7_setClearance 34 = .ok (.getfield 10, 3) := by decide +kernel
theorem dX7_setClearance_37 : decode cX7_setClearance 37 = .ok (.invokevirtual 58, 3) := by decide +kernel
theorem dX7_setClearance_40 : decode cX7_setClearance 40 = .ok (.iload_n 2, 1) := by decide +kernel
theorem dX7_setClearance_41 : decode cX7_setClearance 41 = .ok (.ireturn, 1) := by decide +kernel
theorem dX7_dredge_0 : decode cX7_dredge 0 = .ok (.aload_n 0, 1) := by decide +kernel
theorem dX7_dredge_1 : decode cX7_dredge 1 = .ok (.getfield 10, 3) := by decide +kernel
theorem dX7_dredge_4 : decode cX7_dredge 4 = .ok (.iload_n 1, 1) := by decide +kernel
theorem dX7_dredge_5 : decode cX7_dredge 5 = .ok (.iload_n 2, 1) := by decide +kernel
theorem dX7_dredge_6 : decode cX7_dredge 6 = .ok (.invokevirtual 74, 3) := by decide +kernel
theorem dX7_dredge_9 : decode cX7_dredge 9 = .ok (.astore_n 3, 1) := by decide +kernel
theorem dX7_dredge_10 : decode cX7_dredge 10 = .ok (.aload_n 3, 1) := by decide +kernel
theorem dX7_dredge_11 : decode cX7_dredge 11 = .ok (.ifnonnull 6, 3) := by decide +kernel
theorem dX7_dredge_14 : decode cX7_dredge 14 = .ok (.ldc 78, 2) := by decide +kernel
theorem dX7_dredge_16 : decode cX7_dredge 16 = .ok (.ireturn, 1) := by decide +kernel
theorem dX7_dredge_17 : decode cX7_dredge 17 = .ok (.aload_n 3, 1) := by decide +kernel
theorem dX7_dredge_18 : decode cX7_dredge 18 = .ok (.getfield 87, 3) := by decide +kernel
theorem dX7_dredge_21 : decode cX7_dredge 21 = .ok (.ifCond .ne 6, 3) := by decide +kernel
theorem dX7_dredge_24 : decode cX7_dredge 24 = .ok (.ldc 90, 2) := by decide +kernel
theorem dX7_dredge_26 : decode cX7_dredge 26 = .ok (.ireturn, 1) := by decide +kernel
theorem dX7_dredge_27 : decode cX7_dredge 27 = .ok (.aload_n 0, 1) := by decide +kernel
theorem dX7_dredge_28 : decode cX7_dredge 28 = .ok (.invokevirtual 51, 3) := by decide +kernel
theorem dX7_dredge_31 : decode cX7_dredge 31 = .ok (.aload_n 3, 1) := by decide +kernel
theorem dX7_dredge_32 : decode cX7_dredge 32 = .ok (.getfield 87, 3) := by decide +kernel
theorem dX7_dredge_35 : decode cX7_dredge 35 = .ok (.istore 4, 2) := by decide +kernel
theorem dX7_dredge_37 : decode cX7_dredge 37 = .ok (.aload_n 3, 1) := by decide +kernel
theorem dX7_dredge_38 : decode cX7_dredge 38 = .ok (.iconst 0, 1) := by decide +kernel
theorem dX7_dredge_39 : decode cX7_dredge 39 = .ok (.putfield 87, 3) := by decide +kernel
theorem dX7_dredge_42 : decode cX7_dredge 42 = .ok (.aload_n 0, 1) := by decide +kernel
theorem dX7_dredge_43 : decode cX7_dredge 43 = .ok (.getfield 10, 3) := by decide +kernel
theorem dX7_dredge_46 : decode cX7_dredge 46 = .ok (.invokevirtual 58, 3) := by decide +kernel
theorem dX7_dredge_49 : decode cX7_dredge 49 = .ok (.iload 4, 2) := by decide +kernel
theorem dX7_dredge_51 : decode cX7_dredge 51 = .ok (.ireturn, 1) := by decide +kernel
theorem dX7_supply_0 : decode cX7_supply 0 = .ok (.aload_n 0, 1) := by decide +kernel
theorem dX7_supply_1 : decode cX7_supply 1 = .ok (.getfield 10, 3) := by decide +kernel
theorem dX7_supply_4 : decode cX7_supply 4 = .ok (.iload_n 1, 1) := by decide +kernel
theorem dX7_supply_5 : decode cX7_supply 5 = .ok (.invokevirtual 91, 3) := by decide +kernel
theorem dX7_supply_8 : decode cX7_supply 8 = .ok (.astore_n 3, 1) := by decide +kernel
theorem dX7_supply_9 : decode cX7_supply 9 = .ok (.aload_n 3, 1) := by decide +kernel
theorem dX7_supply_10 : decode cX7_supply 10 = .ok (.ifnonnull 6, 3) := by decide +kernel
theorem dX7_supply_13 : decode cX7_supply 13 = .ok (.ldc 78, 2) := by decide +kernel
theorem dX7_supply_15 : decode cX7_supply 15 = .ok (.ireturn, 1) := by decide +kernel
theorem dX7_supply_16 : decode cX7_supply 16 = .ok (.iload_n 2, 1) := by decide +kernel
theorem dX7_supply_17 : decode cX7_supply 17 = .ok (.ldc 95, 2) := by decide +kernel
theorem dX7_supply_19 : decode cX7_supply 19 = .ok (.ldc 96, 2) := by decide +kernel
theorem dX7_supply_21 : decode cX7_supply 21 = .ok (.invokestatic 65, 3) := by decide +kernel
theorem dX7_supply_24 : decode cX7_supply 24 = .ok (.ifCond .ne 6, 3) := by decide +kernel
theorem dX7_supply_27 : decode cX7_supply 27 = .ok (.ldc 46, 2) := by decide +kernel
theorem dX7_supply_29 : decode cX7_supply 29 = .ok (.ireturn, 1) := by decide +kernel
theorem dX7_supply_30 : decode cX7_supply 30 = .ok (.aload_n 3, 1) := by decide +kernel
theorem dX7_supply_31 : decode cX7_supply 31 = .ok (.getfield 97, 3) := by decide +kernel
theorem dX7_supply_34 : decode cX7_supply 34 = .ok (.iload_n 2, 1) := by decide +kernel
theorem dX7_supply_35 : decode cX7_supply 35 = .ok (.i2l, 1) := by decide +kernel
theorem dX7_supply_36 : decode cX7_supply 36 = .ok (.ladd, 1) := by decide +kernel
theorem dX7_supply_37 : decode cX7_supply 37 = .ok (.lstore 4, 2) := by decide +kernel
theorem dX7_supply_39 : decode cX7_supply 39 = .ok (.lload 4, 2) := by decide +kernel
theorem dX7_supply_41 : decode cX7_supply 41 = .ok (.lconst 0, 1) := by decide +kernel
theorem dX7_supply_42 : decode cX7_supply 42 = .ok (.lcmp, 1) := by decide +kernel
theorem dX7_supply_43 : decode cX7_supply 43 = .ok (.ifCond .lt 12, 3) := by decide +kernel
theorem dX7_supply_46 : decode cX7_supply 46 = .ok (.lload 4, 2) := by decide +kernel
theorem dX7_supply_48 : decode cX7_supply 48 = .ok (.ldc2_w 103, 3) := by decide +kernel
theorem dX7_supply_51 : decode cX7_supply 51 = .ok (.lcmp, 1) := by decide +kernel
theorem dX7_supply_52 : decode cX7_supply 52 = .ok (.ifCond .le 10, 3) := by decide +kernel
theorem dX7_supply_55 : decode cX7_supply 55 = .ok (.aload_n 0, 1) := by decide +kernel
theorem dX7_supply_56 : decode cX7_supply 56 = .ok (.bipush 8, 2) := by decide +kernel
theorem dX7_supply_58 : decode cX7_supply 58 = .ok (.invokevirtual 105, 3) := by decide +kernel
theorem dX7_supply_61 : decode cX7_supply 61 = .ok (.ireturn, 1) := by decide +kernel
theorem dX7_supply_62 : decode cX7_supply 62 = .ok (.aload_n 0, 1) := by decide +kernel
theorem dX7_supply_63 : decode cX7_supply 63 = .ok (.invokevirtual 51, 3) := by decide +kernel
theorem dX7_supply_66 : decode cX7_supply 66 = .ok (.aload_n 3, 1) := by decide +kernel
theorem dX7_supply_67 : decode cX7_supply 67 = .ok (.lload 4, 2) := by decide +kernel
theorem dX7_supply_69 : decode cX7_supply 69 = .ok (.putfield 97, 3) := by decide +kernel
theorem dX7_supply_72 : decode cX7_supply 72 = .ok (.aload_n 0, 1) := by decide +kernel
theorem dX7_supply_73 : decode cX7_supply 73 = .ok (.getfield 10, 3) := by decide +kernel
theorem dX7_supply_76 : decode cX7_supply 76 = .ok (.dup, 1) := by decide +kernel
theorem dX7_supply_77 : decode cX7_supply 77 = .ok (.getfield 109, 3) := by decide +kernel
theorem dX7_supply_80 : decode cX7_supply 80 = .ok (.iload_n 2, 1) := by decide +kernel
theorem dX7_supply_81 : decode cX7_supply 81 = .ok (.i2l, 1) := by decide +kernel
theorem dX7_supply_82 : decode cX7_supply 82 = .ok (.ladd, 1) := by decide +kernel
theorem dX7_supply_83 : decode cX7_supply 83 = .ok (.putfield 109, 3) := by decide +kernel
theorem dX7_supply_86 : decode cX7_supply 86 = .ok (.aload_n 0, 1) := by decide +kernel
theorem dX7_supply_87 : decode cX7_supply 87 = .ok (.getfield 10, 3) := by decide +kernel
theorem dX7_supply_90 : decode cX7_supply 90 = .ok (.invokevirtual 58, 3) := by decide +kernel
theorem dX7_supply_93 : decode cX7_supply 93 = .ok (.aload_n 3, 1) := by decide +kernel
theorem dX7_supply_94 : decode cX7_supply 94 = .ok (.invokevirtual 112, 3) := by decide +kernel
theorem dX7_supply_97 : decode cX7_supply 97 = .ok (.l2i, 1) := by decide +kernel
theorem dX7_supply_98 : decode cX7_supply 98 = .ok (.ireturn, 1) := by decide +kernel
theorem dX7_addBarge_0 : decode cX7_addBarge 0 = .ok (.aload_n 0, 1) := by decide +kernel
theorem dX7_addBarge_1 : decode cX7_addBarge 1 = .ok (.getfield 10, 3) := by decide +kernel
theorem dX7_addBarge_4 : decode cX7_addBarge 4 = .ok (.iload_n 1, 1) := by decide +kernel
theorem dX7_addBarge_5 : decode cX7_addBarge 5 = .ok (.invokevirtual 91, 3) := by decide +kernel
theorem dX7_addBarge_8 : decode cX7_addBarge 8 = .ok (.ifnonnull 6, 3) := by decide +kernel
theorem dX7_addBarge_11 : decode cX7_addBarge 11 = .ok (.ldc 78, 2) := by decide +kernel
theorem dX7_addBarge_13 : decode cX7_addBarge 13 = .ok (.ireturn, 1) := by decide +kernel
theorem dX7_addBarge_14 : decode cX7_addBarge 14 = .ok (.iload_n 2, 1) := by decide +kernel
theorem dX7_addBarge_15 : decode cX7_addBarge 15 = .ok (.iconst 5, 1) := by decide +kernel
theorem dX7_addBarge_16 : decode cX7_addBarge 16 = .ok (.bipush 60, 2) := by decide +kernel
theorem dX7_addBarge_18 : decode cX7_addBarge 18 = .ok (.invokestatic 65, 3) := by decide +kernel
theorem dX7_addBarge_21 : decode cX7_addBarge 21 = .ok (.ifCond .eq 15, 3) := by decide +kernel
theorem dX7_addBarge_24 : decode cX7_addBarge 24 = .ok (.iload_n 3, 1) := by decide +kernel
theorem dX7_addBarge_25 : decode cX7_addBarge 25 = .ok (.bipush 10, 2) := by decide +kernel
theorem dX7_addBarge_27 : decode cX7_addBarge 27 = .ok (.sipush 500, 3) := by decide +kernel
theorem dX7_addBarge_30 : decode cX7_addBarge 30 = .ok (.invokestatic 65, 3) := by decide +kernel
theorem dX7_addBarge_33 : decode cX7_addBarge 33 = .ok (.ifCond .ne 6, 3) := by decide +kernel
theorem dX7_addBarge_36 : decode cX7_addBarge 36 = .ok (.ldc 46, 2) := by decide +kernel
theorem dX7_addBarge_38 : decode cX7_addBarge 38 = .ok (.ireturn, 1) := by decide +kernel
theorem dX7_addBarge_39 : decode cX7_addBarge 39 = .ok (.iload 4, 2) := by decide +kernel
theorem dX7_addBarge_41 : decode cX7_addBarge 41 = .ok (.iconst 1, 1) := by decide +kernel
theorem dX7_addBarge_42 : decode cX7_addBarge 42 = .ok (.bipush 20, 2) := by decide +kernel
theorem dX7_addBarge_44 : decode cX7_addBarge 44 = .ok (.invokestatic 65, 3) := by decide +kernel
theorem dX7_addBarge_47 : decode cX7_addBarge 47 = .ok (.ifCond .eq 16, 3) := by decide +kernel
theorem dX7_addBarge_50 : decode cX7_addBarge 50 = .ok (.iload 5, 2) := by decide +kernel
theorem dX7_addBarge_52 : decode cX7_addBarge 52 = .ok (.bipush 10, 2) := by decide +kernel
theorem dX7_addBarge_54 : decode cX7_addBarge 54 = .ok (.sipush 1000, 3) := by decide +kernel
theorem dX7_addBarge_57 : decode cX7_addBarge 57 = .ok (.invokestatic 65, 3) := by decide +kernel
theorem dX7_addBarge_60 : decode cX7_addBarge 60 = .ok (.ifCond .ne 6, 3) := by decide +kernel
theorem dX7_addBarge_63 : decode cX7_addBarge 63 = .ok (.ldc 46, 2) := by decide +kernel
theorem dX7_addBarge_65 : decode cX7_addBarge 65 = .ok (.ireturn, 1) := by decide +kernel
theorem dX7_addBarge_66 : decode cX7_addBarge 66 = .ok (.aload_n 0, 1) := by decide +kernel
theorem dX7_addBarge_67 : decode cX7_addBarge 67 = .ok (.getfield 10, 3) := by decide +kernel
theorem dX7_addBarge_70 : decode cX7_addBarge 70 = .ok (.getfield 116, 3) := by decide +kernel
theorem dX7_addBarge_73 : decode cX7_addBarge 73 = .ok (.bipush 12, 2) := by decide +kernel
theorem dX7_addBarge_75 : decode cX7_addBarge 75 = .ok (.if_icmp .lt 6, 3) := by decide +kernel
theorem dX7_addBarge_78 : decode cX7_addBarge 78 = .ok (.ldc 50, 2) := by decide +kernel
theorem dX7_addBarge_80 : decode cX7_addBarge 80 = .ok (.ireturn, 1) := by decide +kernel
theorem dX7_addBarge_81 : decode cX7_addBarge 81 = .ok (.aload_n 0, 1) := by decide +kernel
theorem dX7_addBarge_82 : decode cX7_addBarge 82 = .ok (.invokevirtual 51, 3) := by decide +kernel
theorem dX7_addBarge_85 : decode cX7_addBarge 85 = .ok (.aload_n 0, 1) := by decide +kernel
theorem dX7_addBarge_86 : decode cX7_addBarge 86 = .ok (.getfield 10, 3) := by decide +kernel
theorem dX7_addBarge_89 : decode cX7_addBarge 89 = .ok (.getfield 116, 3) := by decide +kernel
theorem dX7_addBarge_92 : decode cX7_addBarge 92 = .ok (.istore 6, 2) := by decide +kernel
theorem dX7_addBarge_94 : decode cX7_addBarge 94 = .ok (.aload_n 0, 1) := by decide +kernel
theorem dX7_addBarge_95 : decode cX7_addBarge 95 = .ok (.getfield 10, 3) := by decide +kernel
theorem dX7_addBarge_98 : decode cX7_addBarge 98 = .ok (.iload_n 1, 1) := by decide +kernel
theorem dX7_addBarge_99 : decode cX7_addBarge 99 = .ok (.iload_n 2, 1) := by decide +kernel
theorem dX7_addBarge_100 : decode cX7_addBarge 100 = .ok (.iload_n 3, 1) := by decide +kernel
theorem dX7_addBarge_101 : decode cX7_addBarge 101 = .ok (.iload 4, 2) := by decide +kernel
theorem dX7_addBarge_103 : decode cX7_addBarge 103 = .ok (.iload 5, 2) := by decide +kernel
theorem dX7_addBarge_105 : decode cX7_addBarge 105 = .ok (.invokevirtual 119, 3) := by decide +kernel
theorem dX7_addBarge_108 : decode cX7_addBarge 108 = .ok (.aload_n 0, 1) := by decide +kernel
theorem dX7_addBarge_109 : decode cX7_addBarge 109 = .ok (.getfield 10, 3) := by decide +kernel
theorem dX7_addBarge_112 : decode cX7_addBarge 112 = .ok (.invokevirtual 58, 3) := by decide +kernel
theorem dX7_addBarge_115 : decode cX7_addBarge 115 = .ok (.iload 6, 2) := by decide +kernel
theorem dX7_addBarge_117 : decode cX7_addBarge 117 = .ok (.ireturn, 1) := by decide +kernel
theorem dX7_load_0 : decode cX7_load 0 = .ok (.aload_n 0, 1) := by decide +kernel
theorem dX7_load_1 : decode cX7_load 1 = .ok (.getfield 10, 3) := by decide +kernel
theorem dX7_load_4 : decode cX7_load 4 = .ok (.iload_n 1, 1) := by decide +kernel
theorem dX7_load_5 : decode cX7_load 5 = .ok (.invokevirtual 123, 3) := by decide +kernel
theorem dX7_load_8 : decode cX7_load 8 = .ok (.astore_n 3, 1) := by decide +kernel
theorem dX7_load_9 : decode cX7_load 9 = .ok (.aload_n 3, 1) := by decide +kernel
theorem dX7_load_10 : decode cX7_load 10 = .ok (.ifnonnull 6, 3) := by decide +kernel
theorem dX7_load_13 : decode cX7_load 13 = .ok (.ldc 78, 2) := by decide +kernel
theorem dX7_load_15 : decode cX7_load 15 = .ok (.ireturn, 1) := by decide +kernel
theorem dX7_load_16 : decode cX7_load 16 = .ok (.iload_n 2, 1) := by decide +kernel
theorem dX7_load_17 : decode cX7_load 17 = .ok (.invokestatic 127, 3) := by decide +kernel
theorem dX7_load_20 : decode cX7_load 20 = .ok (.ifCond .ne 6, 3) := by decide +kernel
theorem dX7_load_23 : decode cX7_load 23 = .ok (.ldc 46, 2) := by decide +kernel
theorem dX7_load_25 : decode cX7_load 25 = .ok (.ireturn, 1) := by decide +kernel
theorem dX7_load_26 : decode cX7_load 26 = .ok (.aload_n 0, 1) := by decide +kernel
theorem dX7_load_27 : decode cX7_load 27 = .ok (.getfield 10, 3) := by decide +kernel
theorem dX7_load_30 : decode cX7_load 30 = .ok (.aload_n 3, 1) := by decide +kernel
theorem dX7_load_31 : decode cX7_load 31 = .ok (.getfield 131, 3) := by decide +kernel
theorem dX7_load_34 : decode cX7_load 34 = .ok (.invokevirtual 136, 3) := by decide +kernel
theorem dX7_load_37 : decode cX7_load 37 = .ok (.astore 4, 2) := by decide +kernel
theorem dX7_load_39 : decode cX7_load 39 = .ok (.aload 4, 2) := by decide +kernel
theorem dX7_load_41 : decode cX7_load 41 = .ok (.ifnull 10, 3) := by decide +kernel
theorem dX7_load_44 : decode cX7_load 44 = .ok (.aload_n 3, 1) := by decide +kernel
theorem dX7_load_45 : decode cX7_load 45 = .ok (.invokevirtual 139, 3) := by decide +kernel
theorem dX7_load_48 : decode cX7_load 48 = .ok (.ifCond .eq 9, 3) := by decide +kernel
theorem dX7_load_51 : decode cX7_load 51 = .ok (.aload_n 0, 1) := by decide +kernel
theorem dX7_load_52 : decode cX7_load 52 = .ok (.iconst 4, 1) := by decide +kernel
theorem dX7_load_53 : decode cX7_load 53 = .ok (.invokevirtual 105, 3) := by decide +kernel
theorem dX7_load_56 : decode cX7_load 56 = .ok (.ireturn, 1) := by decide +kernel
theorem dX7_load_57 : decode cX7_load 57 = .ok (.aload_n 3, 1) := by decide +kernel
theorem dX7_load_58 : decode cX7_load 58 = .ok (.getfield 143, 3) := by decide +kernel
theorem dX7_load_61 : decode cX7_load 61 = .ok (.iload_n 2, 1) := by decide +kernel
theorem dX7_load_62 : decode cX7_load 62 = .ok (.iadd, 1) := by decide +kernel
theorem dX7_load_63 : decode cX7_load 63 = .ok (.ifCond .lt 11, 3) := by decide +kernel
theorem dX7_load_66 : decode cX7_load 66 = .ok (.iload_n 2, 1) := by decide +kernel
theorem dX7_load_67 : decode cX7_load 67 = .ok (.aload_n 3, 1) := by decide +kernel
theorem dX7_load_68 : decode cX7_load 68 = .ok (.invokevirtual 146, 3) := by decide +kernel
theorem dX7_load_71 : decode cX7_load 71 = .ok (.if_icmp .le 10, 3) := by decide +kernel
theorem dX7_load_74 : decode cX7_load 74 = .ok (.aload_n 0, 1) := by decide +kernel
theorem dX7_load_75 : decode cX7_load 75 = .ok (.bipush 8, 2) := by decide +kernel
theorem dX7_load_77 : decode cX7_load 77 = .ok (.invokevirtual 105, 3) := by decide +kernel
theorem dX7_load_80 : decode cX7_load 80 = .ok (.ireturn, 1) := by decide +kernel
theorem dX7_load_81 : decode cX7_load 81 = .ok (.aload_n 0, 1) := by decide +kernel
theorem dX7_load_82 : decode cX7_load 82 = .ok (.invokevirtual 51, 3) := by decide +kernel
theorem dX7_load_85 : decode cX7_load 85 = .ok (.aload_n 3, 1) := by decide +kernel
theorem dX7_load_86 : decode cX7_load 86 = .ok (.dup, 1) := by decide +kernel
theorem dX7_load_87 : decode cX7_load 87 = .ok (.getfield 143, 3) := by decide +kernel
theorem dX7_load_90 : decode cX7_load 90 = .ok (.iload_n 2, 1) := by decide +kernel
theorem dX7_load_91 : decode cX7_load 91 = .ok (.iadd, 1) := by decide +kernel
theorem dX7_load_92 : decode cX7_load 92 = .ok (.putfield 143, 3) := by decide +kernel
theorem dX7_load_95 : decode cX7_load 95 = .ok (.aload 4, 2) := by decide +kernel
theorem dX7_load_97 : decode cX7_load 97 = .ok (.dup, 1) := by decide +kernel
theorem dX7_load_98 : decode cX7_load 98 = .ok (.getfield 150, 3) := by decide +kernel
theorem dX7_load_101 : decode cX7_load 101 = .ok (.iload_n 2, 1) := by decide +kernel
theorem dX7_load_102 : decode cX7_load 102 = .ok (.i2l, 1) := by decide +kernel
theorem dX7_load_103 : decode cX7_load 103 = .ok (.ladd, 1) := by decide +kernel
theorem dX7_load_104 : decode cX7_load 104 = .ok (.putfield 150, 3) := by decide +kernel
theorem dX7_load_107 : decode cX7_load 107 = .ok (.aload_n 0, 1) := by decide +kernel
theorem dX7_load_108 : decode cX7_load 108 = .ok (.getfield 10, 3) := by decide +kernel
theorem dX7_load_111 : decode cX7_load 111 = .ok (.invokevirtual 58, 3) := by decide +kernel
theorem dX7_load_114 : decode cX7_load 114 = .ok (.aload_n 3, 1) := by decide +kernel
theorem dX7_load_115 : decode cX7_load 115 = .ok (.invokevirtual 153, 3) := by decide +kernel
theorem dX7_load_118 : decode cX7_load 118 = .ok (.ireturn, 1) := by decide +kernel
theorem dX7_pump_0 : decode cX7_pump 0 = .ok (.aload_n 0, 1) := by decide +kernel
theorem dX7_pump_1 : decode cX7_pump 1 = .ok (.getfield 10, 3) := by decide +kernel
theorem dX7_pump_4 : decode cX7_pump 4 = .ok (.iload_n 1, 1) := by decide +kernel
theorem dX7_pump_5 : decode cX7_pump 5 = .ok (.invokevirtual 123, 3) := by decide +kernel
theorem dX7_pump_8 : decode cX7_pump 8 = .ok (.astore_n 3, 1) := by decide +kernel
theorem dX7_pump_9 : decode cX7_pump 9 = .ok (.aload_n 3, 1) := by decide +kernel
theorem dX7_pump_10 : decode cX7_pump 10 = .ok (.ifnonnull 6, 3) := by decide +kernel
theorem dX7_pump_13 : decode cX7_pump 13 = .ok (.ldc 78, 2) := by decide +kernel
theorem dX7_pump_15 : decode cX7_pump 15 = .ok (.ireturn, 1) := by decide +kernel
theorem dX7_pump_16 : decode cX7_pump 16 = .ok (.iload_n 2, 1) := by decide +kernel
theorem dX7_pump_17 : decode cX7_pump 17 = .ok (.invokestatic 127, 3) := by decide +kernel
theorem dX7_pump_20 : decode cX7_pump 20 = .ok (.ifCond .ne 6, 3) := by decide +kernel
theorem dX7_pump_23 : decode cX7_pump 23 = .ok (.ldc 46, 2) := by decide +kernel
theorem dX7_pump_25 : decode cX7_pump 25 = .ok (.ireturn, 1) := by decide +kernel
theorem dX7_pump_26 : decode cX7_pump 26 = .ok (.aload_n 0, 1) := by decide +kernel
theorem dX7_pump_27 : decode cX7_pump 27 = .ok (.getfield 10, 3) := by decide +kernel
theorem dX7_pump_30 : decode cX7_pump 30 = .ok (.aload_n 3, 1) := by decide +kernel
theorem dX7_pump_31 : decode cX7_pump 31 = .ok (.getfield 131, 3) := by decide +kernel
theorem dX7_pump_34 : decode cX7_pump 34 = .ok (.invokevirtual 136, 3) := by decide +kernel
theorem dX7_pump_37 : decode cX7_pump 37 = .ok (.astore 4, 2) := by decide +kernel
theorem dX7_pump_39 : decode cX7_pump 39 = .ok (.aload 4, 2) := by decide +kernel
theorem dX7_pump_41 : decode cX7_pump 41 = .ok (.ifnull 14, 3) := by decide +kernel
theorem dX7_pump_44 : decode cX7_pump 44 = .ok (.iload_n 2, 1) := by decide +kernel
theorem dX7_pump_45 : decode cX7_pump 45 = .ok (.i2l, 1) := by decide +kernel
theorem dX7_pump_46 : decode cX7_pump 46 = .ok (.aload 4, 2) := by decide +kernel
theorem dX7_pump_48 : decode cX7_pump 48 = .ok (.getfield 97, 3) := by decide +kernel
theorem dX7_pump_51 : decode cX7_pump 51 = .ok (.lcmp, 1) := by decide +kernel
theorem dX7_pump_52 : decode cX7_pump 52 = .ok (.ifCond .le 10, 3) := by decide +kernel
theorem dX7_pump_55 : decode cX7_pump 55 = .ok (.aload_n 0, 1) := by decide +kernel
theorem dX7_pump_56 : decode cX7_pump 56 = .ok (.bipush 8, 2) := by decide +kernel
theorem dX7_pump_58 : decode cX7_pump 58 = .ok (.invokevirtual 105, 3) := by decide +kernel
theorem dX7_pump_61 : decode cX7_pump 61 = .ok (.ireturn, 1) := by decide +kernel
theorem dX7_pump_62 : decode cX7_pump 62 = .ok (.aload_n 3, 1) := by decide +kernel
theorem dX7_pump_63 : decode cX7_pump 63 = .ok (.getfield 156, 3) := by decide +kernel
theorem dX7_pump_66 : decode cX7_pump 66 = .ok (.iload_n 2, 1) := by decide +kernel
theorem dX7_pump_67 : decode cX7_pump 67 = .ok (.iadd, 1) := by decide +kernel
theorem dX7_pump_68 : decode cX7_pump 68 = .ok (.ifCond .lt 11, 3) := by decide +kernel
theorem dX7_pump_71 : decode cX7_pump 71 = .ok (.iload_n 2, 1) := by decide +kernel
theorem dX7_pump_72 : decode cX7_pump 72 = .ok (.aload_n 3, 1) := by decide +kernel
theorem dX7_pump_73 : decode cX7_pump 73 = .ok (.invokevirtual 146, 3) := by decide +kernel
theorem dX7_pump_76 : decode cX7_pump 76 = .ok (.if_icmp .le 10, 3) := by decide +kernel
theorem dX7_pump_79 : decode cX7_pump 79 = .ok (.aload_n 0, 1) := by decide +kernel
theorem dX7_pump_80 : decode cX7_pump 80 = .ok (.bipush 8, 2) := by decide +kernel
theorem dX7_pump_82 : decode cX7_pump 82 = .ok (.invokevirtual 105, 3) := by decide +kernel
theorem dX7_pump_85 : decode cX7_pump 85 = .ok (.ireturn, 1) := by decide +kernel
theorem dX7_pump_86 : decode cX7_pump 86 = .ok (.aload_n 0, 1) := by decide +kernel
theorem dX7_pump_87 : decode cX7_pump 87 = .ok (.invokevirtual 51, 3) := by decide +kernel
theorem dX7_pump_90 : decode cX7_pump 90 = .ok (.aload_n 3, 1) := by decide +kernel
theorem dX7_pump_91 : decode cX7_pump 91 = .ok (.dup, 1) := by decide +kernel
theorem dX7_pump_92 : decode cX7_pump 92 = .ok (.getfield 156, 3) := by decide +kernel
theorem dX7_pump_95 : decode cX7_pump 95 = .ok (.iload_n 2, 1) := by decide +kernel
theorem dX7_pump_96 : decode cX7_pump 96 = .ok (.iadd, 1) := by decide +kernel
theorem dX7_pump_97 : decode cX7_pump 97 = .ok (.putfield 156, 3) := by decide +kernel
theorem dX7_pump_100 : decode cX7_pump 100 = .ok (.aload 4, 2) := by decide +kernel
theorem dX7_pump_102 : decode cX7_pump 102 = .ok (.dup, 1) := by decide +kernel
theorem dX7_pump_103 : decode cX7_pump 103 = .ok (.getfield 150, 3) := by decide +kernel
theorem dX7_pump_106 : decode cX7_pump 106 = .ok (.iload_n 2, 1) := by decide +kernel
theorem dX7_pump_107 : decode cX7_pump 107 = .ok (.i2l, 1) := by decide +kernel
theorem dX7_pump_108 : decode cX7_pump 108 = .ok (.ladd, 1) := by decide +kernel
theorem dX7_pump_109 : decode cX7_pump 109 = .ok (.putfield 150, 3) := by decide +kernel
theorem dX7_pump_112 : decode cX7_pump 112 = .ok (.aload 4, 2) := by decide +kernel
theorem dX7_pump_114 : decode cX7_pump 114 = .ok (.dup, 1) := by decide +kernel
theorem dX7_pump_115 : decode cX7_pump 115 = .ok (.getfield 97, 3) := by decide +kernel
theorem dX7_pump_118 : decode cX7_pump 118 = .ok (.iload_n 2, 1) := by decide +kernel
theorem dX7_pump_119 : decode cX7_pump 119 = .ok (.i2l, 1) := by decide +kernel
theorem dX7_pump_120 : decode cX7_pump 120 = .ok (.lsub, 1) := by decide +kernel
theorem dX7_pump_121 : decode cX7_pump 121 = .ok (.putfield 97, 3) := by decide +kernel
theorem dX7_pump_124 : decode cX7_pump 124 = .ok (.aload_n 0, 1) := by decide +kernel
theorem dX7_pump_125 : decode cX7_pump 125 = .ok (.getfield 10, 3) := by decide +kernel
theorem dX7_pump_128 : decode cX7_pump 128 = .ok (.invokevirtual 58, 3) := by decide +kernel
theorem dX7_pump_131 : decode cX7_pump 131 = .ok (.aload_n 3, 1) := by decide +kernel
theorem dX7_pump_132 : decode cX7_pump 132 = .ok (.invokevirtual 153, 3) := by decide +kernel
theorem dX7_pump_135 : decode cX7_pump 135 = .ok (.ireturn, 1) := by decide +kernel
theorem dX7_sluice_0 : decode cX7_sluice 0 = .ok (.aload_n 0, 1) := by decide +kernel
theorem dX7_sluice_1 : decode cX7_sluice 1 = .ok (.getfield 10, 3) := by decide +kernel
theorem dX7_sluice_4 : decode cX7_sluice 4 = .ok (.iload_n 1, 1) := by decide +kernel
theorem dX7_sluice_5 : decode cX7_sluice 5 = .ok (.invokevirtual 159, 3) := by decide +kernel
theorem dX7_sluice_8 : decode cX7_sluice 8 = .ok (.astore_n 3, 1) := by decide +kernel
theorem dX7_sluice_9 : decode cX7_sluice 9 = .ok (.aload_n 0, 1) := by decide +kernel
theorem dX7_sluice_10 : decode cX7_sluice 10 = .ok (.getfield 10, 3) := by decide +kernel
theorem dX7_sluice_13 : decode cX7_sluice 13 = .ok (.iload_n 1, 1) := by decide +kernel
theorem dX7_sluice_14 : decode cX7_sluice 14 = .ok (.iload_n 2, 1) := by decide +kernel
theorem dX7_sluice_15 : decode cX7_sluice 15 = .ok (.invokevirtual 163, 3) := by decide +kernel
theorem dX7_sluice_18 : decode cX7_sluice 18 = .ok (.astore 4, 2) := by decide +kernel
theorem dX7_sluice_20 : decode cX7_sluice 20 = .ok (.aload_n 3, 1) := by decide +kernel
theorem dX7_sluice_21 : decode cX7_sluice 21 = .ok (.ifnull 8, 3) := by decide +kernel
theorem dX7_sluice_24 : decode cX7_sluice 24 = .ok (.aload 4, 2) := by decide +kernel
theorem dX7_sluice_26 : decode cX7_sluice 26 = .ok (.ifnonnull 6, 3) := by decide +kernel
theorem dX7_sluice_29 : decode cX7_sluice 29 = .ok (.ldc 78, 2) := by decide +kernel
theorem dX7_sluice_31 : decode cX7_sluice 31 = .ok (.ireturn, 1) := by decide +kernel
theorem dX7_sluice_32 : decode cX7_sluice 32 = .ok (.aload_n 3, 1) := by decide +kernel
theorem dX7_sluice_33 : decode cX7_sluice 33 = .ok (.getfield 167, 3) := by decide +kernel
theorem dX7_sluice_36 : decode cX7_sluice 36 = .ok (.iconst (-1), 1) := by decide +kernel
theorem dX7_sluice_37 : decode cX7_sluice 37 = .ok (.if_icmp .eq 9, 3) := by decide +kernel
theorem dX7_sluice_40 : decode cX7_sluice 40 = .ok (.aload_n 0, 1) := by decide +kernel
theorem dX7_sluice_41 : decode cX7_sluice 41 = .ok (.iconst 1, 1) := by decide +kernel
theorem dX7_sluice_42 : decode cX7_sluice 42 = .ok (.invokevirtual 105, 3) := by decide +kernel
theorem dX7_sluice_45 : decode cX7_sluice 45 = .ok (.ireturn, 1) := by decide +kernel
theorem dX7_sluice_46 : decode cX7_sluice 46 = .ok (.aload_n 0, 1) := by decide +kernel
theorem dX7_sluice_47 : decode cX7_sluice 47 = .ok (.invokevirtual 51, 3) := by decide +kernel
theorem dX7_sluice_50 : decode cX7_sluice 50 = .ok (.aload_n 3, 1) := by decide +kernel
theorem dX7_sluice_51 : decode cX7_sluice 51 = .ok (.getfield 172, 3) := by decide +kernel
theorem dX7_sluice_54 : decode cX7_sluice 54 = .ok (.aload 4, 2) := by decide +kernel
theorem dX7_sluice_56 : decode cX7_sluice 56 = .ok (.invokevirtual 176, 3) := by decide +kernel
theorem dX7_sluice_59 : decode cX7_sluice 59 = .ok (.aload_n 0, 1) := by decide +kernel
theorem dX7_sluice_60 : decode cX7_sluice 60 = .ok (.getfield 10, 3) := by decide +kernel
theorem dX7_sluice_63 : decode cX7_sluice 63 = .ok (.invokevirtual 58, 3) := by decide +kernel
theorem dX7_sluice_66 : decode cX7_sluice 66 = .ok (.aload_n 3, 1) := by decide +kernel
theorem dX7_sluice_67 : decode cX7_sluice 67 = .ok (.getfield 172, 3) := by decide +kernel
theorem dX7_sluice_70 : decode cX7_sluice 70 = .ok (.invokevirtual 112, 3) := by decide +kernel
theorem dX7_sluice_73 : decode cX7_sluice 73 = .ok (.l2i, 1) := by decide +kernel
theorem dX7_sluice_74 : decode cX7_sluice 74 = .ok (.ireturn, 1) := by decide +kernel
theorem dX7_open_0 : decode cX7_open 0 = .ok (.aload_n 0, 1) := by decide +kernel
theorem dX7_open_1 : decode cX7_open 1 = .ok (.getfield 10, 3) := by decide +kernel
theorem dX7_open_4 : decode cX7_open 4 = .ok (.iload_n 1, 1) := by decide +kernel
theorem dX7_open_5 : decode cX7_open 5 = .ok (.invokevirtual 159, 3) := by decide +kernel
theorem dX7_open_8 : decode cX7_open 8 = .ok (.astore_n 3, 1) := by decide +kernel
theorem dX7_open_9 : decode cX7_open 9 = .ok (.aload_n 0, 1) := by decide +kernel
theorem dX7_open_10 : decode cX7_open 10 = .ok (.getfield 10, 3) := by decide +kernel
theorem dX7_open_13 : decode cX7_open 13 = .ok (.iload_n 1, 1) := by decide +kernel
theorem dX7_open_14 : decode cX7_open 14 = .ok (.iload_n 2, 1) := by decide +kernel
theorem dX7_open_15 : decode cX7_open 15 = .ok (.invokevirtual 163, 3) := by decide +kernel
theorem dX7_open_18 : decode cX7_open 18 = .ok (.astore 4, 2) := by decide +kernel
theorem dX7_open_20 : decode cX7_open 20 = .ok (.aload_n 3, 1) := by decide +kernel
theorem dX7_open_21 : decode cX7_open 21 = .ok (.ifnull 8, 3) := by decide +kernel
theorem dX7_open_24 : decode cX7_open 24 = .ok (.aload 4, 2) := by decide +kernel
theorem dX7_open_26 : decode cX7_open 26 = .ok (.ifnonnull 6, 3) := by decide +kernel
theorem dX7_open_29 : decode cX7_open 29 = .ok (.ldc 78, 2) := by decide +kernel
theorem dX7_open_31 : decode cX7_open 31 = .ok (.ireturn, 1) := by decide +kernel
theorem dX7_open_32 : decode cX7_open 32 = .ok (.aload_n 3, 1) := by decide +kernel
theorem dX7_open_33 : decode cX7_open 33 = .ok (.getfield 167, 3) := by decide +kernel
theorem dX7_open_36 : decode cX7_open 36 = .ok (.iconst (-1), 1) := by decide +kernel
theorem dX7_open_37 : decode cX7_open 37 = .ok (.if_icmp .eq 9, 3) := by decide +kernel
theorem dX7_open_40 : decode cX7_open 40 = .ok (.aload_n 0, 1) := by decide +kernel
theorem dX7_open_41 : decode cX7_open 41 = .ok (.iconst 1, 1) := by decide +kernel
theorem dX7_open_42 : decode cX7_open 42 = .ok (.invokevirtual 105, 3) := by decide +kernel
theorem dX7_open_45 : decode cX7_open 45 = .ok (.ireturn, 1) := by decide +kernel
theorem dX7_open_46 : decode cX7_open 46 = .ok (.aload_n 3, 1) := by decide +kernel
theorem dX7_open_47 : decode cX7_open 47 = .ok (.getfield 172, 3) := by decide +kernel
theorem dX7_open_50 : decode cX7_open 50 = .ok (.invokevirtual 112, 3) := by decide +kernel
theorem dX7_open_53 : decode cX7_open 53 = .ok (.aload 4, 2) := by decide +kernel
theorem dX7_open_55 : decode cX7_open 55 = .ok (.invokevirtual 112, 3) := by decide +kernel
theorem dX7_open_58 : decode cX7_open 58 = .ok (.lsub, 1) := by decide +kernel
theorem dX7_open_59 : decode cX7_open 59 = .ok (.invokestatic 180, 3) := by decide +kernel
theorem dX7_open_62 : decode cX7_open 62 = .ok (.ldc2_w 186, 3) := by decide +kernel
theorem dX7_open_65 : decode cX7_open 65 = .ok (.lcmp, 1) := by decide +kernel
theorem dX7_open_66 : decode cX7_open 66 = .ok (.ifCond .le 9, 3) := by decide +kernel
theorem dX7_open_69 : decode cX7_open 69 = .ok (.aload_n 0, 1) := by decide +kernel
theorem dX7_open_70 : decode cX7_open 70 = .ok (.iconst 3, 1) := by decide +kernel
theorem dX7_open_71 : decode cX7_open 71 = .ok (.invokevirtual 105, 3) := by decide +kernel
theorem dX7_open_74 : decode cX7_open 74 = .ok (.ireturn, 1) := by decide +kernel
theorem dX7_open_75 : decode cX7_open 75 = .ok (.aload_n 0, 1) := by decide +kernel
theorem dX7_open_76 : decode cX7_open 76 = .ok (.invokevirtual 51, 3) := by decide +kernel
theorem dX7_open_79 : decode cX7_open 79 = .ok (.aload_n 3, 1) := by decide +kernel
theorem dX7_open_80 : decode cX7_open 80 = .ok (.iload_n 2, 1) := by decide +kernel
theorem dX7_open_81 : decode cX7_open 81 = .ok (.putfield 167, 3) := by decide +kernel
theorem dX7_open_84 : decode cX7_open 84 = .ok (.aload_n 0, 1) := by decide +kernel
theorem dX7_open_85 : decode cX7_open 85 = .ok (.getfield 10, 3) := by decide +kernel
theorem dX7_open_88 : decode cX7_open 88 = .ok (.invokevirtual 58, 3) := by decide +kernel
theorem dX7_open_91 : decode cX7_open 91 = .ok (.aload_n 3, 1) := by decide +kernel
theorem dX7_open_92 : decode cX7_open 92 = .ok (.getfield 172, 3) := by decide +kernel
theorem dX7_open_95 : decode cX7_open 95 = .ok (.invokevirtual 112, 3) := by decide +kernel
theorem dX7_open_98 : decode cX7_open 98 = .ok (.l2i, 1) := by decide +kernel
theorem dX7_open_99 : decode cX7_open 99 = .ok (.ireturn, 1) := by decide +kernel
theorem dX7_close_0 : decode cX7_close 0 = .ok (.aload_n 0, 1) := by decide +kernel
theorem dX7_close_1 : decode cX7_close 1 = .ok (.getfield 10, 3) := by decide +kernel
theorem dX7_close_4 : decode cX7_close 4 = .ok (.iload_n 1, 1) := by decide +kernel
theorem dX7_close_5 : decode cX7_close 5 = .ok (.invokevirtual 159, 3) := by decide +kernel
theorem dX7_close_8 : decode cX7_close 8 = .ok (.astore_n 2, 1) := by decide +kernel
theorem dX7_close_9 : decode cX7_close 9 = .ok (.aload_n 2, 1) := by decide +kernel
theorem dX7_close_10 : decode cX7_close 10 = .ok (.ifnonnull 6, 3) := by decide +kernel
theorem dX7_close_13 : decode cX7_close 13 = .ok (.ldc 78, 2) := by decide +kernel
theorem dX7_close_15 : decode cX7_close 15 = .ok (.ireturn, 1) := by decide +kernel
theorem dX7_close_16 : decode cX7_close 16 = .ok (.aload_n 2, 1) := by decide +kernel
theorem dX7_close_17 : decode cX7_close 17 = .ok (.getfield 167, 3) := by decide +kernel
theorem dX7_close_20 : decode cX7_close 20 = .ok (.iconst (-1), 1) := by decide +kernel
theorem dX7_close_21 : decode cX7_close 21 = .ok (.if_icmp .ne 9, 3) := by decide +kernel
theorem dX7_close_24 : decode cX7_close 24 = .ok (.aload_n 0, 1) := by decide +kernel
theorem dX7_close_25 : decode cX7_close 25 = .ok (.iconst 2, 1) := by decide +kernel
theorem dX7_close_26 : decode cX7_close 26 = .ok (.invokevirtual 105, 3) := by decide +kernel
theorem dX7_close_29 : decode cX7_close 29 = .ok (.ireturn, 1) := by decide +kernel
theorem dX7_close_30 : decode cX7_close 30 = .ok (.aload_n 0, 1) := by decide +kernel
theorem dX7_close_31 : decode cX7_close 31 = .ok (.invokevirtual 51, 3) := by decide +kernel
theorem dX7_close_34 : decode cX7_close 34 = .ok (.aload_n 2, 1) := by decide +kernel
theorem dX7_close_35 : decode cX7_close 35 = .ok (.getfield 167, 3) := by decide +kernel
theorem dX7_close_38 : decode cX7_close 38 = .ok (.istore_n 3, 1) := by decide +kernel
theorem dX7_close_39 : decode cX7_close 39 = .ok (.aload_n 2, 1) := by decide +kernel
theorem dX7_close_40 : decode cX7_close 40 = .ok (.iconst (-1), 1) := by decide +kernel
theorem dX7_close_41 : decode cX7_close 41 = .ok (.putfield 167, 3) := by decide +kernel
theorem dX7_close_44 : decode cX7_close 44 = .ok (.aload_n 0, 1) := by decide +kernel
theorem dX7_close_45 : decode cX7_close 45 = .ok (.getfield 10, 3) := by decide +kernel
theorem dX7_close_48 : decode cX7_close 48 = .ok (.invokevirtual 58, 3) := by decide +kernel
theorem dX7_close_51 : decode cX7_close 51 = .ok (.iload_n 3, 1) := by decide +kernel
theorem dX7_close_52 : decode cX7_close 52 = .ok (.ireturn, 1) := by decide +kernel
theorem dX7_enter_0 : decode cX7_enter 0 = .ok (.aload_n 0, 1) := by decide +kernel
theorem dX7_enter_1 : decode cX7_enter 1 = .ok (.getfield 10, 3) := by decide +kernel
theorem dX7_enter_4 : decode cX7_enter 4 = .ok (.iload_n 1, 1) := by decide +kernel
theorem dX7_enter_5 : decode cX7_enter 5 = .ok (.invokevirtual 123, 3) := by decide +kernel
theorem dX7_enter_8 : decode cX7_enter 8 = .ok (.astore_n 3, 1) := by decide +kernel
theorem dX7_enter_9 : decode cX7_enter 9 = .ok (.aload_n 0, 1) := by decide +kernel
theorem dX7_enter_10 : decode cX7_enter 10 = .ok (.getfield 10, 3) := by decide +kernel
theorem dX7_enter_13 : decode cX7_enter 13 = .ok (.iload_n 2, 1) := by decide +kernel
theorem dX7_enter_14 : decode cX7_enter 14 = .ok (.invokevirtual 159, 3) := by decide +kernel
theorem dX7_enter_17 : decode cX7_enter 17 = .ok (.astore 4, 2) := by decide +kernel
theorem dX7_enter_19 : decode cX7_enter 19 = .ok (.aload_n 3, 1) := by decide +kernel
theorem dX7_enter_20 : decode cX7_enter 20 = .ok (.ifnull 8, 3) := by decide +kernel
theorem dX7_enter_23 : decode cX7_enter 23 = .ok (.aload 4, 2) := by decide +kernel
theorem dX7_enter_25 : decode cX7_enter 25 = .ok (.ifnonnull 6, 3) := by decide +kernel
theorem dX7_enter_28 : decode cX7_enter 28 = .ok (.ldc 78, 2) := by decide +kernel
theorem dX7_enter_30 : decode cX7_enter 30 = .ok (.ireturn, 1) := by decide +kernel
theorem dX7_enter_31 : decode cX7_enter 31 = .ok (.aload 4, 2) := by decide +kernel
theorem dX7_enter_33 : decode cX7_enter 33 = .ok (.aload 4, 2) := by decide +kernel
theorem dX7_enter_35 : decode cX7_enter 35 = .ok (.getfield 167, 3) := by decide +kernel
theorem dX7_enter_38 : decode cX7_enter 38 = .ok (.invokevirtual 188, 3) := by decide +kernel
theorem dX7_enter_41 : decode cX7_enter 41 = .ok (.astore 5, 2) := by decide +kernel
theorem dX7_enter_43 : decode cX7_enter 43 = .ok (.aload 5, 2) := by decide +kernel
theorem dX7_enter_45 : decode cX7_enter 45 = .ok (.ifnonnull 9, 3) := by decide +kernel
theorem dX7_enter_48 : decode cX7_enter 48 = .ok (.aload_n 0, 1) := by decide +kernel
theorem dX7_enter_49 : decode cX7_enter 49 = .ok (.iconst 2, 1) := by decide +kernel
theorem dX7_enter_50 : decode cX7_enter 50 = .ok (.invokevirtual 105, 3) := by decide +kernel
theorem dX7_enter_53 : decode cX7_enter 53 = .ok (.ireturn, 1) := by decide +kernel
theorem dX7_enter_54 : decode cX7_enter 54 = .ok (.aload_n 3, 1) := by decide +kernel
theorem dX7_enter_55 : decode cX7_enter 55 = .ok (.getfield 131, 3) := by decide +kernel
theorem dX7_enter_58 : decode cX7_enter 58 = .ok (.iload_n 2, 1) := by decide +kernel
theorem dX7_enter_59 : decode cX7_enter 59 = .ok (.aload 4, 2) := by decide +kernel
theorem dX7_enter_61 : decode cX7_enter 61 = .ok (.getfield 167, 3) := by decide +kernel
theorem dX7_enter_64 : decode cX7_enter 64 = .ok (.iadd, 1) := by decide +kernel
theorem dX7_enter_65 : decode cX7_enter 65 = .ok (.if_icmp .eq 9, 3) := by decide +kernel
theorem dX7_enter_68 : decode cX7_enter 68 = .ok (.aload_n 0, 1) := by decide +kernel
theorem dX7_enter_69 : decode cX7_enter 69 = .ok (.iconst 4, 1) := by decide +kernel
theorem dX7_enter_70 : decode cX7_enter 70 = .ok (.invokevirtual 105, 3) := by decide +kernel
theorem dX7_enter_73 : decode cX7_enter 73 = .ok (.ireturn, 1) := by decide +kernel
theorem dX7_enter_74 : decode cX7_enter 74 = .ok (.aload_n 0, 1) := by decide +kernel
theorem dX7_enter_75 : decode cX7_enter 75 = .ok (.getfield 10, 3) := by decide +kernel
theorem dX7_enter_78 : decode cX7_enter 78 = .ok (.aload_n 3, 1) := by decide +kernel
theorem dX7_enter_79 : decode cX7_enter 79 = .ok (.invokevirtual 192, 3) := by decide +kernel
theorem dX7_enter_82 : decode cX7_enter 82 = .ok (.ifCond .eq 9, 3) := by decide +kernel
theorem dX7_enter_85 : decode cX7_enter 85 = .ok (.aload_n 0, 1) := by decide +kernel
theorem dX7_enter_86 : decode cX7_enter 86 = .ok (.iconst 5, 1) := by decide +kernel
theorem dX7_enter_87 : decode cX7_enter 87 = .ok (.invokevirtual 105, 3) := by decide +kernel
theorem dX7_enter_90 : decode cX7_enter 90 = .ok (.ireturn, 1) := by decide +kernel
theorem dX7_enter_91 : decode cX7_enter 91 = .ok (.aload_n 3, 1) := by decide +kernel
theorem dX7_enter_92 : decode cX7_enter 92 = .ok (.getfield 196, 3) := by decide +kernel
theorem dX7_enter_95 : decode cX7_enter 95 = .ok (.aload 4, 2) := by decide +kernel
theorem dX7_enter_97 : decode cX7_enter 97 = .ok (.getfield 199, 3) := by decide +kernel
theorem dX7_enter_100 : decode cX7_enter 100 = .ok (.if_icmp .le 10, 3) := by decide +kernel
theorem dX7_enter_103 : decode cX7_enter 103 = .ok (.aload_n 0, 1) := by decide +kernel
theorem dX7_enter_104 : decode cX7_enter 104 = .ok (.bipush 6, 2) := by decide +kernel
theorem dX7_enter_106 : decode cX7_enter 106 = .ok (.invokevirtual 105, 3) := by decide +kernel
theorem dX7_enter_109 : decode cX7_enter 109 = .ok (.ireturn, 1) := by decide +kernel
theorem dX7_enter_110 : decode cX7_enter 110 = .ok (.aload_n 3, 1) := by decide +kernel
theorem dX7_enter_111 : decode cX7_enter 111 = .ok (.invokevirtual 153, 3) := by decide +kernel
theorem dX7_enter_114 : decode cX7_enter 114 = .ok (.i2l, 1) := by decide +kernel
theorem dX7_enter_115 : decode cX7_enter 115 = .ok (.aload_n 0, 1) := by decide +kernel
theorem dX7_enter_116 : decode cX7_enter 116 = .ok (.getfield 10, 3) := by decide +kernel
theorem dX7_enter_119 : decode cX7_enter 119 = .ok (.aload 4, 2) := by decide +kernel
theorem dX7_enter_121 : decode cX7_enter 121 = .ok (.aload 5, 2) := by decide +kernel
theorem dX7_enter_123 : decode cX7_enter 123 = .ok (.invokevirtual 202, 3) := by decide +kernel
theorem dX7_enter_126 : decode cX7_enter 126 = .ok (.lcmp, 1) := by decide +kernel
theorem dX7_enter_127 : decode cX7_enter 127 = .ok (.ifCond .le 10, 3) := by decide +kernel
theorem dX7_enter_130 : decode cX7_enter 130 = .ok (.aload_n 0, 1) := by decide +kernel
theorem dX7_enter_131 : decode cX7_enter 131 = .ok (.bipush 7, 2) := by decide +kernel
theorem dX7_enter_133 : decode cX7_enter 133 = .ok (.invokevirtual 105, 3) := by decide +kernel
theorem dX7_enter_136 : decode cX7_enter 136 = .ok (.ireturn, 1) := by decide +kernel
theorem dX7_enter_137 : decode cX7_enter 137 = .ok (.aload_n 0, 1) := by decide +kernel
theorem dX7_enter_138 : decode cX7_enter 138 = .ok (.invokevirtual 51, 3) := by decide +kernel
theorem dX7_enter_141 : decode cX7_enter 141 = .ok (.aload 4, 2) := by decide +kernel
theorem dX7_enter_143 : decode cX7_enter 143 = .ok (.iload_n 1, 1) := by decide +kernel
theorem dX7_enter_144 : decode cX7_enter 144 = .ok (.aload_n 3, 1) := by decide +kernel
theorem dX7_enter_145 : decode cX7_enter 145 = .ok (.getfield 196, 3) := by decide +kernel
theorem dX7_enter_148 : decode cX7_enter 148 = .ok (.aload 4, 2) := by decide +kernel
theorem dX7_enter_150 : decode cX7_enter 150 = .ok (.getfield 167, 3) := by decide +kernel
theorem dX7_enter_153 : decode cX7_enter 153 = .ok (.invokevirtual 206, 3) := by decide +kernel
theorem dX7_enter_156 : decode cX7_enter 156 = .ok (.aload_n 0, 1) := by decide +kernel
theorem dX7_enter_157 : decode cX7_enter 157 = .ok (.getfield 10, 3) := by decide +kernel
theorem dX7_enter_160 : decode cX7_enter 160 = .ok (.aload_n 3, 1) := by decide +kernel
theorem dX7_enter_161 : decode cX7_enter 161 = .ok (.bipush 100, 2) := by decide +kernel
theorem dX7_enter_163 : decode cX7_enter 163 = .ok (.iload_n 2, 1) := by decide +kernel
theorem dX7_enter_164 : decode cX7_enter 164 = .ok (.iadd, 1) := by decide +kernel
theorem dX7_enter_165 : decode cX7_enter 165 = .ok (.invokevirtual 209, 3) := by decide +kernel
theorem dX7_enter_168 : decode cX7_enter 168 = .ok (.aload 5, 2) := by decide +kernel
theorem dX7_enter_170 : decode cX7_enter 170 = .ok (.invokevirtual 213, 3) := by decide +kernel
theorem dX7_enter_173 : decode cX7_enter 173 = .ok (.aload_n 0, 1) := by decide +kernel
theorem dX7_enter_174 : decode cX7_enter 174 = .ok (.getfield 10, 3) := by decide +kernel
theorem dX7_enter_177 : decode cX7_enter 177 = .ok (.invokevirtual 58, 3) := by decide +kernel
theorem dX7_enter_180 : decode cX7_enter 180 = .ok (.aload 4, 2) := by decide +kernel
theorem dX7_enter_182 : decode cX7_enter 182 = .ok (.getfield 199, 3) := by decide +kernel
theorem dX7_enter_185 : decode cX7_enter 185 = .ok (.ireturn, 1) := by decide +kernel
theorem dX7_leave_0 : decode cX7_leave 0 = .ok (.aload_n 0, 1) := by decide +kernel
theorem dX7_leave_1 : decode cX7_leave 1 = .ok (.getfield 10, 3) := by decide +kernel
theorem dX7_leave_4 : decode cX7_leave 4 = .ok (.iload_n 1, 1) := by decide +kernel
theorem dX7_leave_5 : decode cX7_leave 5 = .ok (.invokevirtual 159, 3) := by decide +kernel
theorem dX7_leave_8 : decode cX7_leave 8 = .ok (.astore_n 3, 1) := by decide +kernel
theorem dX7_leave_9 : decode cX7_leave 9 = .ok (.aload_n 0, 1) := by decide +kernel
theorem dX7_leave_10 : decode cX7_leave 10 = .ok (.getfield 10, 3) := by decide +kernel
theorem dX7_leave_13 : decode cX7_leave 13 = .ok (.iload_n 1, 1) := by decide +kernel
theorem dX7_leave_14 : decode cX7_leave 14 = .ok (.iload_n 2, 1) := by decide +kernel
theorem dX7_leave_15 : decode cX7_leave 15 = .ok (.invokevirtual 74, 3) := by decide +kernel
theorem dX7_leave_18 : decode cX7_leave 18 = .ok (.astore 4, 2) := by decide +kernel
theorem dX7_leave_20 : decode cX7_leave 20 = .ok (.aload_n 3, 1) := by decide +kernel
theorem dX7_leave_21 : decode cX7_leave 21 = .ok (.ifnull 8, 3) := by decide +kernel
theorem dX7_leave_24 : decode cX7_leave 24 = .ok (.aload 4, 2) := by decide +kernel
theorem dX7_leave_26 : decode cX7_leave 26 = .ok (.ifnonnull 6, 3) := by decide +kernel
theorem dX7_leave_29 : decode cX7_leave 29 = .ok (.ldc 78, 2) := by decide +kernel
theorem dX7_leave_31 : decode cX7_leave 31 = .ok (.ireturn, 1) := by decide +kernel
theorem dX7_leave_32 : decode cX7_leave 32 = .ok (.aload_n 3, 1) := by decide +kernel
theorem dX7_leave_33 : decode cX7_leave 33 = .ok (.getfield 167, 3) := by decide +kernel
theorem dX7_leave_36 : decode cX7_leave 36 = .ok (.iload_n 2, 1) := by decide +kernel
theorem dX7_leave_37 : decode cX7_leave 37 = .ok (.if_icmp .eq 9, 3) := by decide +kernel
theorem dX7_leave_40 : decode cX7_leave 40 = .ok (.aload_n 0, 1) := by decide +kernel
theorem dX7_leave_41 : decode cX7_leave 41 = .ok (.iconst 2, 1) := by decide +kernel
theorem dX7_leave_42 : decode cX7_leave 42 = .ok (.invokevirtual 105, 3) := by decide +kernel
theorem dX7_leave_45 : decode cX7_leave 45 = .ok (.ireturn, 1) := by decide +kernel
theorem dX7_leave_46 : decode cX7_leave 46 = .ok (.aload_n 3, 1) := by decide +kernel
theorem dX7_leave_47 : decode cX7_leave 47 = .ok (.iload_n 2, 1) := by decide +kernel
theorem dX7_leave_48 : decode cX7_leave 48 = .ok (.invokevirtual 216, 3) := by decide +kernel
theorem dX7_leave_51 : decode cX7_leave 51 = .ok (.istore 5, 2) := by decide +kernel
theorem dX7_leave_53 : decode cX7_leave 53 = .ok (.aload_n 0, 1) := by decide +kernel
theorem dX7_leave_54 : decode cX7_leave 54 = .ok (.getfield 10, 3) := by decide +kernel
theorem dX7_leave_57 : decode cX7_leave 57 = .ok (.iload 5, 2) := by decide +kernel
theorem dX7_leave_59 : decode cX7_leave 59 = .ok (.invokevirtual 123, 3) := by decide +kernel
theorem dX7_leave_62 : decode cX7_leave 62 = .ok (.astore 6, 2) := by decide +kernel
theorem dX7_leave_64 : decode cX7_leave 64 = .ok (.aload 6, 2) := by decide +kernel
theorem dX7_leave_66 : decode cX7_leave 66 = .ok (.ifnonnull 9, 3) := by decide +kernel
theorem dX7_leave_69 : decode cX7_leave 69 = .ok (.aload_n 0, 1) := by decide +kernel
theorem dX7_leave_70 : decode cX7_leave 70 = .ok (.iconst 4, 1) := by decide +kernel
theorem dX7_leave_71 : decode cX7_leave 71 = .ok (.invokevirtual 105, 3) := by decide +kernel
theorem dX7_leave_74 : decode cX7_leave 74 = .ok (.ireturn, 1) := by decide +kernel
theorem dX7_leave_75 : decode cX7_leave 75 = .ok (.aload_n 0, 1) := by decide +kernel
theorem dX7_leave_76 : decode cX7_leave 76 = .ok (.getfield 10, 3) := by decide +kernel
theorem dX7_leave_79 : decode cX7_leave 79 = .ok (.aload 6, 2) := by decide +kernel
theorem dX7_leave_81 : decode cX7_leave 81 = .ok (.invokevirtual 192, 3) := by decide +kernel
theorem dX7_leave_84 : decode cX7_leave 84 = .ok (.ifCond .eq 9, 3) := by decide +kernel
theorem dX7_leave_87 : decode cX7_leave 87 = .ok (.aload_n 0, 1) := by decide +kernel
theorem dX7_leave_88 : decode cX7_leave 88 = .ok (.iconst 5, 1) := by decide +kernel
theorem dX7_leave_89 : decode cX7_leave 89 = .ok (.invokevirtual 105, 3) := by decide +kernel
theorem dX7_leave_92 : decode cX7_leave 92 = .ok (.ireturn, 1) := by decide +kernel
theorem dX7_leave_93 : decode cX7_leave 93 = .ok (.aload 6, 2) := by decide +kernel
theorem dX7_leave_95 : decode cX7_leave 95 = .ok (.invokevirtual 153, 3) := by decide +kernel
theorem dX7_leave_98 : decode cX7_leave 98 = .ok (.i2l, 1) := by decide +kernel
theorem dX7_leave_99 : decode cX7_leave 99 = .ok (.aload_n 0, 1) := by decide +kernel
theorem dX7_leave_100 : decode cX7_leave 100 = .ok (.getfield 10, 3) := by decide +kernel
theorem dX7_leave_103 : decode cX7_leave 103 = .ok (.aload_n 3, 1) := by decide +kernel
theorem dX7_leave_104 : decode cX7_leave 104 = .ok (.aload 4, 2) := by decide +kernel
theorem dX7_leave_106 : decode cX7_leave 106 = .ok (.invokevirtual 202, 3) := by decide +kernel
theorem dX7_leave_109 : decode cX7_leave 109 = .ok (.lcmp, 1) := by decide +kernel
theorem dX7_leave_110 : decode cX7_leave 110 = .ok (.ifCond .le 10, 3) := by decide +kernel
theorem dX7_leave_113 : decode cX7_leave 113 = .ok (.aload_n 0, 1) := by decide +kernel
theorem dX7_leave_114 : decode cX7_leave 114 = .ok (.bipush 7, 2) := by decide +kernel
theorem dX7_leave_116 : decode cX7_leave 116 = .ok (.invokevirtual 105, 3) := by decide +kernel
theorem dX7_leave_119 : decode cX7_leave 119 = .ok (.ireturn, 1) := by decide +kernel
theorem dX7_leave_120 : decode cX7_leave 120 = .ok (.aload_n 0, 1) := by decide +kernel
theorem dX7_leave_121 : decode cX7_leave 121 = .ok (.invokevirtual 51, 3) := by decide +kernel
theorem dX7_leave_124 : decode cX7_leave 124 = .ok (.aload_n 3, 1) := by decide +kernel
theorem dX7_leave_125 : decode cX7_leave 125 = .ok (.aload 6, 2) := by decide +kernel
theorem dX7_leave_127 : decode cX7_leave 127 = .ok (.getfield 196, 3) := by decide +kernel
theorem dX7_leave_130 : decode cX7_leave 130 = .ok (.iload_n 2, 1) := by decide +kernel
theorem dX7_leave_131 : decode cX7_leave 131 = .ok (.invokevirtual 219, 3) := by decide +kernel
theorem dX7_leave_134 : decode cX7_leave 134 = .ok (.aload_n 0, 1) := by decide +kernel
theorem dX7_leave_135 : decode cX7_leave 135 = .ok (.getfield 10, 3) := by decide +kernel
theorem dX7_leave_138 : decode cX7_leave 138 = .ok (.aload 6, 2) := by decide +kernel
theorem dX7_leave_140 : decode cX7_leave 140 = .ok (.iload_n 1, 1) := by decide +kernel
theorem dX7_leave_141 : decode cX7_leave 141 = .ok (.iload_n 2, 1) := by decide +kernel
theorem dX7_leave_142 : decode cX7_leave 142 = .ok (.iadd, 1) := by decide +kernel
theorem dX7_leave_143 : decode cX7_leave 143 = .ok (.invokevirtual 209, 3) := by decide +kernel
theorem dX7_leave_146 : decode cX7_leave 146 = .ok (.aload 4, 2) := by decide +kernel
theorem dX7_leave_148 : decode cX7_leave 148 = .ok (.invokevirtual 213, 3) := by decide +kernel
theorem dX7_leave_151 : decode cX7_leave 151 = .ok (.aload_n 0, 1) := by decide +kernel
theorem dX7_leave_152 : decode cX7_leave 152 = .ok (.getfield 10, 3) := by decide +kernel
theorem dX7_leave_155 : decode cX7_leave 155 = .ok (.invokevirtual 58, 3) := by decide +kernel
theorem dX7_leave_158 : decode cX7_leave 158 = .ok (.iload 5, 2) := by decide +kernel
theorem dX7_leave_160 : decode cX7_leave 160 = .ok (.ireturn, 1) := by decide +kernel
theorem dX7_type_0 : decode cX7_type 0 = .ok (.aload_n 0, 1) := by decide +kernel
theorem dX7_type_1 : decode cX7_type 1 = .ok (.getfield 30, 3) := by decide +kernel
theorem dX7_type_4 : decode cX7_type 4 = .ok (.iload_n 1, 1) := by decide +kernel
theorem dX7_type_5 : decode cX7_type 5 = .ok (.invokevirtual 223, 3) := by decide +kernel
theorem dX7_type_8 : decode cX7_type 8 = .ok (.ireturn, 1) := by decide +kernel
theorem dX7_clearText_0 : decode cX7_clearText 0 = .ok (.aload_n 0, 1) := by decide +kernel
theorem dX7_clearText_1 : decode cX7_clearText 1 = .ok (.getfield 30, 3) := by decide +kernel
theorem dX7_clearText_4 : decode cX7_clearText 4 = .ok (.invokevirtual 227, 3) := by decide +kernel
theorem dX7_clearText_7 : decode cX7_clearText 7 = .ok (.ireturn, 1) := by decide +kernel
theorem dX7_runOrders_0 : decode cX7_runOrders 0 = .ok (.aload_n 0, 1) := by decide +kernel
theorem dX7_runOrders_1 : decode cX7_runOrders 1 = .ok (.getfield 30, 3) := by decide +kernel
theorem dX7_runOrders_4 : decode cX7_runOrders 4 = .ok (.invokevirtual 230, 3) := by decide +kernel
theorem dX7_runOrders_7 : decode cX7_runOrders 7 = .ok (.istore_n 1, 1) := by decide +kernel
theorem dX7_runOrders_8 : decode cX7_runOrders 8 = .ok (.iload_n 1, 1) := by decide +kernel
theorem dX7_runOrders_9 : decode cX7_runOrders 9 = .ok (.iconst (-1), 1) := by decide +kernel
theorem dX7_runOrders_10 : decode cX7_runOrders 10 = .ok (.if_icmp .eq 8, 3) := by decide +kernel
theorem dX7_runOrders_13 : decode cX7_runOrders 13 = .ok (.bipush (-100), 2) := by decide +kernel
theorem dX7_runOrders_15 : decode cX7_runOrders 15 = .ok (.iload_n 1, 1) := by decide +kernel
theorem dX7_runOrders_16 : decode cX7_runOrders 16 = .ok (.isub, 1) := by decide +kernel
theorem dX7_runOrders_17 : decode cX7_runOrders 17 = .ok (.ireturn, 1) := by decide +kernel
theorem dX7_runOrders_18 : decode cX7_runOrders 18 = .ok (.aload_n 0, 1) := by decide +kernel
theorem dX7_runOrders_19 : decode cX7_runOrders 19 = .ok (.invokevirtual 51, 3) := by decide +kernel
theorem dX7_runOrders_22 : decode cX7_runOrders 22 = .ok (.aload_n 0, 1) := by decide +kernel
theorem dX7_runOrders_23 : decode cX7_runOrders 23 = .ok (.iconst 1, 1) := by decide +kernel
theorem dX7_runOrders_24 : decode cX7_runOrders 24 = .ok (.putfield 38, 3) := by decide +kernel
theorem dX7_runOrders_27 : decode cX7_runOrders 27 = .ok (.aload_n 0, 1) := by decide +kernel
theorem dX7_runOrders_28 : decode cX7_runOrders 28 = .ok (.getfield 30, 3) := by decide +kernel
theorem dX7_runOrders_31 : decode cX7_runOrders 31 = .ok (.invokevirtual 233, 3) := by decide +kernel
theorem dX7_runOrders_34 : decode cX7_runOrders 34 = .ok (.iconst 0, 1) := by decide +kernel
theorem dX7_runOrders_35 : decode cX7_runOrders 35 = .ok (.istore_n 2, 1) := by decide +kernel
theorem dX7_runOrders_36 : decode cX7_runOrders 36 = .ok (.iload_n 2, 1) := by decide +kernel
theorem dX7_runOrders_37 : decode cX7_runOrders 37 = .ok (.bipush 60, 2) := by decide +kernel
theorem dX7_runOrders_39 : decode cX7_runOrders 39 = .ok (.if_icmp .ge 36, 3) := by decide +kernel
theorem dX7_runOrders_42 : decode cX7_runOrders 42 = .ok (.aload_n 0, 1) := by decide +kernel
theorem dX7_runOrders_43 : decode cX7_runOrders 43 = .ok (.getfield 30, 3) := by decide +kernel
theorem dX7_runOrders_46 : decode cX7_runOrders 46 = .ok (.invokevirtual 236, 3) := by decide +kernel
theorem dX7_runOrders_49 : decode cX7_runOrders 49 = .ok (.ifCond .eq 26, 3) := by decide +kernel
theorem dX7_runOrders_52 : decode cX7_runOrders 52 = .ok (.aload_n 0, 1) := by decide +kernel
theorem dX7_runOrders_53 : decode cX7_runOrders 53 = .ok (.getfield 30, 3) := by decide +kernel
theorem dX7_runOrders_56 : decode cX7_runOrders 56 = .ok (.invokevirtual 239, 3) := by decide +kernel
theorem dX7_runOrders_59 : decode cX7_runOrders 59 = .ok (.ifCond .eq 16, 3) := by decide +kernel
theorem dX7_runOrders_62 : decode cX7_runOrders 62 = .ok (.aload_n 0, 1) := by decide +kernel
theorem dX7_runOrders_63 : decode cX7_runOrders 63 = .ok (.invokevirtual 242, 3) := by decide +kernel
theorem dX7_runOrders_66 : decode cX7_runOrders 66 = .ok (.ifCond .lt 9, 3) := by decide +kernel
theorem dX7_runOrders_69 : decode cX7_runOrders 69 = .ok (.iinc 2 1, 3) := by decide +kernel
theorem dX7_runOrders_72 : decode cX7_runOrders 72 = .ok (.goto (-36), 3) := by decide +kernel
theorem dX7_runOrders_75 : decode cX7_runOrders 75 = .ok (.aload_n 0, 1) := by decide +kernel
theorem dX7_runOrders_76 : decode cX7_runOrders 76 = .ok (.iconst 0, 1) := by decide +kernel
theorem dX7_runOrders_77 : decode cX7_runOrders 77 = .ok (.putfield 38, 3) := by decide +kernel
theorem dX7_runOrders_80 : decode cX7_runOrders 80 = .ok (.aload_n 0, 1) := by decide +kernel
theorem dX7_runOrders_81 : decode cX7_runOrders 81 = .ok (.getfield 10, 3) := by decide +kernel
theorem dX7_runOrders_84 : decode cX7_runOrders 84 = .ok (.invokevirtual 58, 3) := by decide +kernel
theorem dX7_runOrders_87 : decode cX7_runOrders 87 = .ok (.iload_n 2, 1) := by decide +kernel
theorem dX7_runOrders_88 : decode cX7_runOrders 88 = .ok (.ireturn, 1) := by decide +kernel
theorem dX7_undo_0 : decode cX7_undo 0 = .ok (.aload_n 0, 1) := by decide +kernel
theorem dX7_undo_1 : decode cX7_undo 1 = .ok (.getfield 19, 3) := by decide +kernel
theorem dX7_undo_4 : decode cX7_undo 4 = .ok (.getfield 245, 3) := by decide +kernel
theorem dX7_undo_7 : decode cX7_undo 7 = .ok (.ifCond .ne 6, 3) := by decide +kernel
theorem dX7_undo_10 : decode cX7_undo 10 = .ok (.ldc 90, 2) := by decide +kernel
theorem dX7_undo_12 : decode cX7_undo 12 = .ok (.ireturn, 1) := by decide +kernel
theorem dX7_undo_13 : decode cX7_undo 13 = .ok (.aload_n 0, 1) := by decide +kernel
theorem dX7_undo_14 : decode cX7_undo 14 = .ok (.getfield 19, 3) := by decide +kernel
theorem dX7_undo_17 : decode cX7_undo 17 = .ok (.aload_n 0, 1) := by decide +kernel
theorem dX7_undo_18 : decode cX7_undo 18 = .ok (.getfield 10, 3) := by decide +kernel
theorem dX7_undo_21 : decode cX7_undo 21 = .ok (.invokevirtual 248, 3) := by decide +kernel
theorem dX7_undo_24 : decode cX7_undo 24 = .ok (.aload_n 0, 1) := by decide +kernel
theorem dX7_undo_25 : decode cX7_undo 25 = .ok (.getfield 19, 3) := by decide +kernel
theorem dX7_undo_28 : decode cX7_undo 28 = .ok (.getfield 245, 3) := by decide +kernel
theorem dX7_undo_31 : decode cX7_undo 31 = .ok (.ireturn, 1) := by decide +kernel
theorem dX7_keep_0 : decode cX7_keep 0 = .ok (.iload_n 1, 1) := by decide +kernel
theorem dX7_keep_1 : decode cX7_keep 1 = .ok (.ifCond .lt 12, 3) := by decide +kernel
theorem dX7_keep_4 : decode cX7_keep 4 = .ok (.iload_n 1, 1) := by decide +kernel
theorem dX7_keep_5 : decode cX7_keep 5 = .ok (.aload_n 0, 1) := by decide +kernel
theorem dX7_keep_6 : decode cX7_keep 6 = .ok (.getfield 23, 3) := by decide +kernel
theorem dX7_keep_9 : decode cX7_keep 9 = .ok (.arraylength, 1) := by decide +kernel
theorem dX7_keep_10 : decode cX7_keep 10 = .ok (.if_icmp .lt 6, 3) := by decide +kernel
theorem dX7_keep_13 : decode cX7_keep 13 = .ok (.ldc 78, 2) := by decide +kernel
theorem dX7_keep_15 : decode cX7_keep 15 = .ok (.ireturn, 1) := by decide +kernel
theorem dX7_keep_16 : decode cX7_keep 16 = .ok (.aload_n 0, 1) := by decide +kernel
theorem dX7_keep_17 : decode cX7_keep 17 = .ok (.getfield 23, 3) := by decide +kernel
theorem dX7_keep_20 : decode cX7_keep 20 = .ok (.iload_n 1, 1) := by decide +kernel
theorem dX7_keep_21 : decode cX7_keep 21 = .ok (.aaload, 1) := by decide +kernel
theorem dX7_keep_22 : decode cX7_keep 22 = .ok (.astore_n 2, 1) := by decide +kernel
theorem dX7_keep_23 : decode cX7_keep 23 = .ok (.aload_n 2, 1) := by decide +kernel
theorem dX7_keep_24 : decode cX7_keep 24 = .ok (.ifnonnull 18, 3) := by decide +kernel
theorem dX7_keep_27 : decode cX7_keep 27 = .ok (.new 7, 3) := by decide +kernel
theorem dX7_keep_30 : decode cX7_keep 30 = .ok (.dup, 1) := by decide +kernel
theorem dX7_keep_31 : decode cX7_keep 31 = .ok (.invokespecial 9, 3) := by decide +kernel
theorem dX7_keep_34 : decode cX7_keep 34 = .ok (.astore_n 2, 1) := by decide +kernel
theorem dX7_keep_35 : decode cX7_keep 35 = .ok (.aload_n 0, 1) := by decide +kernel
theorem dX7_keep_36 : decode cX7_keep 36 = .ok (.getfield 23, 3) := by decide +kernel
theorem dX7_keep_39 : decode cX7_keep 39 = .ok (.iload_n 1, 1) := by decide +kernel
theorem dX7_keep_40 : decode cX7_keep 40 = .ok (.aload_n 2, 1) := by decide +kernel
theorem dX7_keep_41 : decode cX7_keep 41 = .ok (.aastore, 1) := by decide +kernel
theorem dX7_keep_42 : decode cX7_keep 42 = .ok (.aload_n 0, 1) := by decide +kernel
theorem dX7_keep_43 : decode cX7_keep 43 = .ok (.getfield 10, 3) := by decide +kernel
theorem dX7_keep_46 : decode cX7_keep 46 = .ok (.aload_n 2, 1) := by decide +kernel
theorem dX7_keep_47 : decode cX7_keep 47 = .ok (.invokevirtual 252, 3) := by decide +kernel
theorem dX7_keep_50 : decode cX7_keep 50 = .ok (.aload_n 0, 1) := by decide +kernel
theorem dX7_keep_51 : decode cX7_keep 51 = .ok (.getfield 10, 3) := by decide +kernel
theorem dX7_keep_54 : decode cX7_keep 54 = .ok (.getfield 116, 3) := by decide +kernel
theorem dX7_keep_57 : decode cX7_keep 57 = .ok (.ireturn, 1) := by decide +kernel
theorem dX7_restore_0 : decode cX7_restore 0 = .ok (.iload_n 1, 1) := by decide +kernel
theorem dX7_restore_1 : decode cX7_restore 1 = .ok (.ifCond .lt 12, 3) := by decide +kernel
theorem dX7_restore_4 : decode cX7_restore 4 = .ok (.iload_n 1, 1) := by decide +kernel
theorem dX7_restore_5 : decode cX7_restore 5 = .ok (.aload_n 0, 1) := by decide +kernel
theorem dX7_restore_6 : decode cX7_restore 6 = .ok (.getfield 23, 3) := by decide +kernel
theorem dX7_restore_9 : decode cX7_restore 9 = .ok (.arraylength, 1) := by decide +kernel
theorem dX7_restore_10 : decode cX7_restore 10 = .ok (.if_icmp .lt 6, 3) := by decide +kernel
theorem dX7_restore_13 : decode cX7_restore 13 = .ok (.ldc 78, 2) := by decide +kernel
theorem dX7_restore_15 : decode cX7_restore 15 = .ok (.ireturn, 1) := by decide +kernel
theorem dX7_restore_16 : decode cX7_restore 16 = .ok (.aload_n 0, 1) := by decide +kernel
theorem dX7_restore_17 : decode cX7_restore 17 = .ok (.getfield 23, 3) := by decide +kernel
theorem dX7_restore_20 : decode cX7_restore 20 = .ok (.iload_n 1, 1) := by decide +kernel
theorem dX7_restore_21 : decode cX7_restore 21 = .ok (.aaload, 1) := by decide +kernel
theorem dX7_restore_22 : decode cX7_restore 22 = .ok (.astore_n 2, 1) := by decide +kernel
theorem dX7_restore_23 : decode cX7_restore 23 = .ok (.aload_n 2, 1) := by decide +kernel
theorem dX7_restore_24 : decode cX7_restore 24 = .ok (.ifnonnull 6, 3) := by decide +kernel
theorem dX7_restore_27 : decode cX7_restore 27 = .ok (.ldc 90, 2) := by decide +kernel
theorem dX7_restore_29 : decode cX7_restore 29 = .ok (.ireturn, 1) := by decide +kernel
theorem dX7_restore_30 : decode cX7_restore 30 = .ok (.aload_n 0, 1) := by decide +kernel
theorem dX7_restore_31 : decode cX7_restore 31 = .ok (.invokevirtual 51, 3) := by decide +kernel
theorem dX7_restore_34 : decode cX7_restore 34 = .ok (.aload_n 2, 1) := by decide +kernel
theorem dX7_restore_35 : decode cX7_restore 35 = .ok (.aload_n 0, 1) := by decide +kernel
theorem dX7_restore_36 : decode cX7_restore 36 = .ok (.getfield 10, 3) := by decide +kernel
theorem dX7_restore_39 : decode cX7_restore 39 = .ok (.invokevirtual 252, 3) := by decide +kernel
theorem dX7_restore_42 : decode cX7_restore 42 = .ok (.aload_n 0, 1) := by decide +kernel
theorem dX7_restore_43 : decode cX7_restore 43 = .ok (.getfield 10, 3) := by decide +kernel
theorem dX7_restore_46 : decode cX7_restore 46 = .ok (.getfield 116, 3) := by decide +kernel
theorem dX7_restore_49 : decode cX7_restore 49 = .ok (.ireturn, 1) := by decide +kernel
theorem dX7_reach_0 : decode cX7_reach 0 = .ok (.aload_n 0, 1) := by decide +kernel
theorem dX7_reach_1 : decode cX7_reach 1 = .ok (.getfield 10, 3) := by decide +kernel
theorem dX7_reach_4 : decode cX7_reach 4 = .ok (.iload_n 1, 1) := by decide +kernel
theorem dX7_reach_5 : decode cX7_reach 5 = .ok (.invokevirtual 91, 3) := by decide +kernel
theorem dX7_reach_8 : decode cX7_reach 8 = .ok (.astore_n 3, 1) := by decide +kernel
theorem dX7_reach_9 : decode cX7_reach 9 = .ok (.aload_n 3, 1) := by decide +kernel
theorem dX7_reach_10 : decode cX7_reach 10 = .ok (.ifnonnull 6, 3) := by decide +kernel
theorem dX7_reach_13 : decode cX7_reach 13 = .ok (.ldc 78, 2) := by decide +kernel
theorem dX7_reach_15 : decode cX7_reach 15 = .ok (.ireturn, 1) := by decide +kernel
theorem dX7_reach_16 : decode cX7_reach 16 = .ok (.aload_n 3, 1) := by decide +kernel
theorem dX7_reach_17 : decode cX7_reach 17 = .ok (.iload_n 2, 1) := by decide +kernel
theorem dX7_reach_18 : decode cX7_reach 18 = .ok (.invokevirtual 255, 3) := by decide +kernel
theorem dX7_reach_21 : decode cX7_reach 21 = .ok (.ireturn, 1) := by decide +kernel
theorem dX7_chamber_0 : decode cX7_chamber 0 = .ok (.aload_n 0, 1) := by decide +kernel
theorem dX7_chamber_1 : decode cX7_chamber 1 = .ok (.getfield 10, 3) := by decide +kernel
theorem dX7_chamber_4 : decode cX7_chamber 4 = .ok (.iload_n 1, 1) := by decide +kernel
theorem dX7_chamber_5 : decode cX7_chamber 5 = .ok (.invokevirtual 159, 3) := by decide +kernel
theorem dX7_chamber_8 : decode cX7_chamber 8 = .ok (.astore_n 3, 1) := by decide +kernel
theorem dX7_chamber_9 : decode cX7_chamber 9 = .ok (.aload_n 3, 1) := by decide +kernel
theorem dX7_chamber_10 : decode cX7_chamber 10 = .ok (.ifnonnull 6, 3) := by decide +kernel
theorem dX7_chamber_13 : decode cX7_chamber 13 = .ok (.ldc 78, 2) := by decide +kernel
theorem dX7_chamber_15 : decode cX7_chamber 15 = .ok (.ireturn, 1) := by decide +kernel
theorem dX7_chamber_16 : decode cX7_chamber 16 = .ok (.iload_n 2, 1) := by decide +kernel
theorem dX7_chamber_17 : decode cX7_chamber 17 = .ok (.tableswitch 103 6 12 #[43, 48, 53, 71, 79, 87, 95], 43) := by decide +kernel
theorem dX7_chamber_60 : decode cX7_chamber 60 = .ok (.aload_n 3, 1) := by decide +kernel
theorem dX7_chamber_61 : decode cX7_chamber 61 = .ok (.getfield 258, 3) := by decide +kernel
theorem dX7_chamber_64 : decode cX7_chamber 64 = .ok (.ireturn, 1) := by decide +kernel
theorem dX7_chamber_65 : decode cX7_chamber 65 = .ok (.aload_n 3, 1) := by decide +kernel
theorem dX7_chamber_66 : decode cX7_chamber 66 = .ok (.getfield 199, 3) := by decide +kernel
theorem dX7_chamber_69 : decode cX7_chamber 69 = .ok (.ireturn, 1) := by decide +kernel
theorem dX7_chamber_70 : decode cX7_chamber 70 = .ok (.aload_n 3, 1) := by decide +kernel
theorem dX7_chamber_71 : decode cX7_chamber 71 = .ok (.getfield 167, 3) := by decide +kernel
theorem dX7_chamber_74 : decode cX7_chamber 74 = .ok (.iconst (-1), 1) := by decide +kernel
theorem dX7_chamber_75 : decode cX7_chamber 75 = .ok (.if_icmp .ne 8, 3) := by decide +kernel
theorem dX7_chamber_78 : decode cX7_chamber 78 = .ok (.ldc 90, 2) := by decide +kernel
theorem dX7_chamber_80 : decode cX7_chamber 80 = .ok (.goto 7, 3) := by decide +kernel
theorem dX7_chamber_83 : decode cX7_chamber 83 = .ok (.aload_n 3, 1) := by decide +kernel
theorem dX7_chamber_84 : decode cX7_chamber 84 = .ok (.getfield 167, 3) := by decide +kernel
theorem dX7_chamber_87 : decode cX7_chamber 87 = .ok (.ireturn, 1) := by decide +kernel
theorem dX7_chamber_88 : decode cX7_chamber 88 = .ok (.aload_n 3, 1) := by decide +kernel
theorem dX7_chamber_89 : decode cX7_chamber 89 = .ok (.getfield 259, 3) := by decide +kernel
theorem dX7_chamber_92 : decode cX7_chamber 92 = .ok (.invokevirtual 263, 3) := by decide +kernel
theorem dX7_chamber_95 : decode cX7_chamber 95 = .ok (.ireturn, 1) := by decide +kernel
theorem dX7_chamber_96 : decode cX7_chamber 96 = .ok (.aload_n 3, 1) := by decide +kernel
theorem dX7_chamber_97 : decode cX7_chamber 97 = .ok (.getfield 266, 3) := by decide +kernel
theorem dX7_chamber_100 : decode cX7_chamber 100 = .ok (.invokevirtual 263, 3) := by decide +kernel
theorem dX7_chamber_103 : decode cX7_chamber 103 = .ok (.ireturn, 1) := by decide +kernel
theorem dX7_chamber_104 : decode cX7_chamber 104 = .ok (.aload_n 3, 1) := by decide +kernel
theorem dX7_chamber_105 : decode cX7_chamber 105 = .ok (.getfield 259, 3) := by decide +kernel
theorem dX7_chamber_108 : decode cX7_chamber 108 = .ok (.getfield 269, 3) := by decide +kernel
theorem dX7_chamber_111 : decode cX7_chamber 111 = .ok (.ireturn, 1) := by decide +kernel
theorem dX7_chamber_112 : decode cX7_chamber 112 = .ok (.aload_n 3, 1) := by decide +kernel
theorem dX7_chamber_113 : decode cX7_chamber 113 = .ok (.getfield 266, 3) := by decide +kernel
theorem dX7_chamber_116 : decode cX7_chamber 116 = .ok (.getfield 269, 3) := by decide +kernel
theorem dX7_chamber_119 : decode cX7_chamber 119 = .ok (.ireturn, 1) := by decide +kernel
theorem dX7_chamber_120 : decode cX7_chamber 120 = .ok (.aload_n 3, 1) := by decide +kernel
theorem dX7_chamber_121 : decode cX7_chamber 121 = .ok (.getfield 172, 3) := by decide +kernel
theorem dX7_chamber_124 : decode cX7_chamber 124 = .ok (.iload_n 2, 1) := by decide +kernel
theorem dX7_chamber_125 : decode cX7_chamber 125 = .ok (.invokevirtual 255, 3) := by decide +kernel
theorem dX7_chamber_128 : decode cX7_chamber 128 = .ok (.ireturn, 1) := by decide +kernel
theorem dX7_lying_0 : decode cX7_lying 0 = .ok (.aload_n 0, 1) := by decide +kernel
theorem dX7_lying_1 : decode cX7_lying 1 = .ok (.getfield 10, 3) := by decide +kernel
theorem dX7_lying_4 : decode cX7_lying 4 = .ok (.iload_n 1, 1) := by decide +kernel
theorem dX7_lying_5 : decode cX7_lying 5 = .ok (.invokevirtual 159, 3) := by decide +kernel
theorem dX7_lying_8 : decode cX7_lying 8 = .ok (.astore_n 3, 1) := by decide +kernel
theorem dX7_lying_9 : decode cX7_lying 9 = .ok (.aload_n 3, 1) := by decide +kernel
theorem dX7_lying_10 : decode cX7_lying 10 = .ok (.ifnonnull 6, 3) := by decide +kernel
theorem dX7_lying_13 : decode cX7_lying 13 = .ok (.ldc 78, 2) := by decide +kernel
theorem dX7_lying_15 : decode cX7_lying 15 = .ok (.ireturn, 1) := by decide +kernel
theorem dX7_lying_16 : decode cX7_lying 16 = .ok (.iload_n 2, 1) := by decide +kernel
theorem dX7_lying_17 : decode cX7_lying 17 = .ok (.ifCond .ge 6, 3) := by decide +kernel
theorem dX7_lying_20 : decode cX7_lying 20 = .ok (.ldc 46, 2) := by decide +kernel
theorem dX7_lying_22 : decode cX7_lying 22 = .ok (.ireturn, 1) := by decide +kernel
theorem dX7_lying_23 : decode cX7_lying 23 = .ok (.aload_n 3, 1) := by decide +kernel
theorem dX7_lying_24 : decode cX7_lying 24 = .ok (.iload_n 2, 1) := by decide +kernel
theorem dX7_lying_25 : decode cX7_lying 25 = .ok (.invokevirtual 272, 3) := by decide +kernel
theorem dX7_lying_28 : decode cX7_lying 28 = .ok (.istore 4, 2) := by decide +kernel
theorem dX7_lying_30 : decode cX7_lying 30 = .ok (.iload 4, 2) := by decide +kernel
theorem dX7_lying_32 : decode cX7_lying 32 = .ok (.iconst (-1), 1) := by decide +kernel
theorem dX7_lying_33 : decode cX7_lying 33 = .ok (.if_icmp .ne 8, 3) := by decide +kernel
theorem dX7_lying_36 : decode cX7_lying 36 = .ok (.ldc 90, 2) := by decide +kernel
theorem dX7_lying_38 : decode cX7_lying 38 = .ok (.goto 5, 3) := by decide +kernel
theorem dX7_lying_41 : decode cX7_lying 41 = .ok (.iload 4, 2) := by decide +kernel
theorem dX7_lying_43 : decode cX7_lying 43 = .ok (.ireturn, 1) := by decide +kernel
theorem dX7_barge_0 : decode cX7_barge 0 = .ok (.aload_n 0, 1) := by decide +kernel
theorem dX7_barge_1 : decode cX7_barge 1 = .ok (.getfield 10, 3) := by decide +kernel
theorem dX7_barge_4 : decode cX7_barge 4 = .ok (.iload_n 1, 1) := by decide +kernel
theorem dX7_barge_5 : decode cX7_barge 5 = .ok (.invokevirtual 123, 3) := by decide +kernel
theorem dX7_barge_8 : decode cX7_barge 8 = .ok (.astore_n 3, 1) := by decide +kernel
theorem dX7_barge_9 : decode cX7_barge 9 = .ok (.aload_n 3, 1) := by decide +kernel
theorem dX7_barge_10 : decode cX7_barge 10 = .ok (.ifnonnull 6, 3) := by decide +kernel
theorem dX7_barge_13 : decode cX7_barge 13 = .ok (.ldc 78, 2) := by decide +kernel
theorem dX7_barge_15 : decode cX7_barge 15 = .ok (.ireturn, 1) := by decide +kernel
theorem dX7_barge_16 : decode cX7_barge 16 = .ok (.aload_n 0, 1) := by decide +kernel
theorem dX7_barge_17 : decode cX7_barge 17 = .ok (.getfield 10, 3) := by decide +kernel
theorem dX7_barge_20 : decode cX7_barge 20 = .ok (.aload_n 3, 1) := by decide +kernel
theorem dX7_barge_21 : decode cX7_barge 21 = .ok (.iload_n 2, 1) := by decide +kernel
theorem dX7_barge_22 : decode cX7_barge 22 = .ok (.invokevirtual 275, 3) := by decide +kernel
theorem dX7_barge_25 : decode cX7_barge 25 = .ok (.ireturn, 1) := by decide +kernel
theorem dX7_margin_0 : decode cX7_margin 0 = .ok (.aload_n 0, 1) := by decide +kernel
theorem dX7_margin_1 : decode cX7_margin 1 = .ok (.getfield 10, 3) := by decide +kernel
theorem dX7_margin_4 : decode cX7_margin 4 = .ok (.iload_n 1, 1) := by decide +kernel
theorem dX7_margin_5 : decode cX7_margin 5 = .ok (.invokevirtual 123, 3) := by decide +kernel
theorem dX7_margin_8 : decode cX7_margin 8 = .ok (.astore 4, 2) := by decide +kernel
theorem dX7_margin_10 : decode cX7_margin 10 = .ok (.aload_n 0, 1) := by decide +kernel
theorem dX7_margin_11 : decode cX7_margin 11 = .ok (.getfield 10, 3) := by decide +kernel
theorem dX7_margin_14 : decode cX7_margin 14 = .ok (.iload_n 2, 1) := by decide +kernel
theorem dX7_margin_15 : decode cX7_margin 15 = .ok (.invokevirtual 159, 3) := by decide +kernel
theorem dX7_margin_18 : decode cX7_margin 18 = .ok (.astore 5, 2) := by decide +kernel
theorem dX7_margin_20 : decode cX7_margin 20 = .ok (.aload_n 0, 1) := by decide +kernel
theorem dX7_margin_21 : decode cX7_margin 21 = .ok (.getfield 10, 3) := by decide +kernel
theorem dX7_margin_24 : decode cX7_margin 24 = .ok (.iload_n 2, 1) := by decide +kernel
theorem dX7_margin_25 : decode cX7_margin 25 = .ok (.iload_n 3, 1) := by decide +kernel
theorem dX7_margin_26 : decode cX7_margin 26 = .ok (.invokevirtual 74, 3) := by decide +kernel
theorem dX7_margin_29 : decode cX7_margin 29 = .ok (.astore 6, 2) := by decide +kernel
theorem dX7_margin_31 : decode cX7_margin 31 = .ok (.aload 4, 2) := by decide +kernel
theorem dX7_margin_33 : decode cX7_margin 33 = .ok (.ifnull 13, 3) := by decide +kernel
theorem dX7_margin_36 : decode cX7_margin 36 = .ok (.aload 5, 2) := by decide +kernel
theorem dX7_margin_38 : decode cX7_margin 38 = .ok (.ifnull 8, 3) := by decide +kernel
theorem dX7_margin_41 : decode cX7_margin 41 = .ok (.aload 6, 2) := by decide +kernel
theorem dX7_margin_43 : decode cX7_margin 43 = .ok (.ifnonnull 6, 3) := by decide +kernel
theorem dX7_margin_46 : decode cX7_margin 46 = .ok (.ldc 78, 2) := by decide +kernel
theorem dX7_margin_48 : decode cX7_margin 48 = .ok (.ireturn, 1) := by decide +kernel
theorem dX7_margin_49 : decode cX7_margin 49 = .ok (.aload_n 0, 1) := by decide +kernel
theorem dX7_margin_50 : decode cX7_margin 50 = .ok (.getfield 10, 3) := by decide +kernel
theorem dX7_margin_53 : decode cX7_margin 53 = .ok (.aload 5, 2) := by decide +kernel
theorem dX7_margin_55 : decode cX7_margin 55 = .ok (.aload 6, 2) := by decide +kernel
theorem dX7_margin_57 : decode cX7_margin 57 = .ok (.invokevirtual 202, 3) := by decide +kernel
theorem dX7_margin_60 : decode cX7_margin 60 = .ok (.aload 4, 2) := by decide +kernel
theorem dX7_margin_62 : decode cX7_margin 62 = .ok (.getfield 279, 3) := by decide +kernel
theorem dX7_margin_65 : decode cX7_margin 65 = .ok (.i2l, 1) := by decide +kernel
theorem dX7_margin_66 : decode cX7_margin 66 = .ok (.lmul, 1) := by decide +kernel
theorem dX7_margin_67 : decode cX7_margin 67 = .ok (.lstore 7, 2) := by decide +kernel
theorem dX7_margin_69 : decode cX7_margin 69 = .ok (.aload 4, 2) := by decide +kernel
theorem dX7_margin_71 : decode cX7_margin 71 = .ok (.invokevirtual 282, 3) := by decide +kernel
theorem dX7_margin_74 : decode cX7_margin 74 = .ok (.i2l, 1) := by decide +kernel
theorem dX7_margin_75 : decode cX7_margin 75 = .ok (.lload 7, 2) := by decide +kernel
theorem dX7_margin_77 : decode cX7_margin 77 = .ok (.lcmp, 1) := by decide +kernel
theorem dX7_margin_78 : decode cX7_margin 78 = .ok (.ifCond .le 6, 3) := by decide +kernel
theorem dX7_margin_81 : decode cX7_margin 81 = .ok (.ldc 90, 2) := by decide +kernel
theorem dX7_margin_83 : decode cX7_margin 83 = .ok (.ireturn, 1) := by decide +kernel
theorem dX7_margin_84 : decode cX7_margin 84 = .ok (.lload 7, 2) := by decide +kernel
theorem dX7_margin_86 : decode cX7_margin 86 = .ok (.aload 4, 2) := by decide +kernel
theorem dX7_margin_88 : decode cX7_margin 88 = .ok (.invokevirtual 282, 3) := by decide +kernel
theorem dX7_margin_91 : decode cX7_margin 91 = .ok (.i2l, 1) := by decide +kernel
theorem dX7_margin_92 : decode cX7_margin 92 = .ok (.lsub, 1) := by decide +kernel
theorem dX7_margin_93 : decode cX7_margin 93 = .ok (.aload 4, 2) := by decide +kernel
theorem dX7_margin_95 : decode cX7_margin 95 = .ok (.invokevirtual 146, 3) := by decide +kernel
theorem dX7_margin_98 : decode cX7_margin 98 = .ok (.i2l, 1) := by decide +kernel
theorem dX7_margin_99 : decode cX7_margin 99 = .ok (.invokestatic 285, 3) := by decide +kernel
theorem dX7_margin_102 : decode cX7_margin 102 = .ok (.l2i, 1) := by decide +kernel
theorem dX7_margin_103 : decode cX7_margin 103 = .ok (.ireturn, 1) := by decide +kernel
theorem dX7_flow_0 : decode cX7_flow 0 = .ok (.aload_n 0, 1) := by decide +kernel
theorem dX7_flow_1 : decode cX7_flow 1 = .ok (.getfield 10, 3) := by decide +kernel
theorem dX7_flow_4 : decode cX7_flow 4 = .ok (.iload_n 1, 1) := by decide +kernel
theorem dX7_flow_5 : decode cX7_flow 5 = .ok (.invokevirtual 159, 3) := by decide +kernel
theorem dX7_flow_8 : decode cX7_flow 8 = .ok (.astore_n 3, 1) := by decide +kernel
theorem dX7_flow_9 : decode cX7_flow 9 = .ok (.aload_n 0, 1) := by decide +kernel
theorem dX7_flow_10 : decode cX7_flow 10 = .ok (.getfield 10, 3) := by decide +kernel
theorem dX7_flow_13 : decode cX7_flow 13 = .ok (.iload_n 1, 1) := by decide +kernel
theorem dX7_flow_14 : decode cX7_flow 14 = .ok (.iload_n 2, 1) := by decide +kernel
theorem dX7_flow_15 : decode cX7_flow 15 = .ok (.invokevirtual 163, 3) := by decide +kernel
theorem dX7_flow_18 : decode cX7_flow 18 = .ok (.astore 4, 2) := by decide +kernel
theorem dX7_flow_20 : decode cX7_flow 20 = .ok (.aload_n 3, 1) := by decide +kernel
theorem dX7_flow_21 : decode cX7_flow 21 = .ok (.ifnull 8, 3) := by decide +kernel
theorem dX7_flow_24 : decode cX7_flow 24 = .ok (.aload 4, 2) := by decide +kernel
theorem dX7_flow_26 : decode cX7_flow 26 = .ok (.ifnonnull 6, 3) := by decide +kernel
theorem dX7_flow_29 : decode cX7_flow 29 = .ok (.ldc 78, 2) := by decide +kernel
theorem dX7_flow_31 : decode cX7_flow 31 = .ok (.ireturn, 1) := by decide +kernel
theorem dX7_flow_32 : decode cX7_flow 32 = .ok (.aload_n 3, 1) := by decide +kernel
theorem dX7_flow_33 : decode cX7_flow 33 = .ok (.getfield 172, 3) := by decide +kernel
theorem dX7_flow_36 : decode cX7_flow 36 = .ok (.aload 4, 2) := by decide +kernel
theorem dX7_flow_38 : decode cX7_flow 38 = .ok (.invokevirtual 289, 3) := by decide +kernel
theorem dX7_flow_41 : decode cX7_flow 41 = .ok (.l2i, 1) := by decide +kernel
theorem dX7_flow_42 : decode cX7_flow 42 = .ok (.ireturn, 1) := by decide +kernel
theorem dX7_account_0 : decode cX7_account 0 = .ok (.iload_n 1, 1) := by decide +kernel
theorem dX7_account_1 : decode cX7_account 1 = .ok (.tableswitch 104 0 6 #[43, 51, 60, 69, 78, 86, 94], 43) := by decide +kernel
theorem dX7_account_44 : decode cX7_account 44 = .ok (.aload_n 0, 1) := by decide +kernel
theorem dX7_account_45 : decode cX7_account 45 = .ok (.getfield 10, 3) := by decide +kernel
theorem dX7_account_48 : decode cX7_account 48 = .ok (.invokevirtual 293, 3) := by decide +kernel
theorem dX7_account_51 : decode cX7_account 51 = .ok (.lreturn, 1) := by decide +kernel
theorem dX7_account_52 : decode cX7_account 52 = .ok (.aload_n 0, 1) := by decide +kernel
theorem dX7_account_53 : decode cX7_account 53 = .ok (.getfield 10, 3) := by decide +kernel
theorem dX7_account_56 : decode cX7_account 56 = .ok (.iconst 4, 1) := by decide +kernel
theorem dX7_account_57 : decode cX7_account 57 = .ok (.invokevirtual 296, 3) := by decide +kernel
theorem dX7_account_60 : decode cX7_account 60 = .ok (.lreturn, 1) := by decide +kernel
theorem dX7_account_61 : decode cX7_account 61 = .ok (.aload_n 0, 1) := by decide +kernel
theorem dX7_account_62 : decode cX7_account 62 = .ok (.getfield 10, 3) := by decide +kernel
theorem dX7_account_65 : decode cX7_account 65 = .ok (.iconst 3, 1) := by decide +kernel
theorem dX7_account_66 : decode cX7_account 66 = .ok (.invokevirtual 296, 3) := by decide +kernel
theorem dX7_account_69 : decode cX7_account 69 = .ok (.lreturn, 1) := by decide +kernel
theorem dX7_account_70 : decode cX7_account 70 = .ok (.aload_n 0, 1) := by decide +kernel
theorem dX7_account_71 : decode cX7_account 71 = .ok (.getfield 10, 3) := by decide +kernel
theorem dX7_account_74 : decode cX7_account 74 = .ok (.iconst 1, 1) := by decide +kernel
theorem dX7_account_75 : decode cX7_account 75 = .ok (.invokevirtual 296, 3) := by decide +kernel
theorem dX7_account_78 : decode cX7_account 78 = .ok (.lreturn, 1) := by decide +kernel
theorem dX7_account_79 : decode cX7_account 79 = .ok (.aload_n 0, 1) := by decide +kernel
theorem dX7_account_80 : decode cX7_account 80 = .ok (.getfield 10, 3) := by decide +kernel
theorem dX7_account_83 : decode cX7_account 83 = .ok (.getfield 109, 3) := by decide +kernel
theorem dX7_account_86 : decode cX7_account 86 = .ok (.lreturn, 1) := by decide +kernel
theorem dX7_account_87 : decode cX7_account 87 = .ok (.aload_n 0, 1) := by decide +kernel
theorem dX7_account_88 : decode cX7_account 88 = .ok (.getfield 10, 3) := by decide +kernel
theorem dX7_account_91 : decode cX7_account 91 = .ok (.getfield 300, 3) := by decide +kernel
theorem dX7_account_94 : decode cX7_account 94 = .ok (.lreturn, 1) := by decide +kernel
theorem dX7_account_95 : decode cX7_account 95 = .ok (.aload_n 0, 1) := by decide +kernel
theorem dX7_account_96 : decode cX7_account 96 = .ok (.getfield 10, 3) := by decide +kernel
theorem dX7_account_99 : decode cX7_account 99 = .ok (.bipush 8, 2) := by decide +kernel
theorem dX7_account_101 : decode cX7_account 101 = .ok (.invokevirtual 296, 3) := by decide +kernel
theorem dX7_account_104 : decode cX7_account 104 = .ok (.lreturn, 1) := by decide +kernel
theorem dX7_account_105 : decode cX7_account 105 = .ok (.ldc2_w 303, 3) := by decide +kernel
theorem dX7_account_108 : decode cX7_account 108 = .ok (.lreturn, 1) := by decide +kernel
theorem dX7_count_0 : decode cX7_count 0 = .ok (.iload_n 1, 1) := by decide +kernel
theorem dX7_count_1 : decode cX7_count 1 = .ok (.tableswitch 135 0 9 #[55, 63, 71, 79, 87, 98, 106, 114, 119, 127], 55) := by decide +kernel
theorem dX7_count_56 : decode cX7_count 56 = .ok (.aload_n 0, 1) := by decide +kernel
theorem dX7_count_57 : decode cX7_count 57 = .ok (.getfield 10, 3) := by decide +kernel
theorem dX7_count_60 : decode cX7_count 60 = .ok (.getfield 47, 3) := by decide +kernel
theorem dX7_count_63 : decode cX7_count 63 = .ok (.ireturn, 1) := by decide +kernel
theorem dX7_count_64 : decode cX7_count 64 = .ok (.aload_n 0, 1) := by decide +kernel
theorem dX7_count_65 : decode cX7_count 65 = .ok (.getfield 10, 3) := by decide +kernel
theorem dX7_count_68 : decode cX7_count 68 = .ok (.getfield 68, 3) := by decide +kernel
theorem dX7_count_71 : decode cX7_count 71 = .ok (.ireturn, 1) := by decide +kernel
theorem dX7_count_72 : decode cX7_count 72 = .ok (.aload_n 0, 1) := by decide +kernel
theorem dX7_count_73 : decode cX7_count 73 = .ok (.getfield 10, 3) := by decide +kernel
theorem dX7_count_76 : decode cX7_count 76 = .ok (.getfield 116, 3) := by decide +kernel
theorem dX7_count_79 : decode cX7_count 79 = .ok (.ireturn, 1) := by decide +kernel
theorem dX7_count_80 : decode cX7_count 80 = .ok (.aload_n 0, 1) := by decide +kernel
theorem dX7_count_81 : decode cX7_count 81 = .ok (.getfield 10, 3) := by decide +kernel
theorem dX7_count_84 : decode cX7_count 84 = .ok (.invokevirtual 305, 3) := by decide +kernel
theorem dX7_count_87 : decode cX7_count 87 = .ok (.ireturn, 1) := by decide +kernel
theorem dX7_count_88 : decode cX7_count 88 = .ok (.aload_n 0, 1) := by decide +kernel
theorem dX7_count_89 : decode cX7_count 89 = .ok (.getfield 10, 3) := by decide +kernel
theorem dX7_count_92 : decode cX7_count 92 = .ok (.bipush 6, 2) := by decide +kernel
theorem dX7_count_94 : decode cX7_count 94 = .ok (.invokevirtual 296, 3) := by decide +kernel
theorem dX7_count_97 : decode cX7_count 97 = .ok (.l2i, 1) := by decide +kernel
theorem dX7_count_98 : decode cX7_count 98 = .ok (.ireturn, 1) := by decide +kernel
theorem dX7_count_99 : decode cX7_count 99 = .ok (.aload_n 0, 1) := by decide +kernel
theorem dX7_count_100 : decode cX7_count 100 = .ok (.getfield 10, 3) := by decide +kernel
theorem dX7_count_103 : decode cX7_count 103 = .ok (.invokevirtual 308, 3) := by decide +kernel
theorem dX7_count_106 : decode cX7_count 106 = .ok (.ireturn, 1) := by decide +kernel
theorem dX7_count_107 : decode cX7_count 107 = .ok (.aload_n 0, 1) := by decide +kernel
theorem dX7_count_108 : decode cX7_count 108 = .ok (.getfield 10, 3) := by decide +kernel
theorem dX7_count_111 : decode cX7_count 111 = .ok (.getfield 84, 3) := by decide +kernel
theorem dX7_count_114 : decode cX7_count 114 = .ok (.ireturn, 1) := by decide +kernel
theorem dX7_count_115 : decode cX7_count 115 = .ok (.aload_n 0, 1) := by decide +kernel
theorem dX7_count_116 : decode cX7_count 116 = .ok (.getfield 34, 3) := by decide +kernel
theorem dX7_count_119 : decode cX7_count 119 = .ok (.ireturn, 1) := by decide +kernel
theorem dX7_count_120 : decode cX7_count 120 = .ok (.aload_n 0, 1) := by decide +kernel
theorem dX7_count_121 : decode cX7_count 121 = .ok (.getfield 19, 3) := by decide +kernel
theorem dX7_count_124 : decode cX7_count 124 = .ok (.getfield 245, 3) := by decide +kernel
theorem dX7_count_127 : decode cX7_count 127 = .ok (.ireturn, 1) := by decide +kernel
theorem dX7_count_128 : decode cX7_count 128 = .ok (.aload_n 0, 1) := by decide +kernel
theorem dX7_count_129 : decode cX7_count 129 = .ok (.getfield 30, 3) := by decide +kernel
theorem dX7_count_132 : decode cX7_count 132 = .ok (.getfield 311, 3) := by decide +kernel
theorem dX7_count_135 : decode cX7_count 135 = .ok (.ireturn, 1) := by decide +kernel
theorem dX7_count_136 : decode cX7_count 136 = .ok (.ldc 46, 2) := by decide +kernel
theorem dX7_count_138 : decode cX7_count 138 = .ok (.ireturn, 1) := by decide +kernel
theorem dX7_isWithin_0 : decode cX7_isWithin 0 = .ok (.iload_n 0, 1) := by decide +kernel
theorem dX7_isWithin_1 : decode cX7_isWithin 1 = .ok (.iload_n 1, 1) := by decide +kernel
theorem dX7_isWithin_2 : decode cX7_isWithin 2 = .ok (.if_icmp .lt 12, 3) := by decide +kernel
theorem dX7_isWithin_5 : decode cX7_isWithin 5 = .ok (.iload_n 0, 1) := by decide +kernel
theorem dX7_isWithin_6 : decode cX7_isWithin 6 = .ok (.iload_n 2, 1) := by decide +kernel
theorem dX7_isWithin_7 : decode cX7_isWithin 7 = .ok (.if_icmp .gt 7, 3) := by decide +kernel
theorem dX7_isWithin_10 : decode cX7_isWithin 10 = .ok (.iconst 1, 1) := by decide +kernel
theorem dX7_isWithin_11 : decode cX7_isWithin 11 = .ok (.goto 4, 3) := by decide +kernel
theorem dX7_isWithin_14 : decode cX7_isWithin 14 = .ok (.iconst 0, 1) := by decide +kernel
theorem dX7_isWithin_15 : decode cX7_isWithin 15 = .ok (.ireturn, 1) := by decide +kernel
theorem dX7_isBasin_0 : decode cX7_isBasin 0 = .ok (.iload_n 0, 1) := by decide +kernel
theorem dX7_isBasin_1 : decode cX7_isBasin 1 = .ok (.bipush 100, 2) := by decide +kernel
theorem dX7_isBasin_3 : decode cX7_isBasin 3 = .ok (.ldc_w 312, 3) := by decide +kernel
theorem dX7_isBasin_6 : decode cX7_isBasin 6 = .ok (.invokestatic 65, 3) := by decide +kernel
theorem dX7_isBasin_9 : decode cX7_isBasin 9 = .ok (.ifCond .eq 18, 3) := by decide +kernel
theorem dX7_isBasin_12 : decode cX7_isBasin 12 = .ok (.iload_n 1, 1) := by decide +kernel
theorem dX7_isBasin_13 : decode cX7_isBasin 13 = .ok (.iconst 0, 1) := by decide +kernel
theorem dX7_isBasin_14 : decode cX7_isBasin 14 = .ok (.sipush 5000, 3) := by decide +kernel
theorem dX7_isBasin_17 : decode cX7_isBasin 17 = .ok (.invokestatic 65, 3) := by decide +kernel
theorem dX7_isBasin_20 : decode cX7_isBasin 20 = .ok (.ifCond .eq 7, 3) := by decide +kernel
theorem dX7_isBasin_23 : decode cX7_isBasin 23 = .ok (.iconst 1, 1) := by decide +kernel
theorem dX7_isBasin_24 : decode cX7_isBasin 24 = .ok (.goto 4, 3) := by decide +kernel
theorem dX7_isBasin_27 : decode cX7_isBasin 27 = .ok (.iconst 0, 1) := by decide +kernel
theorem dX7_isBasin_28 : decode cX7_isBasin 28 = .ok (.ireturn, 1) := by decide +kernel
theorem dX7_isReach_0 : decode cX7_isReach 0 = .ok (.iload_n 0, 1) := by decide +kernel
theorem dX7_isReach_1 : decode cX7_isReach 1 = .ok (.iload_n 1, 1) := by decide +kernel
theorem dX7_isReach_2 : decode cX7_isReach 2 = .ok (.invokestatic 61, 3) := by decide +kernel
theorem dX7_isReach_5 : decode cX7_isReach 5 = .ok (.ifCond .eq 18, 3) := by decide +kernel
theorem dX7_isReach_8 : decode cX7_isReach 8 = .ok (.iload_n 2, 1) := by decide +kernel
theorem dX7_isReach_9 : decode cX7_isReach 9 = .ok (.iconst 0, 1) := by decide +kernel
theorem dX7_isReach_10 : decode cX7_isReach 10 = .ok (.ldc_w 313, 3) := by decide +kernel
theorem dX7_isReach_13 : decode cX7_isReach 13 = .ok (.invokestatic 65, 3) := by decide +kernel
theorem dX7_isReach_16 : decode cX7_isReach 16 = .ok (.ifCond .eq 7, 3) := by decide +kernel
theorem dX7_isReach_19 : decode cX7_isReach 19 = .ok (.iconst 1, 1) := by decide +kernel
theorem dX7_isReach_20 : decode cX7_isReach 20 = .ok (.goto 4, 3) := by decide +kernel
theorem dX7_isReach_23 : decode cX7_isReach 23 = .ok (.iconst 0, 1) := by decide +kernel
theorem dX7_isReach_24 : decode cX7_isReach 24 = .ok (.ireturn, 1) := by decide +kernel
theorem dX7_isTons_0 : decode cX7_isTons 0 = .ok (.iload_n 0, 1) := by decide +kernel
theorem dX7_isTons_1 : decode cX7_isTons 1 = .ok (.ifCond .eq 20, 3) := by decide +kernel
theorem dX7_isTons_4 : decode cX7_isTons 4 = .ok (.iload_n 0, 1) := by decide +kernel
theorem dX7_isTons_5 : decode cX7_isTons 5 = .ok (.sipush (-1000), 3) := by decide +kernel
theorem dX7_isTons_8 : decode cX7_isTons 8 = .ok (.sipush 1000, 3) := by decide +kernel
theorem dX7_isTons_11 : decode cX7_isTons 11 = .ok (.invokestatic 65, 3) := by decide +kernel
theorem dX7_isTons_14 : decode cX7_isTons 14 = .ok (.ifCond .eq 7, 3) := by decide +kernel
theorem dX7_isTons_17 : decode cX7_isTons 17 = .ok (.iconst 1, 1) := by decide +kernel
theorem dX7_isTons_18 : decode cX7_isTons 18 = .ok (.goto 4, 3) := by decide +kernel
theorem dX7_isTons_21 : decode cX7_isTons 21 = .ok (.iconst 0, 1) := by decide +kernel
theorem dX7_isTons_22 : decode cX7_isTons 22 = .ok (.ireturn, 1) := by decide +kernel
theorem dX7_divideDown_0 : decode cX7_divideDown 0 = .ok (.lload_n 2, 1) := by decide +kernel
theorem dX7_divideDown_1 : decode cX7_divideDown 1 = .ok (.lconst 1, 1) := by decide +kernel
theorem dX7_divideDown_2 : decode cX7_divideDown 2 = .ok (.lcmp, 1) := by decide +kernel
theorem dX7_divideDown_3 : decode cX7_divideDown 3 = .ok (.ifCond .ge 7, 3) := by decide +kernel
theorem dX7_divideDown_6 : decode cX7_divideDown 6 = .ok (.lconst 0, 1) := by decide +kernel
theorem dX7_divideDown_7 : decode cX7_divideDown 7 = .ok (.goto 8, 3) := by decide +kernel
theorem dX7_divideDown_10 : decode cX7_divideDown 10 = .ok (.lload_n 0, 1) := by decide +kernel
theorem dX7_divideDown_11 : decode cX7_divideDown 11 = .ok (.lload_n 2, 1) := by decide +kernel
theorem dX7_divideDown_12 : decode cX7_divideDown 12 = .ok (.invokestatic 314, 3) := by decide +kernel
theorem dX7_divideDown_15 : decode cX7_divideDown 15 = .ok (.lreturn, 1) := by decide +kernel
theorem dX7_refuse_0 : decode cX7_refuse 0 = .ok (.aload_n 0, 1) := by decide +kernel
theorem dX7_refuse_1 : decode cX7_refuse 1 = .ok (.iload_n 1, 1) := by decide +kernel
theorem dX7_refuse_2 : decode cX7_refuse 2 = .ok (.putfield 34, 3) := by decide +kernel
theorem dX7_refuse_5 : decode cX7_refuse 5 = .ok (.ldc_w 317, 3) := by decide +kernel
theorem dX7_refuse_8 : decode cX7_refuse 8 = .ok (.ireturn, 1) := by decide +kernel
theorem dX7_record_0 : decode cX7_record 0 = .ok (.aload_n 0, 1) := by decide +kernel
theorem dX7_record_1 : decode cX7_record 1 = .ok (.getfield 38, 3) := by decide +kernel
theorem dX7_record_4 : decode cX7_record 4 = .ok (.ifCond .ne 14, 3) := by decide +kernel
theorem dX7_record_7 : decode cX7_record 7 = .ok (.aload_n 0, 1) := by decide +kernel
theorem dX7_record_8 : decode cX7_record 8 = .ok (.getfield 19, 3) := by decide +kernel
theorem dX7_record_11 : decode cX7_record 11 = .ok (.aload_n 0, 1) := by decide +kernel
theorem dX7_record_12 : decode cX7_record 12 = .ok (.getfield 10, 3) := by decide +kernel
theorem dX7_record_15 : decode cX7_record 15 = .ok (.invokevirtual 318, 3) := by decide +kernel
theorem dX7_record_18 : decode cX7_record 18 = .ok (.return_, 1) := by decide +kernel
theorem dX7_carryOut_0 : decode cX7_carryOut 0 = .ok (.aload_n 0, 1) := by decide +kernel
theorem dX7_carryOut_1 : decode cX7_carryOut 1 = .ok (.getfield 30, 3) := by decide +kernel
theorem dX7_carryOut_4 : decode cX7_carryOut 4 = .ok (.getfield 321, 3) := by decide +kernel
theorem dX7_carryOut_7 : decode cX7_carryOut 7 = .ok (.tableswitch 167 0 6 #[41, 60, 79, 91, 110, 129, 148], 41) := by decide +kernel
theorem dX7_carryOut_48 : decode cX7_carryOut 48 = .ok (.aload_n 0, 1) := by decide +kernel
theorem dX7_carryOut_49 : decode cX7_carryOut 49 = .ok (.aload_n 0, 1) := by decide +kernel
theorem dX7_carryOut_50 : decode cX7_carryOut 50 = .ok (.getfield 30, 3) := by decide +kernel
theorem dX7_carryOut_53 : decode cX7_carryOut 53 = .ok (.getfield 324, 3) := by decide +kernel
theorem dX7_carryOut_56 : decode cX7_carryOut 56 = .ok (.aload_n 0, 1) := by decide +kernel
theorem dX7_carryOut_57 : decode cX7_carryOut 57 = .ok (.getfield 30, 3) := by decide +kernel
theorem dX7_carryOut_60 : decode cX7_carryOut 60 = .ok (.getfield 327, 3) := by decide +kernel
theorem dX7_carryOut_63 : decode cX7_carryOut 63 = .ok (.invokevirtual 330, 3) := by decide +kernel
theorem dX7_carryOut_66 : decode cX7_carryOut 66 = .ok (.ireturn, 1) := by decide +kernel
theorem dX7_carryOut_67 : decode cX7_carryOut 67 = .ok (.aload_n 0, 1) := by decide +kernel
theorem dX7_carryOut_68 : decode cX7_carryOut 68 = .ok (.aload_n 0, 1) := by decide +kernel
theorem dX7_carryOut_69 : decode cX7_carryOut 69 = .ok (.getfield 30, 3) := by decide +kernel
theorem dX7_carryOut_72 : decode cX7_carryOut 72 = .ok (.getfield 324, 3) := by decide +kernel
theorem dX7_carryOut_75 : decode cX7_carryOut 75 = .ok (.aload_n 0, 1) := by decide +kernel
theorem dX7_carryOut_76 : decode cX7_carryOut 76 = .ok (.getfield 30, 3) := by decide +kernel
theorem dX7_carryOut_79 : decode cX7_carryOut 79 = .ok (.getfield 327, 3) := by decide +kernel
theorem dX7_carryOut_82 : decode cX7_carryOut 82 = .ok (.invokevirtual 334, 3) := by decide +kernel
theorem dX7_carryOut_85 : decode cX7_carryOut 85 = .ok (.ireturn, 1) := by decide +kernel
theorem dX7_carryOut_86 : decode cX7_carryOut 86 = .ok (.aload_n 0, 1) := by decide +kernel
theorem dX7_carryOut_87 : decode cX7_carryOut 87 = .ok (.aload_n 0, 1) := by decide +kernel
theorem dX7_carryOut_88 : decode cX7_carryOut 88 = .ok (.getfield 30, 3) := by decide +kernel
theorem dX7_carryOut_91 : decode cX7_carryOut 91 = .ok (.getfield 324, 3) := by decide +kernel
theorem dX7_carryOut_94 : decode cX7_carryOut 94 = .ok (.invokevirtual 337, 3) := by decide +kernel
theorem dX7_carryOut_97 : decode cX7_carryOut 97 = .ok (.ireturn, 1) := by decide +kernel
theorem dX7_carryOut_98 : decode cX7_carryOut 98 = .ok (.aload_n 0, 1) := by decide +kernel
theorem dX7_carryOut_99 : decode cX7_carryOut 99 = .ok (.aload_n 0, 1) := by decide +kernel
theorem dX7_carryOut_100 : decode cX7_carryOut 100 = .ok (.getfield 30, 3) := by decide +kernel
theorem dX7_carryOut_103 : decode cX7_carryOut 103 = .ok (.getfield 324, 3) := by decide +kernel
theorem dX7_carryOut_106 : decode cX7_carryOut 106 = .ok (.aload_n 0, 1) := by decide +kernel
theorem dX7_carryOut_107 : decode cX7_carryOut 107 = .ok (.getfield 30, 3) := by decide +kernel
theorem dX7_carryOut_110 : decode cX7_carryOut 110 = .ok (.getfield 327, 3) := by decide +kernel
theorem dX7_carryOut_113 : decode cX7_carryOut 113 = .ok (.invokevirtual 340, 3) := by decide +kernel
theorem dX7_carryOut_116 : decode cX7_carryOut 116 = .ok (.ireturn, 1) := by decide +kernel
theorem dX7_carryOut_117 : decode cX7_carryOut 117 = .ok (.aload_n 0, 1) := by decide +kernel
theorem dX7_carryOut_118 : decode cX7_carryOut 118 = .ok (.aload_n 0, 1) := by decide +kernel
theorem dX7_carryOut_119 : decode cX7_carryOut 119 = .ok (.getfield 30, 3) := by decide +kernel
theorem dX7_carryOut_122 : decode cX7_carryOut 122 = .ok (.getfield 324, 3) := by decide +kernel
theorem dX7_carryOut_125 : decode cX7_carryOut 125 = .ok (.aload_n 0, 1) := by decide +kernel
theorem dX7_carryOut_126 : decode cX7_carryOut 126 = .ok (.getfield 30, 3) := by decide +kernel
theorem dX7_carryOut_129 : decode cX7_carryOut 129 = .ok (.getfield 327, 3) := by decide +kernel
theorem dX7_carryOut_132 : decode cX7_carryOut 132 = .ok (.invokevirtual 343, 3) := by decide +kernel
theorem dX7_carryOut_135 : decode cX7_carryOut 135 = .ok (.ireturn, 1) := by decide +kernel
theorem dX7_carryOut_136 : decode cX7_carryOut 136 = .ok (.aload_n 0, 1) := by decide +kernel
theorem dX7_carryOut_137 : decode cX7_carryOut 137 = .ok (.aload_n 0, 1) := by decide +kernel
theorem dX7_carryOut_138 : decode cX7_carryOut 138 = .ok (.getfield 30, 3) := by decide +kernel
theorem dX7_carryOut_141 : decode cX7_carryOut 141 = .ok (.getfield 324, 3) := by decide +kernel
theorem dX7_carryOut_144 : decode cX7_carryOut 144 = .ok (.aload_n 0, 1) := by decide +kernel
theorem dX7_carryOut_145 : decode cX7_carryOut 145 = .ok (.getfield 30, 3) := by decide +kernel
theorem dX7_carryOut_148 : decode cX7_carryOut 148 = .ok (.getfield 327, 3) := by decide +kernel
theorem dX7_carryOut_151 : decode cX7_carryOut 151 = .ok (.invokevirtual 346, 3) := by decide +kernel
theorem dX7_carryOut_154 : decode cX7_carryOut 154 = .ok (.ireturn, 1) := by decide +kernel
theorem dX7_carryOut_155 : decode cX7_carryOut 155 = .ok (.aload_n 0, 1) := by decide +kernel
theorem dX7_carryOut_156 : decode cX7_carryOut 156 = .ok (.aload_n 0, 1) := by decide +kernel
theorem dX7_carryOut_157 : decode cX7_carryOut 157 = .ok (.getfield 30, 3) := by decide +kernel
theorem dX7_carryOut_160 : decode cX7_carryOut 160 = .ok (.getfield 324, 3) := by decide +kernel
theorem dX7_carryOut_163 : decode cX7_carryOut 163 = .ok (.aload_n 0, 1) := by decide +kernel
theorem dX7_carryOut_164 : decode cX7_carryOut 164 = .ok (.getfield 30, 3) := by decide +kernel
theorem dX7_carryOut_167 : decode cX7_carryOut 167 = .ok (.getfield 327, 3) := by decide +kernel
theorem dX7_carryOut_170 : decode cX7_carryOut 170 = .ok (.invokevirtual 349, 3) := by decide +kernel
theorem dX7_carryOut_173 : decode cX7_carryOut 173 = .ok (.ireturn, 1) := by decide +kernel
theorem dX7_carryOut_174 : decode cX7_carryOut 174 = .ok (.ldc 78, 2) := by decide +kernel
theorem dX7_carryOut_176 : decode cX7_carryOut 176 = .ok (.ireturn, 1) := by decide +kernel
theorem dJ9_floorDiv_f86c9_0 : decode cJ9_floorDiv_f86c9 0 = .ok (.lload_n 0, 1) := by decide +kernel
theorem dJ9_floorDiv_f86c9_1 : decode cJ9_floorDiv_f86c9 1 = .ok (.lload_n 2, 1) := by decide +kernel
theorem dJ9_floorDiv_f86c9_2 : decode cJ9_floorDiv_f86c9 2 = .ok (.ldiv, 1) := by decide +kernel
theorem dJ9_floorDiv_f86c9_3 : decode cJ9_floorDiv_f86c9 3 = .ok (.lstore 4, 2) := by decide +kernel
theorem dJ9_floorDiv_f86c9_5 : decode cJ9_floorDiv_f86c9 5 = .ok (.lload_n 0, 1) := by decide +kernel
theorem dJ9_floorDiv_f86c9_6 : decode cJ9_floorDiv_f86c9 6 = .ok (.lload_n 2, 1) := by decide +kernel
theorem dJ9_floorDiv_f86c9_7 : decode cJ9_floorDiv_f86c9 7 = .ok (.lxor, 1) := by decide +kernel
theorem dJ9_floorDiv_f86c9_8 : decode cJ9_floorDiv_f86c9 8 = .ok (.lconst 0, 1) := by decide +kernel
theorem dJ9_floorDiv_f86c9_9 : decode cJ9_floorDiv_f86c9 9 = .ok (.lcmp, 1) := by decide +kernel
theorem dJ9_floorDiv_f86c9_10 : decode cJ9_floorDiv_f86c9 10 = .ok (.ifCond .ge 17, 3) := by decide +kernel
theorem dJ9_floorDiv_f86c9_13 : decode cJ9_floorDiv_f86c9 13 = .ok (.lload 4, 2) := by decide +kernel
theorem dJ9_floorDiv_f86c9_15 : decode cJ9_floorDiv_f86c9 15 = .ok (.lload_n 2, 1) := by decide +kernel
theorem dJ9_floorDiv_f86c9_16 : decode cJ9_floorDiv_f86c9 16 = .ok (.lmul, 1) := by decide +kernel
theorem dJ9_floorDiv_f86c9_17 : decode cJ9_floorDiv_f86c9 17 = .ok (.lload_n 0, 1) := by decide +kernel
theorem dJ9_floorDiv_f86c9_18 : decode cJ9_floorDiv_f86c9 18 = .ok (.lcmp, 1) := by decide +kernel
theorem dJ9_floorDiv_f86c9_19 : decode cJ9_floorDiv_f86c9 19 = .ok (.ifCond .eq 8, 3) := by decide +kernel
theorem dJ9_floorDiv_f86c9_22 : decode cJ9_floorDiv_f86c9 22 = .ok (.lload 4, 2) := by decide +kernel
theorem dJ9_floorDiv_f86c9_24 : decode cJ9_floorDiv_f86c9 24 = .ok (.lconst 1, 1) := by decide +kernel
theorem dJ9_floorDiv_f86c9_25 : decode cJ9_floorDiv_f86c9 25 = .ok (.lsub, 1) := by decide +kernel
theorem dJ9_floorDiv_f86c9_26 : decode cJ9_floorDiv_f86c9 26 = .ok (.lreturn, 1) := by decide +kernel
theorem dJ9_floorDiv_f86c9_27 : decode cJ9_floorDiv_f86c9 27 = .ok (.lload 4, 2) := by decide +kernel
theorem dJ9_floorDiv_f86c9_29 : decode cJ9_floorDiv_f86c9 29 = .ok (.lreturn, 1) := by decide +kernel
theorem dJ9_abs_067f4_0 : decode cJ9_abs_067f4 0 = .ok (.lload_n 0, 1) := by decide +kernel
theorem dJ9_abs_067f4_1 : decode cJ9_abs_067f4 1 = .ok (.lconst 0, 1) := by decide +kernel
theorem dJ9_abs_067f4_2 : decode cJ9_abs_067f4 2 = .ok (.lcmp, 1) := by decide +kernel
theorem dJ9_abs_067f4_3 : decode cJ9_abs_067f4 3 = .ok (.ifCond .ge 8, 3) := by decide +kernel
theorem dJ9_abs_067f4_6 : decode cJ9_abs_067f4 6 = .ok (.lload_n 0, 1) := by decide +kernel
theorem dJ9_abs_067f4_7 : decode cJ9_abs_067f4 7 = .ok (.lneg, 1) := by decide +kernel
theorem dJ9_abs_067f4_8 : decode cJ9_abs_067f4 8 = .ok (.goto 4, 3) := by decide +kernel
theorem dJ9_abs_067f4_11 : decode cJ9_abs_067f4 11 = .ok (.lload_n 0, 1) := by decide +kernel
theorem dJ9_abs_067f4_12 : decode cJ9_abs_067f4 12 = .ok (.lreturn, 1) := by decide +kernel
theorem dJ9_max_f86c9_0 : decode cJ9_max_f86c9 0 = .ok (.lload_n 0, 1) := by decide +kernel
theorem dJ9_max_f86c9_1 : decode cJ9_max_f86c9 1 = .ok (.lload_n 2, 1) := by decide +kernel
theorem dJ9_max_f86c9_2 : decode cJ9_max_f86c9 2 = .ok (.lcmp, 1) := by decide +kernel
theorem dJ9_max_f86c9_3 : decode cJ9_max_f86c9 3 = .ok (.ifCond .lt 7, 3) := by decide +kernel
theorem dJ9_max_f86c9_6 : decode cJ9_max_f86c9 6 = .ok (.lload_n 0, 1) := by decide +kernel
theorem dJ9_max_f86c9_7 : decode cJ9_max_f86c9 7 = .ok (.goto 4, 3) := by decide +kernel
theorem dJ9_max_f86c9_10 : decode cJ9_max_f86c9 10 = .ok (.lload_n 2, 1) := by decide +kernel
theorem dJ9_max_f86c9_11 : decode cJ9_max_f86c9 11 = .ok (.lreturn, 1) := by decide +kernel
theorem dJ9_min_7cf53_0 : decode cJ9_min_7cf53 0 = .ok (.iload_n 0, 1) := by decide +kernel
theorem dJ9_min_7cf53_1 : decode cJ9_min_7cf53 1 = .ok (.iload_n 1, 1) := by decide +kernel
theorem dJ9_min_7cf53_2 : decode cJ9_min_7cf53 2 = .ok (.if_icmp .gt 7, 3) := by decide +kernel
theorem dJ9_min_7cf53_5 : decode cJ9_min_7cf53 5 = .ok (.iload_n 0, 1) := by decide +kernel
theorem dJ9_min_7cf53_6 : decode cJ9_min_7cf53 6 = .ok (.goto 4, 3) := by decide +kernel
theorem dJ9_min_7cf53_9 : decode cJ9_min_7cf53 9 = .ok (.iload_n 1, 1) := by decide +kernel
theorem dJ9_min_7cf53_10 : decode cJ9_min_7cf53 10 = .ok (.ireturn, 1) := by decide +kernel
theorem dJ9_min_f86c9_0 : decode cJ9_min_f86c9 0 = .ok (.lload_n 0, 1) := by decide +kernel
theorem dJ9_min_f86c9_1 : decode cJ9_min_f86c9 1 = .ok (.lload_n 2, 1) := by decide +kernel
theorem dJ9_min_f86c9_2 : decode cJ9_min_f86c9 2 = .ok (.lcmp, 1) := by decide +kernel
theorem dJ9_min_f86c9_3 : decode cJ9_min_f86c9 3 = .ok (.ifCond .gt 7, 3) := by decide +kernel
theorem dJ9_min_f86c9_6 : decode cJ9_min_f86c9 6 = .ok (.lload_n 0, 1) := by decide +kernel
theorem dJ9_min_f86c9_7 : decode cJ9_min_f86c9 7 = .ok (.goto 4, 3) := by decide +kernel
theorem dJ9_min_f86c9_10 : decode cJ9_min_f86c9 10 = .ok (.lload_n 2, 1) := by decide +kernel
theorem dJ9_min_f86c9_11 : decode cJ9_min_f86c9 11 = .ok (.lreturn, 1) := by decide +kernel
theorem dJ0_length_8abf5_0 : decode cJ0_length_8abf5 0 = .ok (.aload_n 0, 1) := by decide +kernel
theorem dJ0_length_8abf5_1 : decode cJ0_length_8abf5 1 = .ok (.getfield 9, 3) := by decide +kernel
theorem dJ0_length_8abf5_4 : decode cJ0_length_8abf5 4 = .ok (.arraylength, 1) := by decide +kernel
theorem dJ0_length_8abf5_5 : decode cJ0_length_8abf5 5 = .ok (.aload_n 0, 1) := by decide +kernel
theorem dJ0_length_8abf5_6 : decode cJ0_length_8abf5 6 = .ok (.invokevirtual 335, 3) := by decide +kernel
theorem dJ0_length_8abf5_9 : decode cJ0_length_8abf5 9 = .ok (.ishr, 1) := by decide +kernel
theorem dJ0_length_8abf5_10 : decode cJ0_length_8abf5 10 = .ok (.ireturn, 1) := by decide +kernel
theorem dJ0_charAt_5068e_0 : decode cJ0_charAt_5068e 0 = .ok (.aload_n 0, 1) := by decide +kernel
theorem dJ0_charAt_5068e_1 : decode cJ0_charAt_5068e 1 = .ok (.invokevirtual 492, 3) := by decide +kernel
theorem dJ0_charAt_5068e_4 : decode cJ0_charAt_5068e 4 = .ok (.ifCond .eq 12, 3) := by decide +kernel
theorem dJ0_charAt_5068e_7 : decode cJ0_charAt_5068e 7 = .ok (.aload_n 0, 1) := by decide +kernel
theorem dJ0_charAt_5068e_8 : decode cJ0_charAt_5068e 8 = .ok (.getfield 9, 3) := by decide +kernel
theorem dJ0_charAt_5068e_11 : decode cJ0_charAt_5068e 11 = .ok (.iload_n 1, 1) := by decide +kernel
theorem dJ0_charAt_5068e_12 : decode cJ0_charAt_5068e 12 = .ok (.invokestatic 495, 3) := by decide +kernel
theorem dJ0_charAt_5068e_15 : decode cJ0_charAt_5068e 15 = .ok (.ireturn, 1) := by decide +kernel
theorem dJ0_charAt_5068e_16 : decode cJ0_charAt_5068e 16 = .ok (.aload_n 0, 1) := by decide +kernel
theorem dJ0_charAt_5068e_17 : decode cJ0_charAt_5068e 17 = .ok (.getfield 9, 3) := by decide +kernel
theorem dJ0_charAt_5068e_20 : decode cJ0_charAt_5068e 20 = .ok (.iload_n 1, 1) := by decide +kernel
theorem dJ0_charAt_5068e_21 : decode cJ0_charAt_5068e 21 = .ok (.invokestatic 498, 3) := by decide +kernel
theorem dJ0_charAt_5068e_24 : decode cJ0_charAt_5068e 24 = .ok (.ireturn, 1) := by decide +kernel
theorem dJ0_coder_7d493_0 : decode cJ0_coder_7d493 0 = .ok (.getstatic 38, 3) := by decide +kernel
theorem dJ0_coder_7d493_3 : decode cJ0_coder_7d493 3 = .ok (.ifCond .eq 10, 3) := by decide +kernel
theorem dJ0_coder_7d493_6 : decode cJ0_coder_7d493 6 = .ok (.aload_n 0, 1) := by decide +kernel
theorem dJ0_coder_7d493_7 : decode cJ0_coder_7d493 7 = .ok (.getfield 15, 3) := by decide +kernel
theorem dJ0_coder_7d493_10 : decode cJ0_coder_7d493 10 = .ok (.goto 4, 3) := by decide +kernel
theorem dJ0_coder_7d493_13 : decode cJ0_coder_7d493 13 = .ok (.iconst 1, 1) := by decide +kernel
theorem dJ0_coder_7d493_14 : decode cJ0_coder_7d493 14 = .ok (.ireturn, 1) := by decide +kernel
theorem dJ0_isLatin1_aae02_0 : decode cJ0_isLatin1_aae02 0 = .ok (.getstatic 38, 3) := by decide +kernel
theorem dJ0_isLatin1_aae02_3 : decode cJ0_isLatin1_aae02 3 = .ok (.ifCond .eq 14, 3) := by decide +kernel
theorem dJ0_isLatin1_aae02_6 : decode cJ0_isLatin1_aae02 6 = .ok (.aload_n 0, 1) := by decide +kernel
theorem dJ0_isLatin1_aae02_7 : decode cJ0_isLatin1_aae02 7 = .ok (.getfield 15, 3) := by decide +kernel
theorem dJ0_isLatin1_aae02_10 : decode cJ0_isLatin1_aae02 10 = .ok (.ifCond .ne 7, 3) := by decide +kernel
theorem dJ0_isLatin1_aae02_13 : decode cJ0_isLatin1_aae02 13 = .ok (.iconst 1, 1) := by decide +kernel
theorem dJ0_isLatin1_aae02_14 : decode cJ0_isLatin1_aae02 14 = .ok (.goto 4, 3) := by decide +kernel
theorem dJ0_isLatin1_aae02_17 : decode cJ0_isLatin1_aae02 17 = .ok (.iconst 0, 1) := by decide +kernel
theorem dJ0_isLatin1_aae02_18 : decode cJ0_isLatin1_aae02 18 = .ok (.ireturn, 1) := by decide +kernel
theorem dJ0_checkIndex_df160_0 : decode cJ0_checkIndex_df160 0 = .ok (.iload_n 0, 1) := by decide +kernel
theorem dJ0_checkIndex_df160_1 : decode cJ0_checkIndex_df160 1 = .ok (.iload_n 1, 1) := by decide +kernel
theorem dJ0_checkIndex_df160_2 : decode cJ0_checkIndex_df160 2 = .ok (.getstatic 1053, 3) := by decide +kernel
theorem dJ0_checkIndex_df160_5 : decode cJ0_checkIndex_df160 5 = .ok (.invokestatic 1059, 3) := by decide +kernel
theorem dJ0_checkIndex_df160_8 : decode cJ0_checkIndex_df160 8 = .ok (.pop, 1) := by decide +kernel
theorem dJ0_checkIndex_df160_9 : decode cJ0_checkIndex_df160 9 = .ok (.return_, 1) := by decide +kernel
theorem dJ1_charAt_3b067_0 : decode cJ1_charAt_3b067 0 = .ok (.iload_n 1, 1) := by decide +kernel
theorem dJ1_charAt_3b067_1 : decode cJ1_charAt_3b067 1 = .ok (.aload_n 0, 1) := by decide +kernel
theorem dJ1_charAt_3b067_2 : decode cJ1_charAt_3b067 2 = .ok (.arraylength, 1) := by decide +kernel
theorem dJ1_charAt_3b067_3 : decode cJ1_charAt_3b067 3 = .ok (.invokestatic 9, 3) := by decide +kernel
theorem dJ1_charAt_3b067_6 : decode cJ1_charAt_3b067 6 = .ok (.aload_n 0, 1) := by decide +kernel
theorem dJ1_charAt_3b067_7 : decode cJ1_charAt_3b067 7 = .ok (.iload_n 1, 1) := by decide +kernel
theorem dJ1_charAt_3b067_8 : decode cJ1_charAt_3b067 8 = .ok (.baload, 1) := by decide +kernel
theorem dJ1_charAt_3b067_9 : decode cJ1_charAt_3b067 9 = .ok (.sipush 255, 3) := by decide +kernel
theorem dJ1_charAt_3b067_12 : decode cJ1_charAt_3b067 12 = .ok (.iand, 1) := by decide +kernel
theorem dJ1_charAt_3b067_13 : decode cJ1_charAt_3b067 13 = .ok (.i2c, 1) := by decide +kernel
theorem dJ1_charAt_3b067_14 : decode cJ1_charAt_3b067 14 = .ok (.ireturn, 1) := by decide +kernel
theorem dJ2_getChar_3b067_0 : decode cJ2_getChar_3b067 0 = .ok (.getstatic 44, 3) := by decide +kernel
theorem dJ2_getChar_3b067_3 : decode cJ2_getChar_3b067 3 = .ok (.ifCond .ne 25, 3) := by decide +kernel
theorem dJ2_getChar_3b067_6 : decode cJ2_getChar_3b067 6 = .ok (.iload_n 1, 1) := by decide +kernel
theorem dJ2_getChar_3b067_7 : decode cJ2_getChar_3b067 7 = .ok (.ifCond .lt 11, 3) := by decide +kernel
theorem dJ2_getChar_3b067_10 : decode cJ2_getChar_3b067 10 = .ok (.iload_n 1, 1) := by decide +kernel
theorem dJ2_getChar_3b067_11 : decode cJ2_getChar_3b067 11 = .ok (.aload_n 0, 1) := by decide +kernel
theorem dJ2_getChar_3b067_12 : decode cJ2_getChar_3b067 12 = .ok (.invokestatic 48, 3) := by decide +kernel
theorem dJ2_getChar_3b067_15 : decode cJ2_getChar_3b067 15 = .ok (.if_icmp .lt 13, 3) := by decide +kernel
theorem dJ2_getChar_3b067_18 : decode cJ2_getChar_3b067 18 = .ok (.new 52, 3) := by decide +kernel
theorem dJ2_getChar_3b067_21 : decode cJ2_getChar_3b067 21 = .ok (.dup, 1) := by decide +kernel
theorem dJ2_getChar_3b067_22 : decode cJ2_getChar_3b067 22 = .ok (.ldc 54, 2) := by decide +kernel
theorem dJ2_getChar_3b067_24 : decode cJ2_getChar_3b067 24 = .ok (.invokespecial 56, 3) := by decide +kernel
theorem dJ2_getChar_3b067_27 : decode cJ2_getChar_3b067 27 = .ok (.athrow, 1) := by decide +kernel
theorem dJ2_getChar_3b067_28 : decode cJ2_getChar_3b067 28 = .ok (.iload_n 1, 1) := by decide +kernel
theorem dJ2_getChar_3b067_29 : decode cJ2_getChar_3b067 29 = .ok (.iconst 1, 1) := by decide +kernel
theorem dJ2_getChar_3b067_30 : decode cJ2_getChar_3b067 30 = .ok (.ishl, 1) := by decide +kernel
theorem dJ2_getChar_3b067_31 : decode cJ2_getChar_3b067 31 = .ok (.istore_n 1, 1) := by decide +kernel
theorem dJ2_getChar_3b067_32 : decode cJ2_getChar_3b067 32 = .ok (.aload_n 0, 1) := by decide +kernel
theorem dJ2_getChar_3b067_33 : decode cJ2_getChar_3b067 33 = .ok (.iload_n 1, 1) := by decide +kernel
theorem dJ2_getChar_3b067_34 : decode cJ2_getChar_3b067 34 = .ok (.iinc 1 1, 3) := by decide +kernel
theorem dJ2_getChar_3b067_37 : decode cJ2_getChar_3b067 37 = .ok (.baload, 1) := by decide +kernel
theorem dJ2_getChar_3b067_38 : decode cJ2_getChar_3b067 38 = .ok (.sipush 255, 3) := by decide +kernel
theorem dJ2_getChar_3b067_41 : decode cJ2_getChar_3b067 41 = .ok (.iand, 1) := by decide +kernel
theorem dJ2_getChar_3b067_42 : decode cJ2_getChar_3b067 42 = .ok (.getstatic 59, 3) := by decide +kernel
theorem dJ2_getChar_3b067_45 : decode cJ2_getChar_3b067 45 = .ok (.ishl, 1) := by decide +kernel
theorem dJ2_getChar_3b067_46 : decode cJ2_getChar_3b067 46 = .ok (.aload_n 0, 1) := by decide +kernel
theorem dJ2_getChar_3b067_47 : decode cJ2_getChar_3b067 47 = .ok (.iload_n 1, 1) := by decide +kernel
theorem dJ2_getChar_3b067_48 : decode cJ2_getChar_3b067 48 = .ok (.baload, 1) := by decide +kernel
theorem dJ2_getChar_3b067_49 : decode cJ2_getChar_3b067 49 = .ok (.sipush 255, 3) := by decide +kernel
theorem dJ2_getChar_3b067_52 : decode cJ2_getChar_3b067 52 = .ok (.iand, 1) := by decide +kernel
theorem dJ2_getChar_3b067_53 : decode cJ2_getChar_3b067 53 = .ok (.getstatic 63, 3) := by decide +kernel
theorem dJ2_getChar_3b067_56 : decode cJ2_getChar_3b067 56 = .ok (.ishl, 1) := by decide +kernel
theorem dJ2_getChar_3b067_57 : decode cJ2_getChar_3b067 57 = .ok (.ior, 1) := by decide +kernel
theorem dJ2_getChar_3b067_58 : decode cJ2_getChar_3b067 58 = .ok (.i2c, 1) := by decide +kernel
theorem dJ2_getChar_3b067_59 : decode cJ2_getChar_3b067 59 = .ok (.ireturn, 1) := by decide +kernel
theorem dJ2_length_9d52b_0 : decode cJ2_length_9d52b 0 = .ok (.aload_n 0, 1) := by decide +kernel
theorem dJ2_length_9d52b_1 : decode cJ2_length_9d52b 1 = .ok (.arraylength, 1) := by decide +kernel
theorem dJ2_length_9d52b_2 : decode cJ2_length_9d52b 2 = .ok (.iconst 1, 1) := by decide +kernel
theorem dJ2_length_9d52b_3 : decode cJ2_length_9d52b 3 = .ok (.ishr, 1) := by decide +kernel
theorem dJ2_length_9d52b_4 : decode cJ2_length_9d52b 4 = .ok (.ireturn, 1) := by decide +kernel
theorem dJ2_charAt_3b067_0 : decode cJ2_charAt_3b067 0 = .ok (.iload_n 1, 1) := by decide +kernel
theorem dJ2_charAt_3b067_1 : decode cJ2_charAt_3b067 1 = .ok (.aload_n 0, 1) := by decide +kernel
theorem dJ2_charAt_3b067_2 : decode cJ2_charAt_3b067 2 = .ok (.invokestatic 67, 3) := by decide +kernel
theorem dJ2_charAt_3b067_5 : decode cJ2_charAt_3b067 5 = .ok (.aload_n 0, 1) := by decide +kernel
theorem dJ2_charAt_3b067_6 : decode cJ2_charAt_3b067 6 = .ok (.iload_n 1, 1) := by decide +kernel
theorem dJ2_charAt_3b067_7 : decode cJ2_charAt_3b067 7 = .ok (.invokestatic 71, 3) := by decide +kernel
theorem dJ2_charAt_3b067_10 : decode cJ2_charAt_3b067 10 = .ok (.ireturn, 1) := by decide +kernel
theorem dJ2_checkIndex_2214a_0 : decode cJ2_checkIndex_2214a 0 = .ok (.iload_n 0, 1) := by decide +kernel
theorem dJ2_checkIndex_2214a_1 : decode cJ2_checkIndex_2214a 1 = .ok (.aload_n 1, 1) := by decide +kernel
theorem dJ2_checkIndex_2214a_2 : decode cJ2_checkIndex_2214a 2 = .ok (.invokestatic 48, 3) := by decide +kernel
theorem dJ2_checkIndex_2214a_5 : decode cJ2_checkIndex_2214a 5 = .ok (.invokestatic 414, 3) := by decide +kernel
theorem dJ2_checkIndex_2214a_8 : decode cJ2_checkIndex_2214a 8 = .ok (.return_, 1) := by decide +kernel
theorem dJ3_checkIndex_8e157_0 : decode cJ3_checkIndex_8e157 0 = .ok (.iload_n 0, 1) := by decide +kernel
theorem dJ3_checkIndex_8e157_1 : decode cJ3_checkIndex_8e157 1 = .ok (.ifCond .lt 8, 3) := by decide +kernel
theorem dJ3_checkIndex_8e157_4 : decode cJ3_checkIndex_8e157 4 = .ok (.iload_n 0, 1) := by decide +kernel
theorem dJ3_checkIndex_8e157_5 : decode cJ3_checkIndex_8e157 5 = .ok (.iload_n 1, 1) := by decide +kernel
theorem dJ3_checkIndex_8e157_6 : decode cJ3_checkIndex_8e157 6 = .ok (.if_icmp .lt 10, 3) := by decide +kernel
theorem dJ3_checkIndex_8e157_9 : decode cJ3_checkIndex_8e157 9 = .ok (.aload_n 2, 1) := by decide +kernel
theorem dJ3_checkIndex_8e157_10 : decode cJ3_checkIndex_8e157 10 = .ok (.iload_n 0, 1) := by decide +kernel
theorem dJ3_checkIndex_8e157_11 : decode cJ3_checkIndex_8e157 11 = .ok (.iload_n 1, 1) := by decide +kernel
theorem dJ3_checkIndex_8e157_12 : decode cJ3_checkIndex_8e157 12 = .ok (.invokestatic 95, 3) := by decide +kernel
theorem dJ3_checkIndex_8e157_15 : decode cJ3_checkIndex_8e157 15 = .ok (.athrow, 1) := by decide +kernel
theorem dJ3_checkIndex_8e157_16 : decode cJ3_checkIndex_8e157 16 = .ok (.iload_n 0, 1) := by decide +kernel
theorem dJ3_checkIndex_8e157_17 : decode cJ3_checkIndex_8e157 17 = .ok (.ireturn, 1) := by decide +kernel
theorem dL_cell_0 : decode cL_cell 0 = .ok (.iload_n 1, 1) := by decide +kernel
theorem dL_cell_1 : decode cL_cell 1 = .ok (.aload_n 0, 1) := by decide +kernel
theorem dL_cell_2 : decode cL_cell 2 = .ok (.arraylength, 1) := by decide +kernel
theorem dL_cell_3 : decode cL_cell 3 = .ok (.if_icmp .ge 9, 3) := by decide +kernel
theorem dL_cell_6 : decode cL_cell 6 = .ok (.aload_n 0, 1) := by decide +kernel
theorem dL_cell_7 : decode cL_cell 7 = .ok (.iload_n 1, 1) := by decide +kernel
theorem dL_cell_8 : decode cL_cell 8 = .ok (.iaload, 1) := by decide +kernel
theorem dL_cell_9 : decode cL_cell 9 = .ok (.goto 11, 3) := by decide +kernel
theorem dL_cell_12 : decode cL_cell 12 = .ok (.ldc 7, 2) := by decide +kernel
theorem dL_cell_14 : decode cL_cell 14 = .ok (.iload_n 1, 1) := by decide +kernel
theorem dL_cell_15 : decode cL_cell 15 = .ok (.imul, 1) := by decide +kernel
theorem dL_cell_16 : decode cL_cell 16 = .ok (.sipush 7901, 3) := by decide +kernel
theorem dL_cell_19 : decode cL_cell 19 = .ok (.iadd, 1) := by decide +kernel
theorem dL_cell_20 : decode cL_cell 20 = .ok (.ireturn, 1) := by decide +kernel
theorem dL_low_0 : decode cL_low 0 = .ok (.iload_n 0, 1) := by decide +kernel
theorem dL_low_1 : decode cL_low 1 = .ok (.ldc 8, 2) := by decide +kernel
theorem dL_low_3 : decode cL_low 3 = .ok (.iand, 1) := by decide +kernel
theorem dL_low_4 : decode cL_low 4 = .ok (.iload_n 1, 1) := by decide +kernel
theorem dL_low_5 : decode cL_low 5 = .ok (.irem, 1) := by decide +kernel
theorem dL_low_6 : decode cL_low 6 = .ok (.ireturn, 1) := by decide +kernel
theorem dL_size_0 : decode cL_size 0 = .ok (.iload_n 0, 1) := by decide +kernel
theorem dL_size_1 : decode cL_size 1 = .ok (.ifCond .ge 8, 3) := by decide +kernel
theorem dL_size_4 : decode cL_size 4 = .ok (.iload_n 0, 1) := by decide +kernel
theorem dL_size_5 : decode cL_size 5 = .ok (.ineg, 1) := by decide +kernel
theorem dL_size_6 : decode cL_size 6 = .ok (.goto 4, 3) := by decide +kernel
theorem dL_size_9 : decode cL_size 9 = .ok (.iload_n 0, 1) := by decide +kernel
theorem dL_size_10 : decode cL_size 10 = .ok (.ireturn, 1) := by decide +kernel
theorem dL_of_0 : decode cL_of 0 = .ok (.iload_n 1, 1) := by decide +kernel
theorem dL_of_1 : decode cL_of 1 = .ok (.bipush 100, 2) := by decide +kernel
theorem dL_of_3 : decode cL_of 3 = .ok (.if_icmp .ge 12, 3) := by decide +kernel
theorem dL_of_6 : decode cL_of 6 = .ok (.aload_n 0, 1) := by decide +kernel
theorem dL_of_7 : decode cL_of 7 = .ok (.iload_n 1, 1) := by decide +kernel
theorem dL_of_8 : decode cL_of 8 = .ok (.iload_n 2, 1) := by decide +kernel
theorem dL_of_9 : decode cL_of 9 = .ok (.invokevirtual 9, 3) := by decide +kernel
theorem dL_of_12 : decode cL_of 12 = .ok (.goto 12, 3) := by decide +kernel
theorem dL_of_15 : decode cL_of 15 = .ok (.aload_n 0, 1) := by decide +kernel
theorem dL_of_16 : decode cL_of 16 = .ok (.iload_n 1, 1) := by decide +kernel
theorem dL_of_17 : decode cL_of 17 = .ok (.bipush 100, 2) := by decide +kernel
theorem dL_of_19 : decode cL_of 19 = .ok (.isub, 1) := by decide +kernel
theorem dL_of_20 : decode cL_of 20 = .ok (.iload_n 2, 1) := by decide +kernel
theorem dL_of_21 : decode cL_of 21 = .ok (.invokevirtual 15, 3) := by decide +kernel
theorem dL_of_24 : decode cL_of 24 = .ok (.ireturn, 1) := by decide +kernel
theorem dL_water_0 : decode cL_water 0 = .ok (.iconst 0, 1) := by decide +kernel
theorem dL_water_1 : decode cL_water 1 = .ok (.istore_n 2, 1) := by decide +kernel
theorem dL_water_2 : decode cL_water 2 = .ok (.iconst 0, 1) := by decide +kernel
theorem dL_water_3 : decode cL_water 3 = .ok (.istore_n 3, 1) := by decide +kernel
theorem dL_water_4 : decode cL_water 4 = .ok (.iconst 0, 1) := by decide +kernel
theorem dL_water_5 : decode cL_water 5 = .ok (.istore 4, 2) := by decide +kernel
theorem dL_water_7 : decode cL_water 7 = .ok (.iload 4, 2) := by decide +kernel
theorem dL_water_9 : decode cL_water 9 = .ok (.aload_n 0, 1) := by decide +kernel
theorem dL_water_10 : decode cL_water 10 = .ok (.iconst 2, 1) := by decide +kernel
theorem dL_water_11 : decode cL_water 11 = .ok (.invokevirtual 18, 3) := by decide +kernel
theorem dL_water_14 : decode cL_water 14 = .ok (.if_icmp .ge 60, 3) := by decide +kernel
theorem dL_water_17 : decode cL_water 17 = .ok (.aload_n 0, 1) := by decide +kernel
theorem dL_water_18 : decode cL_water 18 = .ok (.iload 4, 2) := by decide +kernel
theorem dL_water_20 : decode cL_water 20 = .ok (.bipush 7, 2) := by decide +kernel
theorem dL_water_22 : decode cL_water 22 = .ok (.invokevirtual 22, 3) := by decide +kernel
theorem dL_water_25 : decode cL_water 25 = .ok (.iload_n 1, 1) := by decide +kernel
theorem dL_water_26 : decode cL_water 26 = .ok (.if_icmp .ne 7, 3) := by decide +kernel
theorem dL_water_29 : decode cL_water 29 = .ok (.iconst 1, 1) := by decide +kernel
theorem dL_water_30 : decode cL_water 30 = .ok (.goto 4, 3) := by decide +kernel
theorem dL_water_33 : decode cL_water 33 = .ok (.iconst 0, 1) := by decide +kernel
theorem dL_water_34 : decode cL_water 34 = .ok (.istore 5, 2) := by decide +kernel
theorem dL_water_36 : decode cL_water 36 = .ok (.iload_n 2, 1) := by decide +kernel
theorem dL_water_37 : decode cL_water 37 = .ok (.iload 5, 2) := by decide +kernel
theorem dL_water_39 : decode cL_water 39 = .ok (.ifCond .eq 13, 3) := by decide +kernel
theorem dL_water_42 : decode cL_water 42 = .ok (.aload_n 0, 1) := by decide +kernel
theorem dL_water_43 : decode cL_water 43 = .ok (.iload 4, 2) := by decide +kernel
theorem dL_water_45 : decode cL_water 45 = .ok (.iconst 1, 1) := by decide +kernel
theorem dL_water_46 : decode cL_water 46 = .ok (.invokevirtual 22, 3) := by decide +kernel
theorem dL_water_49 : decode cL_water 49 = .ok (.goto 4, 3) := by decide +kernel
theorem dL_water_52 : decode cL_water 52 = .ok (.iconst 0, 1) := by decide +kernel
theorem dL_water_53 : decode cL_water 53 = .ok (.iadd, 1) := by decide +kernel
theorem dL_water_54 : decode cL_water 54 = .ok (.istore_n 2, 1) := by decide +kernel
theorem dL_water_55 : decode cL_water 55 = .ok (.iload_n 3, 1) := by decide +kernel
theorem dL_water_56 : decode cL_water 56 = .ok (.iload 5, 2) := by decide +kernel
theorem dL_water_58 : decode cL_water 58 = .ok (.ifCond .eq 7, 3) := by decide +kernel
theorem dL_water_61 : decode cL_water 61 = .ok (.iconst 1, 1) := by decide +kernel
theorem dL_water_62 : decode cL_water 62 = .ok (.goto 4, 3) := by decide +kernel
theorem dL_water_65 : decode cL_water 65 = .ok (.iconst 0, 1) := by decide +kernel
theorem dL_water_66 : decode cL_water 66 = .ok (.iadd, 1) := by decide +kernel
theorem dL_water_67 : decode cL_water 67 = .ok (.istore_n 3, 1) := by decide +kernel
theorem dL_water_68 : decode cL_water 68 = .ok (.iinc 4 1, 3) := by decide +kernel
theorem dL_water_71 : decode cL_water 71 = .ok (.goto (-64), 3) := by decide +kernel
theorem dL_water_74 : decode cL_water 74 = .ok (.aload_n 0, 1) := by decide +kernel
theorem dL_water_75 : decode cL_water 75 = .ok (.iload_n 1, 1) := by decide +kernel
theorem dL_water_76 : decode cL_water 76 = .ok (.iconst 1, 1) := by decide +kernel
theorem dL_water_77 : decode cL_water 77 = .ok (.invokestatic 25, 3) := by decide +kernel
theorem dL_water_80 : decode cL_water 80 = .ok (.i2l, 1) := by decide +kernel
theorem dL_water_81 : decode cL_water 81 = .ok (.iload_n 2, 1) := by decide +kernel
theorem dL_water_82 : decode cL_water 82 = .ok (.i2l, 1) := by decide +kernel
theorem dL_water_83 : decode cL_water 83 = .ok (.ladd, 1) := by decide +kernel
theorem dL_water_84 : decode cL_water 84 = .ok (.lstore 4, 2) := by decide +kernel
theorem dL_water_86 : decode cL_water 86 = .ok (.aload_n 0, 1) := by decide +kernel
theorem dL_water_87 : decode cL_water 87 = .ok (.iload_n 1, 1) := by decide +kernel
theorem dL_water_88 : decode cL_water 88 = .ok (.iconst 1, 1) := by decide +kernel
theorem dL_water_89 : decode cL_water 89 = .ok (.invokestatic 25, 3) := by decide +kernel
theorem dL_water_92 : decode cL_water 92 = .ok (.ifCond .lt 60, 3) := by decide +kernel
theorem dL_water_95 : decode cL_water 95 = .ok (.aload_n 0, 1) := by decide +kernel
theorem dL_water_96 : decode cL_water 96 = .ok (.iload_n 1, 1) := by decide +kernel
theorem dL_water_97 : decode cL_water 97 = .ok (.iconst 2, 1) := by decide +kernel
theorem dL_water_98 : decode cL_water 98 = .ok (.invokestatic 25, 3) := by decide +kernel
theorem dL_water_101 : decode cL_water 101 = .ok (.iload_n 2, 1) := by decide +kernel
theorem dL_water_102 : decode cL_water 102 = .ok (.if_icmp .ne 50, 3) := by decide +kernel
theorem dL_water_105 : decode cL_water 105 = .ok (.aload_n 0, 1) := by decide +kernel
theorem dL_water_106 : decode cL_water 106 = .ok (.iload_n 1, 1) := by decide +kernel
theorem dL_water_107 : decode cL_water 107 = .ok (.iconst 3, 1) := by decide +kernel
theorem dL_water_108 : decode cL_water 108 = .ok (.invokestatic 25, 3) := by decide +kernel
theorem dL_water_111 : decode cL_water 111 = .ok (.iload_n 3, 1) := by decide +kernel
theorem dL_water_112 : decode cL_water 112 = .ok (.if_icmp .ne 40, 3) := by decide +kernel
theorem dL_water_115 : decode cL_water 115 = .ok (.aload_n 0, 1) := by decide +kernel
theorem dL_water_116 : decode cL_water 116 = .ok (.iload_n 1, 1) := by decide +kernel
theorem dL_water_117 : decode cL_water 117 = .ok (.iconst 0, 1) := by decide +kernel
theorem dL_water_118 : decode cL_water 118 = .ok (.invokestatic 25, 3) := by decide +kernel
theorem dL_water_121 : decode cL_water 121 = .ok (.i2l, 1) := by decide +kernel
theorem dL_water_122 : decode cL_water 122 = .ok (.aload_n 0, 1) := by decide +kernel
theorem dL_water_123 : decode cL_water 123 = .ok (.iload_n 1, 1) := by decide +kernel
theorem dL_water_124 : decode cL_water 124 = .ok (.iconst 5, 1) := by decide +kernel
theorem dL_water_125 : decode cL_water 125 = .ok (.invokestatic 25, 3) := by decide +kernel
theorem dL_water_128 : decode cL_water 128 = .ok (.i2l, 1) := by decide +kernel
theorem dL_water_129 : decode cL_water 129 = .ok (.lload 4, 2) := by decide +kernel
theorem dL_water_131 : decode cL_water 131 = .ok (.ldc2_w 31, 3) := by decide +kernel
theorem dL_water_134 : decode cL_water 134 = .ok (.lmul, 1) := by decide +kernel
theorem dL_water_135 : decode cL_water 135 = .ok (.aload_n 0, 1) := by decide +kernel
theorem dL_water_136 : decode cL_water 136 = .ok (.iload_n 1, 1) := by decide +kernel
theorem dL_water_137 : decode cL_water 137 = .ok (.iconst 4, 1) := by decide +kernel
theorem dL_water_138 : decode cL_water 138 = .ok (.invokestatic 25, 3) := by decide +kernel
theorem dL_water_141 : decode cL_water 141 = .ok (.i2l, 1) := by decide +kernel
theorem dL_water_142 : decode cL_water 142 = .ok (.ldiv, 1) := by decide +kernel
theorem dL_water_143 : decode cL_water 143 = .ok (.ladd, 1) := by decide +kernel
theorem dL_water_144 : decode cL_water 144 = .ok (.lcmp, 1) := by decide +kernel
theorem dL_water_145 : decode cL_water 145 = .ok (.ifCond .ne 7, 3) := by decide +kernel
theorem dL_water_148 : decode cL_water 148 = .ok (.iconst 1, 1) := by decide +kernel
theorem dL_water_149 : decode cL_water 149 = .ok (.goto 4, 3) := by decide +kernel
theorem dL_water_152 : decode cL_water 152 = .ok (.iconst 0, 1) := by decide +kernel
theorem dL_water_153 : decode cL_water 153 = .ok (.ireturn, 1) := by decide +kernel
theorem dL_waters_0 : decode cL_waters 0 = .ok (.lconst 0, 1) := by decide +kernel
theorem dL_waters_1 : decode cL_waters 1 = .ok (.lstore_n 1, 1) := by decide +kernel
theorem dL_waters_2 : decode cL_waters 2 = .ok (.iconst 0, 1) := by decide +kernel
theorem dL_waters_3 : decode cL_waters 3 = .ok (.istore_n 3, 1) := by decide +kernel
theorem dL_waters_4 : decode cL_waters 4 = .ok (.iconst 0, 1) := by decide +kernel
theorem dL_waters_5 : decode cL_waters 5 = .ok (.istore 4, 2) := by decide +kernel
theorem dL_waters_7 : decode cL_waters 7 = .ok (.lconst 0, 1) := by decide +kernel
theorem dL_waters_8 : decode cL_waters 8 = .ok (.lstore 5, 2) := by decide +kernel
theorem dL_waters_10 : decode cL_waters 10 = .ok (.iconst 0, 1) := by decide +kernel
theorem dL_waters_11 : decode cL_waters 11 = .ok (.istore 7, 2) := by decide +kernel
theorem dL_waters_13 : decode cL_waters 13 = .ok (.iload 7, 2) := by decide +kernel
theorem dL_waters_15 : decode cL_waters 15 = .ok (.aload_n 0, 1) := by decide +kernel
theorem dL_waters_16 : decode cL_waters 16 = .ok (.iconst 0, 1) := by decide +kernel
theorem dL_waters_17 : decode cL_waters 17 = .ok (.invokevirtual 18, 3) := by decide +kernel
theorem dL_waters_20 : decode cL_waters 20 = .ok (.if_icmp .ge 44, 3) := by decide +kernel
theorem dL_waters_23 : decode cL_waters 23 = .ok (.lload_n 1, 1) := by decide +kernel
theorem dL_waters_24 : decode cL_waters 24 = .ok (.aload_n 0, 1) := by decide +kernel
theorem dL_waters_25 : decode cL_waters 25 = .ok (.iload 7, 2) := by decide +kernel
theorem dL_waters_27 : decode cL_waters 27 = .ok (.iconst 1, 1) := by decide +kernel
theorem dL_waters_28 : decode cL_waters 28 = .ok (.invokevirtual 9, 3) := by decide +kernel
theorem dL_waters_31 : decode cL_waters 31 = .ok (.i2l, 1) := by decide +kernel
theorem dL_waters_32 : decode cL_waters 32 = .ok (.ladd, 1) := by decide +kernel
theorem dL_waters_33 : decode cL_waters 33 = .ok (.lstore_n 1, 1) := by decide +kernel
theorem dL_waters_34 : decode cL_waters 34 = .ok (.aload_n 0, 1) := by decide +kernel
theorem dL_waters_35 : decode cL_waters 35 = .ok (.iload 7, 2) := by decide +kernel
theorem dL_waters_37 : decode cL_waters 37 = .ok (.invokestatic 33, 3) := by decide +kernel
theorem dL_waters_40 : decode cL_waters 40 = .ok (.ifCond .eq 16, 3) := by decide +kernel
theorem dL_waters_43 : decode cL_waters 43 = .ok (.aload_n 0, 1) := by decide +kernel
theorem dL_waters_44 : decode cL_waters 44 = .ok (.iload 7, 2) := by decide +kernel
theorem dL_waters_46 : decode cL_waters 46 = .ok (.bipush 6, 2) := by decide +kernel
theorem dL_waters_48 : decode cL_waters 48 = .ok (.invokevirtual 9, 3) := by decide +kernel
theorem dL_waters_51 : decode cL_waters 51 = .ok (.ldc 37, 2) := by decide +kernel
theorem dL_waters_53 : decode cL_waters 53 = .ok (.if_icmp .eq 5, 3) := by decide +kernel
theorem dL_waters_56 : decode cL_waters 56 = .ok (.iconst 0, 1) := by decide +kernel
theorem dL_waters_57 : decode cL_waters 57 = .ok (.ireturn, 1) := by decide +kernel
theorem dL_waters_58 : decode cL_waters 58 = .ok (.iinc 7 1, 3) := by decide +kernel
theorem dL_waters_61 : decode cL_waters 61 = .ok (.goto (-48), 3) := by decide +kernel
theorem dL_waters_64 : decode cL_waters 64 = .ok (.iconst 0, 1) := by decide +kernel
theorem dL_waters_65 : decode cL_waters 65 = .ok (.istore 7, 2) := by decide +kernel
theorem dL_waters_67 : decode cL_waters 67 = .ok (.iload 7, 2) := by decide +kernel
theorem dL_waters_69 : decode cL_waters 69 = .ok (.aload_n 0, 1) := by decide +kernel
theorem dL_waters_70 : decode cL_waters 70 = .ok (.iconst 1, 1) := by decide +kernel
theorem dL_waters_71 : decode cL_waters 71 = .ok (.invokevirtual 18, 3) := by decide +kernel
theorem dL_waters_74 : decode cL_waters 74 = .ok (.if_icmp .ge 264, 3) := by decide +kernel
theorem dL_waters_77 : decode cL_waters 77 = .ok (.iconst 0, 1) := by decide +kernel
theorem dL_waters_78 : decode cL_waters 78 = .ok (.istore 8, 2) := by decide +kernel
theorem dL_waters_80 : decode cL_waters 80 = .ok (.iconst 0, 1) := by decide +kernel
theorem dL_waters_81 : decode cL_waters 81 = .ok (.istore 9, 2) := by decide +kernel
theorem dL_waters_83 : decode cL_waters 83 = .ok (.iconst 0, 1) := by decide +kernel
theorem dL_waters_84 : decode cL_waters 84 = .ok (.istore 10, 2) := by decide +kernel
theorem dL_waters_86 : decode cL_waters 86 = .ok (.aload_n 0, 1) := by decide +kernel
theorem dL_waters_87 : decode cL_waters 87 = .ok (.iload 7, 2) := by decide +kernel
theorem dL_waters_89 : decode cL_waters 89 = .ok (.iload 8, 2) := by decide +kernel
theorem dL_waters_91 : decode cL_waters 91 = .ok (.invokevirtual 38, 3) := by decide +kernel
theorem dL_waters_94 : decode cL_waters 94 = .ok (.ifCond .lt 69, 3) := by decide +kernel
theorem dL_waters_97 : decode cL_waters 97 = .ok (.aload_n 0, 1) := by decide +kernel
theorem dL_waters_98 : decode cL_waters 98 = .ok (.iload 7, 2) := by decide +kernel
theorem dL_waters_100 : decode cL_waters 100 = .ok (.iload 8, 2) := by decide +kernel
theorem dL_waters_102 : decode cL_waters 102 = .ok (.invokevirtual 38, 3) := by decide +kernel
theorem dL_waters_105 : decode cL_waters 105 = .ok (.istore 11, 2) := by decide +kernel
theorem dL_waters_107 : decode cL_waters 107 = .ok (.iload 9, 2) := by decide +kernel
theorem dL_waters_109 : decode cL_waters 109 = .ok (.aload_n 0, 1) := by decide +kernel
theorem dL_waters_110 : decode cL_waters 110 = .ok (.iload 11, 2) := by decide +kernel
theorem dL_waters_112 : decode cL_waters 112 = .ok (.iconst 0, 1) := by decide +kernel
theorem dL_waters_113 : decode cL_waters 113 = .ok (.invokevirtual 22, 3) := by decide +kernel
theorem dL_waters_116 : decode cL_waters 116 = .ok (.iadd, 1) := by decide +kernel
theorem dL_waters_117 : decode cL_waters 117 = .ok (.istore 9, 2) := by decide +kernel
theorem dL_waters_119 : decode cL_waters 119 = .ok (.aload_n 0, 1) := by decide +kernel
theorem dL_waters_120 : decode cL_waters 120 = .ok (.iload 11, 2) := by decide +kernel
theorem dL_waters_122 : decode cL_waters 122 = .ok (.bipush 7, 2) := by decide +kernel
theorem dL_waters_124 : decode cL_waters 124 = .ok (.invokevirtual 22, 3) := by decide +kernel
theorem dL_waters_127 : decode cL_waters 127 = .ok (.bipush 100, 2) := by decide +kernel
theorem dL_waters_129 : decode cL_waters 129 = .ok (.iload 7, 2) := by decide +kernel
theorem dL_waters_131 : decode cL_waters 131 = .ok (.iadd, 1) := by decide +kernel
theorem dL_waters_132 : decode cL_waters 132 = .ok (.if_icmp .ne 14, 3) := by decide +kernel
theorem dL_waters_135 : decode cL_waters 135 = .ok (.iload 10, 2) := by decide +kernel
theorem dL_waters_137 : decode cL_waters 137 = .ok (.iload 11, 2) := by decide +kernel
theorem dL_waters_139 : decode cL_waters 139 = .ok (.ishr, 1) := by decide +kernel
theorem dL_waters_140 : decode cL_waters 140 = .ok (.iconst 1, 1) := by decide +kernel
theorem dL_waters_141 : decode cL_waters 141 = .ok (.iand, 1) := by decide +kernel
theorem dL_waters_142 : decode cL_waters 142 = .ok (.iconst 1, 1) := by decide +kernel
theorem dL_waters_143 : decode cL_waters 143 = .ok (.if_icmp .ne 5, 3) := by decide +kernel
theorem dL_waters_146 : decode cL_waters 146 = .ok (.iconst 0, 1) := by decide +kernel
theorem dL_waters_147 : decode cL_waters 147 = .ok (.ireturn, 1) := by decide +kernel
theorem dL_waters_148 : decode cL_waters 148 = .ok (.iload 10, 2) := by decide +kernel
theorem dL_waters_150 : decode cL_waters 150 = .ok (.iconst 1, 1) := by decide +kernel
theorem dL_waters_151 : decode cL_waters 151 = .ok (.iload 11, 2) := by decide +kernel
theorem dL_waters_153 : decode cL_waters 153 = .ok (.ishl, 1) := by decide +kernel
theorem dL_waters_154 : decode cL_waters 154 = .ok (.ior, 1) := by decide +kernel
theorem dL_waters_155 : decode cL_waters 155 = .ok (.istore 10, 2) := by decide +kernel
theorem dL_waters_157 : decode cL_waters 157 = .ok (.iinc 8 1, 3) := by decide +kernel
theorem dL_waters_160 : decode cL_waters 160 = .ok (.goto (-74), 3) := by decide +kernel
theorem dL_waters_163 : decode cL_waters 163 = .ok (.lload_n 1, 1) := by decide +kernel
theorem dL_waters_164 : decode cL_waters 164 = .ok (.aload_n 0, 1) := by decide +kernel
theorem dL_waters_165 : decode cL_waters 165 = .ok (.iload 7, 2) := by decide +kernel
theorem dL_waters_167 : decode cL_waters 167 = .ok (.iconst 1, 1) := by decide +kernel
theorem dL_waters_168 : decode cL_waters 168 = .ok (.invokevirtual 15, 3) := by decide +kernel
theorem dL_waters_171 : decode cL_waters 171 = .ok (.i2l, 1) := by decide +kernel
theorem dL_waters_172 : decode cL_waters 172 = .ok (.ladd, 1) := by decide +kernel
theorem dL_waters_173 : decode cL_waters 173 = .ok (.lstore_n 1, 1) := by decide +kernel
theorem dL_waters_174 : decode cL_waters 174 = .ok (.iload_n 3, 1) := by decide +kernel
theorem dL_waters_175 : decode cL_waters 175 = .ok (.aload_n 0, 1) := by decide +kernel
theorem dL_waters_176 : decode cL_waters 176 = .ok (.iload 7, 2) := by decide +kernel
theorem dL_waters_178 : decode cL_waters 178 = .ok (.bipush 8, 2) := by decide +kernel
theorem dL_waters_180 : decode cL_waters 180 = .ok (.invokevirtual 15, 3) := by decide +kernel
theorem dL_waters_183 : decode cL_waters 183 = .ok (.ifCond .lt 7, 3) := by decide +kernel
theorem dL_waters_186 : decode cL_waters 186 = .ok (.iconst 1, 1) := by decide +kernel
theorem dL_waters_187 : decode cL_waters 187 = .ok (.goto 4, 3) := by decide +kernel
theorem dL_waters_190 : decode cL_waters 190 = .ok (.iconst 0, 1) := by decide +kernel
theorem dL_waters_191 : decode cL_waters 191 = .ok (.iadd, 1) := by decide +kernel
theorem dL_waters_192 : decode cL_waters 192 = .ok (.istore_n 3, 1) := by decide +kernel
theorem dL_waters_193 : decode cL_waters 193 = .ok (.iload 4, 2) := by decide +kernel
theorem dL_waters_195 : decode cL_waters 195 = .ok (.iload 8, 2) := by decide +kernel
theorem dL_waters_197 : decode cL_waters 197 = .ok (.iadd, 1) := by decide +kernel
theorem dL_waters_198 : decode cL_waters 198 = .ok (.istore 4, 2) := by decide +kernel
theorem dL_waters_200 : decode cL_waters 200 = .ok (.lload 5, 2) := by decide +kernel
theorem dL_waters_202 : decode cL_waters 202 = .ok (.aload_n 0, 1) := by decide +kernel
theorem dL_waters_203 : decode cL_waters 203 = .ok (.iload 7, 2) := by decide +kernel
theorem dL_waters_205 : decode cL_waters 205 = .ok (.bipush 11, 2) := by decide +kernel
theorem dL_waters_207 : decode cL_waters 207 = .ok (.invokevirtual 15, 3) := by decide +kernel
theorem dL_waters_210 : decode cL_waters 210 = .ok (.aload_n 0, 1) := by decide +kernel
theorem dL_waters_211 : decode cL_waters 211 = .ok (.iload 7, 2) := by decide +kernel
theorem dL_waters_213 : decode cL_waters 213 = .ok (.bipush 12, 2) := by decide +kernel
theorem dL_waters_215 : decode cL_waters 215 = .ok (.invokevirtual 15, 3) := by decide +kernel
theorem dL_waters_218 : decode cL_waters 218 = .ok (.iadd, 1) := by decide +kernel
theorem dL_waters_219 : decode cL_waters 219 = .ok (.i2l, 1) := by decide +kernel
theorem dL_waters_220 : decode cL_waters 220 = .ok (.ladd, 1) := by decide +kernel
theorem dL_waters_221 : decode cL_waters 221 = .ok (.lstore 5, 2) := by decide +kernel
theorem dL_waters_223 : decode cL_waters 223 = .ok (.aload_n 0, 1) := by decide +kernel
theorem dL_waters_224 : decode cL_waters 224 = .ok (.bipush 100, 2) := by decide +kernel
theorem dL_waters_226 : decode cL_waters 226 = .ok (.iload 7, 2) := by decide +kernel
theorem dL_waters_228 : decode cL_waters 228 = .ok (.iadd, 1) := by decide +kernel
theorem dL_waters_229 : decode cL_waters 229 = .ok (.invokestatic 33, 3) := by decide +kernel
theorem dL_waters_232 : decode cL_waters 232 = .ok (.ifCond .eq 98, 3) := by decide +kernel
theorem dL_waters_235 : decode cL_waters 235 = .ok (.iload 8, 2) := by decide +kernel
theorem dL_waters_237 : decode cL_waters 237 = .ok (.aload_n 0, 1) := by decide +kernel
theorem dL_waters_238 : decode cL_waters 238 = .ok (.iload 7, 2) := by decide +kernel
theorem dL_waters_240 : decode cL_waters 240 = .ok (.iconst 3, 1) := by decide +kernel
theorem dL_waters_241 : decode cL_waters 241 = .ok (.invokevirtual 15, 3) := by decide +kernel
theorem dL_waters_244 : decode cL_waters 244 = .ok (.if_icmp .ne 86, 3) := by decide +kernel
theorem dL_waters_247 : decode cL_waters 247 = .ok (.aload_n 0, 1) := by decide +kernel
theorem dL_waters_248 : decode cL_waters 248 = .ok (.iload 7, 2) := by decide +kernel
theorem dL_waters_250 : decode cL_waters 250 = .ok (.bipush 7, 2) := by decide +kernel
theorem dL_waters_252 : decode cL_waters 252 = .ok (.invokevirtual 15, 3) := by decide +kernel
theorem dL_waters_255 : decode cL_waters 255 = .ok (.aload_n 0, 1) := by decide +kernel
theorem dL_waters_256 : decode cL_waters 256 = .ok (.iload 7, 2) := by decide +kernel
theorem dL_waters_258 : decode cL_waters 258 = .ok (.bipush 6, 2) := by decide +kernel
theorem dL_waters_260 : decode cL_waters 260 = .ok (.invokevirtual 15, 3) := by decide +kernel
theorem dL_waters_263 : decode cL_waters 263 = .ok (.iload 9, 2) := by decide +kernel
theorem dL_waters_265 : decode cL_waters 265 = .ok (.isub, 1) := by decide +kernel
theorem dL_waters_266 : decode cL_waters 266 = .ok (.if_icmp .ne 64, 3) := by decide +kernel
theorem dL_waters_269 : decode cL_waters 269 = .ok (.aload_n 0, 1) := by decide +kernel
theorem dL_waters_270 : decode cL_waters 270 = .ok (.iload 7, 2) := by decide +kernel
theorem dL_waters_272 : decode cL_waters 272 = .ok (.bipush 7, 2) := by decide +kernel
theorem dL_waters_274 : decode cL_waters 274 = .ok (.invokevirtual 15, 3) := by decide +kernel
theorem dL_waters_277 : decode cL_waters 277 = .ok (.ifCond .lt 53, 3) := by decide +kernel
theorem dL_waters_280 : decode cL_waters 280 = .ok (.aload_n 0, 1) := by decide +kernel
theorem dL_waters_281 : decode cL_waters 281 = .ok (.iload 7, 2) := by decide +kernel
theorem dL_waters_283 : decode cL_waters 283 = .ok (.bipush 8, 2) := by decide +kernel
theorem dL_waters_285 : decode cL_waters 285 = .ok (.invokevirtual 15, 3) := by decide +kernel
theorem dL_waters_288 : decode cL_waters 288 = .ok (.iconst 1, 1) := by decide +kernel
theorem dL_waters_289 : decode cL_waters 289 = .ok (.if_icmp .gt 41, 3) := by decide +kernel
theorem dL_waters_292 : decode cL_waters 292 = .ok (.aload_n 0, 1) := by decide +kernel
theorem dL_waters_293 : decode cL_waters 293 = .ok (.iload 7, 2) := by decide +kernel
theorem dL_waters_295 : decode cL_waters 295 = .ok (.bipush 13, 2) := by decide +kernel
theorem dL_waters_297 : decode cL_waters 297 = .ok (.invokevirtual 15, 3) := by decide +kernel
theorem dL_waters_300 : decode cL_waters 300 = .ok (.ldc 37, 2) := by decide +kernel
theorem dL_waters_302 : decode cL_waters 302 = .ok (.if_icmp .ne 28, 3) := by decide +kernel
theorem dL_waters_305 : decode cL_waters 305 = .ok (.aload_n 0, 1) := by decide +kernel
theorem dL_waters_306 : decode cL_waters 306 = .ok (.iload 7, 2) := by decide +kernel
theorem dL_waters_308 : decode cL_waters 308 = .ok (.iconst (-1), 1) := by decide +kernel
theorem dL_waters_309 : decode cL_waters 309 = .ok (.invokevirtual 38, 3) := by decide +kernel
theorem dL_waters_312 : decode cL_waters 312 = .ok (.ldc 37, 2) := by decide +kernel
theorem dL_waters_314 : decode cL_waters 314 = .ok (.if_icmp .ne 16, 3) := by decide +kernel
theorem dL_waters_317 : decode cL_waters 317 = .ok (.aload_n 0, 1) := by decide +kernel
theorem dL_waters_318 : decode cL_waters 318 = .ok (.iload 7, 2) := by decide +kernel
theorem dL_waters_320 : decode cL_waters 320 = .ok (.iload 8, 2) := by decide +kernel
theorem dL_waters_322 : decode cL_waters 322 = .ok (.invokevirtual 38, 3) := by decide +kernel
theorem dL_waters_325 : decode cL_waters 325 = .ok (.ldc 41, 2) := by decide +kernel
theorem dL_waters_327 : decode cL_waters 327 = .ok (.if_icmp .eq 5, 3) := by decide +kernel
theorem dL_waters_330 : decode cL_waters 330 = .ok (.iconst 0, 1) := by decide +kernel
theorem dL_waters_331 : decode cL_waters 331 = .ok (.ireturn, 1) := by decide +kernel
theorem dL_waters_332 : decode cL_waters 332 = .ok (.iinc 7 1, 3) := by decide +kernel
theorem dL_waters_335 : decode cL_waters 335 = .ok (.goto (-268), 3) := by decide +kernel
theorem dL_waters_338 : decode cL_waters 338 = .ok (.aload_n 0, 1) := by decide +kernel
theorem dL_waters_339 : decode cL_waters 339 = .ok (.iconst 0, 1) := by decide +kernel
theorem dL_waters_340 : decode cL_waters 340 = .ok (.invokevirtual 42, 3) := by decide +kernel
theorem dL_waters_343 : decode cL_waters 343 = .ok (.aload_n 0, 1) := by decide +kernel
theorem dL_waters_344 : decode cL_waters 344 = .ok (.iconst 1, 1) := by decide +kernel
theorem dL_waters_345 : decode cL_waters 345 = .ok (.invokevirtual 42, 3) := by decide +kernel
theorem dL_waters_348 : decode cL_waters 348 = .ok (.ladd, 1) := by decide +kernel
theorem dL_waters_349 : decode cL_waters 349 = .ok (.aload_n 0, 1) := by decide +kernel
theorem dL_waters_350 : decode cL_waters 350 = .ok (.iconst 4, 1) := by decide +kernel
theorem dL_waters_351 : decode cL_waters 351 = .ok (.invokevirtual 42, 3) := by decide +kernel
theorem dL_waters_354 : decode cL_waters 354 = .ok (.aload_n 0, 1) := by decide +kernel
theorem dL_waters_355 : decode cL_waters 355 = .ok (.iconst 5, 1) := by decide +kernel
theorem dL_waters_356 : decode cL_waters 356 = .ok (.invokevirtual 42, 3) := by decide +kernel
theorem dL_waters_359 : decode cL_waters 359 = .ok (.ladd, 1) := by decide +kernel
theorem dL_waters_360 : decode cL_waters 360 = .ok (.lcmp, 1) := by decide +kernel
theorem dL_waters_361 : decode cL_waters 361 = .ok (.ifCond .ne 7, 3) := by decide +kernel
theorem dL_waters_364 : decode cL_waters 364 = .ok (.iconst 1, 1) := by decide +kernel
theorem dL_waters_365 : decode cL_waters 365 = .ok (.goto 4, 3) := by decide +kernel
theorem dL_waters_368 : decode cL_waters 368 = .ok (.iconst 0, 1) := by decide +kernel
theorem dL_waters_369 : decode cL_waters 369 = .ok (.istore 7, 2) := by decide +kernel
theorem dL_waters_371 : decode cL_waters 371 = .ok (.iload 7, 2) := by decide +kernel
theorem dL_waters_373 : decode cL_waters 373 = .ok (.ifCond .eq 72, 3) := by decide +kernel
theorem dL_waters_376 : decode cL_waters 376 = .ok (.aload_n 0, 1) := by decide +kernel
theorem dL_waters_377 : decode cL_waters 377 = .ok (.iconst 0, 1) := by decide +kernel
theorem dL_waters_378 : decode cL_waters 378 = .ok (.invokevirtual 42, 3) := by decide +kernel
theorem dL_waters_381 : decode cL_waters 381 = .ok (.lload_n 1, 1) := by decide +kernel
theorem dL_waters_382 : decode cL_waters 382 = .ok (.lcmp, 1) := by decide +kernel
theorem dL_waters_383 : decode cL_waters 383 = .ok (.ifCond .ne 62, 3) := by decide +kernel
theorem dL_waters_386 : decode cL_waters 386 = .ok (.aload_n 0, 1) := by decide +kernel
theorem dL_waters_387 : decode cL_waters 387 = .ok (.bipush 6, 2) := by decide +kernel
theorem dL_waters_389 : decode cL_waters 389 = .ok (.invokevirtual 42, 3) := by decide +kernel
theorem dL_waters_392 : decode cL_waters 392 = .ok (.lload 5, 2) := by decide +kernel
theorem dL_waters_394 : decode cL_waters 394 = .ok (.lcmp, 1) := by decide +kernel
theorem dL_waters_395 : decode cL_waters 395 = .ok (.ifCond .ne 50, 3) := by decide +kernel
theorem dL_waters_398 : decode cL_waters 398 = .ok (.aload_n 0, 1) := by decide +kernel
theorem dL_waters_399 : decode cL_waters 399 = .ok (.iconst 3, 1) := by decide +kernel
theorem dL_waters_400 : decode cL_waters 400 = .ok (.invokevirtual 18, 3) := by decide +kernel
theorem dL_waters_403 : decode cL_waters 403 = .ok (.iload_n 3, 1) := by decide +kernel
theorem dL_waters_404 : decode cL_waters 404 = .ok (.if_icmp .ne 41, 3) := by decide +kernel
theorem dL_waters_407 : decode cL_waters 407 = .ok (.aload_n 0, 1) := by decide +kernel
theorem dL_waters_408 : decode cL_waters 408 = .ok (.iconst 5, 1) := by decide +kernel
theorem dL_waters_409 : decode cL_waters 409 = .ok (.invokevirtual 18, 3) := by decide +kernel
theorem dL_waters_412 : decode cL_waters 412 = .ok (.iload 4, 2) := by decide +kernel
theorem dL_waters_414 : decode cL_waters 414 = .ok (.if_icmp .ne 31, 3) := by decide +kernel
theorem dL_waters_417 : decode cL_waters 417 = .ok (.aload_n 0, 1) := by decide +kernel
theorem dL_waters_418 : decode cL_waters 418 = .ok (.bipush 7, 2) := by decide +kernel
theorem dL_waters_420 : decode cL_waters 420 = .ok (.invokevirtual 42, 3) := by decide +kernel
theorem dL_waters_423 : decode cL_waters 423 = .ok (.ldc2_w 46, 3) := by decide +kernel
theorem dL_waters_426 : decode cL_waters 426 = .ok (.lcmp, 1) := by decide +kernel
theorem dL_waters_427 : decode cL_waters 427 = .ok (.ifCond .ne 18, 3) := by decide +kernel
theorem dL_waters_430 : decode cL_waters 430 = .ok (.aload_n 0, 1) := by decide +kernel
theorem dL_waters_431 : decode cL_waters 431 = .ok (.bipush 10, 2) := by decide +kernel
theorem dL_waters_433 : decode cL_waters 433 = .ok (.invokevirtual 18, 3) := by decide +kernel
theorem dL_waters_436 : decode cL_waters 436 = .ok (.ldc 37, 2) := by decide +kernel
theorem dL_waters_438 : decode cL_waters 438 = .ok (.if_icmp .ne 7, 3) := by decide +kernel
theorem dL_waters_441 : decode cL_waters 441 = .ok (.iconst 1, 1) := by decide +kernel
theorem dL_waters_442 : decode cL_waters 442 = .ok (.goto 4, 3) := by decide +kernel
theorem dL_waters_445 : decode cL_waters 445 = .ok (.iconst 0, 1) := by decide +kernel
theorem dL_waters_446 : decode cL_waters 446 = .ok (.ireturn, 1) := by decide +kernel
theorem dL_barges_0 : decode cL_barges 0 = .ok (.iconst 0, 1) := by decide +kernel
theorem dL_barges_1 : decode cL_barges 1 = .ok (.istore_n 1, 1) := by decide +kernel
theorem dL_barges_2 : decode cL_barges 2 = .ok (.lconst 0, 1) := by decide +kernel
theorem dL_barges_3 : decode cL_barges 3 = .ok (.lstore_n 2, 1) := by decide +kernel
theorem dL_barges_4 : decode cL_barges 4 = .ok (.lconst 0, 1) := by decide +kernel
theorem dL_barges_5 : decode cL_barges 5 = .ok (.lstore 4, 2) := by decide +kernel
theorem dL_barges_7 : decode cL_barges 7 = .ok (.lconst 0, 1) := by decide +kernel
theorem dL_barges_8 : decode cL_barges 8 = .ok (.lstore 6, 2) := by decide +kernel
theorem dL_barges_10 : decode cL_barges 10 = .ok (.lconst 0, 1) := by decide +kernel
theorem dL_barges_11 : decode cL_barges 11 = .ok (.lstore 8, 2) := by decide +kernel
theorem dL_barges_13 : decode cL_barges 13 = .ok (.iconst 0, 1) := by decide +kernel
theorem dL_barges_14 : decode cL_barges 14 = .ok (.istore 10, 2) := by decide +kernel
theorem dL_barges_16 : decode cL_barges 16 = .ok (.iload 10, 2) := by decide +kernel
theorem dL_barges_18 : decode cL_barges 18 = .ok (.aload_n 0, 1) := by decide +kernel
theorem dL_barges_19 : decode cL_barges 19 = .ok (.iconst 2, 1) := by decide +kernel
theorem dL_barges_20 : decode cL_barges 20 = .ok (.invokevirtual 18, 3) := by decide +kernel
theorem dL_barges_23 : decode cL_barges 23 = .ok (.if_icmp .ge 185, 3) := by decide +kernel
theorem dL_barges_26 : decode cL_barges 26 = .ok (.aload_n 0, 1) := by decide +kernel
theorem dL_barges_27 : decode cL_barges 27 = .ok (.iload 10, 2) := by decide +kernel
theorem dL_barges_29 : decode cL_barges 29 = .ok (.bipush 7, 2) := by decide +kernel
theorem dL_barges_31 : decode cL_barges 31 = .ok (.invokevirtual 22, 3) := by decide +kernel
theorem dL_barges_34 : decode cL_barges 34 = .ok (.istore 11, 2) := by decide +kernel
theorem dL_barges_36 : decode cL_barges 36 = .ok (.aload_n 0, 1) := by decide +kernel
theorem dL_barges_37 : decode cL_barges 37 = .ok (.iload 11, 2) := by decide +kernel
theorem dL_barges_39 : decode cL_barges 39 = .ok (.iconst 0, 1) := by decide +kernel
theorem dL_barges_40 : decode cL_barges 40 = .ok (.invokestatic 25, 3) := by decide +kernel
theorem dL_barges_43 : decode cL_barges 43 = .ok (.aload_n 0, 1) := by decide +kernel
theorem dL_barges_44 : decode cL_barges 44 = .ok (.iload 11, 2) := by decide +kernel
theorem dL_barges_46 : decode cL_barges 46 = .ok (.iconst 5, 1) := by decide +kernel
theorem dL_barges_47 : decode cL_barges 47 = .ok (.invokestatic 25, 3) := by decide +kernel
theorem dL_barges_50 : decode cL_barges 50 = .ok (.isub, 1) := by decide +kernel
theorem dL_barges_51 : decode cL_barges 51 = .ok (.istore 12, 2) := by decide +kernel
theorem dL_barges_53 : decode cL_barges 53 = .ok (.iload 12, 2) := by decide +kernel
theorem dL_barges_55 : decode cL_barges 55 = .ok (.aload_n 0, 1) := by decide +kernel
theorem dL_barges_56 : decode cL_barges 56 = .ok (.iload 10, 2) := by decide +kernel
theorem dL_barges_58 : decode cL_barges 58 = .ok (.iconst 2, 1) := by decide +kernel
theorem dL_barges_59 : decode cL_barges 59 = .ok (.invokevirtual 22, 3) := by decide +kernel
theorem dL_barges_62 : decode cL_barges 62 = .ok (.if_icmp .ge 7, 3) := by decide +kernel
theorem dL_barges_65 : decode cL_barges 65 = .ok (.iconst 1, 1) := by decide +kernel
theorem dL_barges_66 : decode cL_barges 66 = .ok (.goto 4, 3) := by decide +kernel
theorem dL_barges_69 : decode cL_barges 69 = .ok (.iconst 0, 1) := by decide +kernel
theorem dL_barges_70 : decode cL_barges 70 = .ok (.istore 13, 2) := by decide +kernel
theorem dL_barges_72 : decode cL_barges 72 = .ok (.iload_n 1, 1) := by decide +kernel
theorem dL_barges_73 : decode cL_barges 73 = .ok (.iload 13, 2) := by decide +kernel
theorem dL_barges_75 : decode cL_barges 75 = .ok (.ifCond .eq 7, 3) := by decide +kernel
theorem dL_barges_78 : decode cL_barges 78 = .ok (.iconst 1, 1) := by decide +kernel
theorem dL_barges_79 : decode cL_barges 79 = .ok (.goto 4, 3) := by decide +kernel
theorem dL_barges_82 : decode cL_barges 82 = .ok (.iconst 0, 1) := by decide +kernel
theorem dL_barges_83 : decode cL_barges 83 = .ok (.iadd, 1) := by decide +kernel
theorem dL_barges_84 : decode cL_barges 84 = .ok (.istore_n 1, 1) := by decide +kernel
theorem dL_barges_85 : decode cL_barges 85 = .ok (.lload_n 2, 1) := by decide +kernel
theorem dL_barges_86 : decode cL_barges 86 = .ok (.aload_n 0, 1) := by decide +kernel
theorem dL_barges_87 : decode cL_barges 87 = .ok (.iload 10, 2) := by decide +kernel
theorem dL_barges_89 : decode cL_barges 89 = .ok (.iconst 4, 1) := by decide +kernel
theorem dL_barges_90 : decode cL_barges 90 = .ok (.invokevirtual 22, 3) := by decide +kernel
theorem dL_barges_93 : decode cL_barges 93 = .ok (.i2l, 1) := by decide +kernel
theorem dL_barges_94 : decode cL_barges 94 = .ok (.ladd, 1) := by decide +kernel
theorem dL_barges_95 : decode cL_barges 95 = .ok (.lstore_n 2, 1) := by decide +kernel
theorem dL_barges_96 : decode cL_barges 96 = .ok (.lload 4, 2) := by decide +kernel
theorem dL_barges_98 : decode cL_barges 98 = .ok (.aload_n 0, 1) := by decide +kernel
theorem dL_barges_99 : decode cL_barges 99 = .ok (.iload 10, 2) := by decide +kernel
theorem dL_barges_101 : decode cL_barges 101 = .ok (.iconst 3, 1) := by decide +kernel
theorem dL_barges_102 : decode cL_barges 102 = .ok (.invokevirtual 22, 3) := by decide +kernel
theorem dL_barges_105 : decode cL_barges 105 = .ok (.i2l, 1) := by decide +kernel
theorem dL_barges_106 : decode cL_barges 106 = .ok (.ladd, 1) := by decide +kernel
theorem dL_barges_107 : decode cL_barges 107 = .ok (.lstore 4, 2) := by decide +kernel
theorem dL_barges_109 : decode cL_barges 109 = .ok (.lload 6, 2) := by decide +kernel
theorem dL_barges_111 : decode cL_barges 111 = .ok (.aload_n 0, 1) := by decide +kernel
theorem dL_barges_112 : decode cL_barges 112 = .ok (.iload 10, 2) := by decide +kernel
theorem dL_barges_114 : decode cL_barges 114 = .ok (.iconst 1, 1) := by decide +kernel
theorem dL_barges_115 : decode cL_barges 115 = .ok (.invokevirtual 22, 3) := by decide +kernel
theorem dL_barges_118 : decode cL_barges 118 = .ok (.i2l, 1) := by decide +kernel
theorem dL_barges_119 : decode cL_barges 119 = .ok (.ladd, 1) := by decide +kernel
theorem dL_barges_120 : decode cL_barges 120 = .ok (.lstore 6, 2) := by decide +kernel
theorem dL_barges_122 : decode cL_barges 122 = .ok (.lload 8, 2) := by decide +kernel
theorem dL_barges_124 : decode cL_barges 124 = .ok (.aload_n 0, 1) := by decide +kernel
theorem dL_barges_125 : decode cL_barges 125 = .ok (.iload 10, 2) := by decide +kernel
theorem dL_barges_127 : decode cL_barges 127 = .ok (.bipush 8, 2) := by decide +kernel
theorem dL_barges_129 : decode cL_barges 129 = .ok (.invokevirtual 22, 3) := by decide +kernel
theorem dL_barges_132 : decode cL_barges 132 = .ok (.i2l, 1) := by decide +kernel
theorem dL_barges_133 : decode cL_barges 133 = .ok (.ladd, 1) := by decide +kernel
theorem dL_barges_134 : decode cL_barges 134 = .ok (.lstore 8, 2) := by decide +kernel
theorem dL_barges_136 : decode cL_barges 136 = .ok (.aload_n 0, 1) := by decide +kernel
theorem dL_barges_137 : decode cL_barges 137 = .ok (.iload 10, 2) := by decide +kernel
theorem dL_barges_139 : decode cL_barges 139 = .ok (.bipush 6, 2) := by decide +kernel
theorem dL_barges_141 : decode cL_barges 141 = .ok (.invokevirtual 22, 3) := by decide +kernel
theorem dL_barges_144 : decode cL_barges 144 = .ok (.iload 13, 2) := by decide +kernel
theorem dL_barges_146 : decode cL_barges 146 = .ok (.ifCond .eq 7, 3) := by decide +kernel
theorem dL_barges_149 : decode cL_barges 149 = .ok (.iconst 1, 1) := by decide +kernel
theorem dL_barges_150 : decode cL_barges 150 = .ok (.goto 4, 3) := by decide +kernel
theorem dL_barges_153 : decode cL_barges 153 = .ok (.iconst 0, 1) := by decide +kernel
theorem dL_barges_154 : decode cL_barges 154 = .ok (.if_icmp .ne 46, 3) := by decide +kernel
theorem dL_barges_157 : decode cL_barges 157 = .ok (.aload_n 0, 1) := by decide +kernel
theorem dL_barges_158 : decode cL_barges 158 = .ok (.iload 10, 2) := by decide +kernel
theorem dL_barges_160 : decode cL_barges 160 = .ok (.iconst 3, 1) := by decide +kernel
theorem dL_barges_161 : decode cL_barges 161 = .ok (.invokevirtual 22, 3) := by decide +kernel
theorem dL_barges_164 : decode cL_barges 164 = .ok (.ifCond .lt 36, 3) := by decide +kernel
theorem dL_barges_167 : decode cL_barges 167 = .ok (.aload_n 0, 1) := by decide +kernel
theorem dL_barges_168 : decode cL_barges 168 = .ok (.iload 10, 2) := by decide +kernel
theorem dL_barges_170 : decode cL_barges 170 = .ok (.iconst 4, 1) := by decide +kernel
theorem dL_barges_171 : decode cL_barges 171 = .ok (.invokevirtual 22, 3) := by decide +kernel
theorem dL_barges_174 : decode cL_barges 174 = .ok (.ifCond .lt 26, 3) := by decide +kernel
theorem dL_barges_177 : decode cL_barges 177 = .ok (.aload_n 0, 1) := by decide +kernel
theorem dL_barges_178 : decode cL_barges 178 = .ok (.iload 10, 2) := by decide +kernel
theorem dL_barges_180 : decode cL_barges 180 = .ok (.iconst 5, 1) := by decide +kernel
theorem dL_barges_181 : decode cL_barges 181 = .ok (.invokevirtual 22, 3) := by decide +kernel
theorem dL_barges_184 : decode cL_barges 184 = .ok (.ifCond .lt 16, 3) := by decide +kernel
theorem dL_barges_187 : decode cL_barges 187 = .ok (.aload_n 0, 1) := by decide +kernel
theorem dL_barges_188 : decode cL_barges 188 = .ok (.iload 10, 2) := by decide +kernel
theorem dL_barges_190 : decode cL_barges 190 = .ok (.bipush 9, 2) := by decide +kernel
theorem dL_barges_192 : decode cL_barges 192 = .ok (.invokevirtual 22, 3) := by decide +kernel
theorem dL_barges_195 : decode cL_barges 195 = .ok (.ldc 37, 2) := by decide +kernel
theorem dL_barges_197 : decode cL_barges 197 = .ok (.if_icmp .eq 5, 3) := by decide +kernel
theorem dL_barges_200 : decode cL_barges 200 = .ok (.iconst 0, 1) := by decide +kernel
theorem dL_barges_201 : decode cL_barges 201 = .ok (.ireturn, 1) := by decide +kernel
theorem dL_barges_202 : decode cL_barges 202 = .ok (.iinc 10 1, 3) := by decide +kernel
theorem dL_barges_205 : decode cL_barges 205 = .ok (.goto (-189), 3) := by decide +kernel
theorem dL_barges_208 : decode cL_barges 208 = .ok (.aload_n 0, 1) := by decide +kernel
theorem dL_barges_209 : decode cL_barges 209 = .ok (.iconst 4, 1) := by decide +kernel
theorem dL_barges_210 : decode cL_barges 210 = .ok (.invokevirtual 18, 3) := by decide +kernel
theorem dL_barges_213 : decode cL_barges 213 = .ok (.iload_n 1, 1) := by decide +kernel
theorem dL_barges_214 : decode cL_barges 214 = .ok (.if_icmp .ne 66, 3) := by decide +kernel
theorem dL_barges_217 : decode cL_barges 217 = .ok (.aload_n 0, 1) := by decide +kernel
theorem dL_barges_218 : decode cL_barges 218 = .ok (.iconst 1, 1) := by decide +kernel
theorem dL_barges_219 : decode cL_barges 219 = .ok (.invokevirtual 42, 3) := by decide +kernel
theorem dL_barges_222 : decode cL_barges 222 = .ok (.lload_n 2, 1) := by decide +kernel
theorem dL_barges_223 : decode cL_barges 223 = .ok (.lcmp, 1) := by decide +kernel
theorem dL_barges_224 : decode cL_barges 224 = .ok (.ifCond .ne 56, 3) := by decide +kernel
theorem dL_barges_227 : decode cL_barges 227 = .ok (.aload_n 0, 1) := by decide +kernel
theorem dL_barges_228 : decode cL_barges 228 = .ok (.iconst 2, 1) := by decide +kernel
theorem dL_barges_229 : decode cL_barges 229 = .ok (.invokevirtual 42, 3) := by decide +kernel
theorem dL_barges_232 : decode cL_barges 232 = .ok (.lload 4, 2) := by decide +kernel
theorem dL_barges_234 : decode cL_barges 234 = .ok (.lcmp, 1) := by decide +kernel
theorem dL_barges_235 : decode cL_barges 235 = .ok (.ifCond .ne 45, 3) := by decide +kernel
theorem dL_barges_238 : decode cL_barges 238 = .ok (.aload_n 0, 1) := by decide +kernel
theorem dL_barges_239 : decode cL_barges 239 = .ok (.iconst 3, 1) := by decide +kernel
theorem dL_barges_240 : decode cL_barges 240 = .ok (.invokevirtual 42, 3) := by decide +kernel
theorem dL_barges_243 : decode cL_barges 243 = .ok (.lload 6, 2) := by decide +kernel
theorem dL_barges_245 : decode cL_barges 245 = .ok (.lcmp, 1) := by decide +kernel
theorem dL_barges_246 : decode cL_barges 246 = .ok (.ifCond .ne 34, 3) := by decide +kernel
theorem dL_barges_249 : decode cL_barges 249 = .ok (.aload_n 0, 1) := by decide +kernel
theorem dL_barges_250 : decode cL_barges 250 = .ok (.bipush 6, 2) := by decide +kernel
theorem dL_barges_252 : decode cL_barges 252 = .ok (.invokevirtual 42, 3) := by decide +kernel
theorem dL_barges_255 : decode cL_barges 255 = .ok (.lload 8, 2) := by decide +kernel
theorem dL_barges_257 : decode cL_barges 257 = .ok (.lcmp, 1) := by decide +kernel
theorem dL_barges_258 : decode cL_barges 258 = .ok (.ifCond .ne 22, 3) := by decide +kernel
theorem dL_barges_261 : decode cL_barges 261 = .ok (.aload_n 0, 1) := by decide +kernel
theorem dL_barges_262 : decode cL_barges 262 = .ok (.aload_n 0, 1) := by decide +kernel
theorem dL_barges_263 : decode cL_barges 263 = .ok (.iconst 2, 1) := by decide +kernel
theorem dL_barges_264 : decode cL_barges 264 = .ok (.invokevirtual 18, 3) := by decide +kernel
theorem dL_barges_267 : decode cL_barges 267 = .ok (.iconst 0, 1) := by decide +kernel
theorem dL_barges_268 : decode cL_barges 268 = .ok (.invokevirtual 22, 3) := by decide +kernel
theorem dL_barges_271 : decode cL_barges 271 = .ok (.ldc 48, 2) := by decide +kernel
theorem dL_barges_273 : decode cL_barges 273 = .ok (.if_icmp .ne 7, 3) := by decide +kernel
theorem dL_barges_276 : decode cL_barges 276 = .ok (.iconst 1, 1) := by decide +kernel
theorem dL_barges_277 : decode cL_barges 277 = .ok (.goto 4, 3) := by decide +kernel
theorem dL_barges_280 : decode cL_barges 280 = .ok (.iconst 0, 1) := by decide +kernel
theorem dL_barges_281 : decode cL_barges 281 = .ok (.ireturn, 1) := by decide +kernel
theorem dL_flows_0 : decode cL_flows 0 = .ok (.iload_n 1, 1) := by decide +kernel
theorem dL_flows_1 : decode cL_flows 1 = .ok (.iload_n 2, 1) := by decide +kernel
theorem dL_flows_2 : decode cL_flows 2 = .ok (.iadd, 1) := by decide +kernel
theorem dL_flows_3 : decode cL_flows 3 = .ok (.istore_n 3, 1) := by decide +kernel
theorem dL_flows_4 : decode cL_flows 4 = .ok (.aload_n 0, 1) := by decide +kernel
theorem dL_flows_5 : decode cL_flows 5 = .ok (.iload_n 1, 1) := by decide +kernel
theorem dL_flows_6 : decode cL_flows 6 = .ok (.iconst 4, 1) := by decide +kernel
theorem dL_flows_7 : decode cL_flows 7 = .ok (.invokevirtual 15, 3) := by decide +kernel
theorem dL_flows_10 : decode cL_flows 10 = .ok (.i2l, 1) := by decide +kernel
theorem dL_flows_11 : decode cL_flows 11 = .ok (.lstore 4, 2) := by decide +kernel
theorem dL_flows_13 : decode cL_flows 13 = .ok (.aload_n 0, 1) := by decide +kernel
theorem dL_flows_14 : decode cL_flows 14 = .ok (.iload_n 3, 1) := by decide +kernel
theorem dL_flows_15 : decode cL_flows 15 = .ok (.iconst 4, 1) := by decide +kernel
theorem dL_flows_16 : decode cL_flows 16 = .ok (.invokevirtual 9, 3) := by decide +kernel
theorem dL_flows_19 : decode cL_flows 19 = .ok (.i2l, 1) := by decide +kernel
theorem dL_flows_20 : decode cL_flows 20 = .ok (.lstore 6, 2) := by decide +kernel
theorem dL_flows_22 : decode cL_flows 22 = .ok (.aload_n 0, 1) := by decide +kernel
theorem dL_flows_23 : decode cL_flows 23 = .ok (.iload_n 1, 1) := by decide +kernel
theorem dL_flows_24 : decode cL_flows 24 = .ok (.iconst 1, 1) := by decide +kernel
theorem dL_flows_25 : decode cL_flows 25 = .ok (.invokevirtual 15, 3) := by decide +kernel
theorem dL_flows_28 : decode cL_flows 28 = .ok (.i2l, 1) := by decide +kernel
theorem dL_flows_29 : decode cL_flows 29 = .ok (.aload_n 0, 1) := by decide +kernel
theorem dL_flows_30 : decode cL_flows 30 = .ok (.iload_n 3, 1) := by decide +kernel
theorem dL_flows_31 : decode cL_flows 31 = .ok (.iconst 1, 1) := by decide +kernel
theorem dL_flows_32 : decode cL_flows 32 = .ok (.invokevirtual 9, 3) := by decide +kernel
theorem dL_flows_35 : decode cL_flows 35 = .ok (.i2l, 1) := by decide +kernel
theorem dL_flows_36 : decode cL_flows 36 = .ok (.ladd, 1) := by decide +kernel
theorem dL_flows_37 : decode cL_flows 37 = .ok (.lstore 8, 2) := by decide +kernel
theorem dL_flows_39 : decode cL_flows 39 = .ok (.lload 8, 2) := by decide +kernel
theorem dL_flows_41 : decode cL_flows 41 = .ok (.aload_n 0, 1) := by decide +kernel
theorem dL_flows_42 : decode cL_flows 42 = .ok (.iload_n 1, 1) := by decide +kernel
theorem dL_flows_43 : decode cL_flows 43 = .ok (.iconst 2, 1) := by decide +kernel
theorem dL_flows_44 : decode cL_flows 44 = .ok (.invokevirtual 15, 3) := by decide +kernel
theorem dL_flows_47 : decode cL_flows 47 = .ok (.i2l, 1) := by decide +kernel
theorem dL_flows_48 : decode cL_flows 48 = .ok (.ladd, 1) := by decide +kernel
theorem dL_flows_49 : decode cL_flows 49 = .ok (.aload_n 0, 1) := by decide +kernel
theorem dL_flows_50 : decode cL_flows 50 = .ok (.iload_n 3, 1) := by decide +kernel
theorem dL_flows_51 : decode cL_flows 51 = .ok (.iconst 2, 1) := by decide +kernel
theorem dL_flows_52 : decode cL_flows 52 = .ok (.invokevirtual 9, 3) := by decide +kernel
theorem dL_flows_55 : decode cL_flows 55 = .ok (.i2l, 1) := by decide +kernel
theorem dL_flows_56 : decode cL_flows 56 = .ok (.ladd, 1) := by decide +kernel
theorem dL_flows_57 : decode cL_flows 57 = .ok (.lstore 10, 2) := by decide +kernel
theorem dL_flows_59 : decode cL_flows 59 = .ok (.lload 10, 2) := by decide +kernel
theorem dL_flows_61 : decode cL_flows 61 = .ok (.ldc2_w 31, 3) := by decide +kernel
theorem dL_flows_64 : decode cL_flows 64 = .ok (.lmul, 1) := by decide +kernel
theorem dL_flows_65 : decode cL_flows 65 = .ok (.lload 4, 2) := by decide +kernel
theorem dL_flows_67 : decode cL_flows 67 = .ok (.aload_n 0, 1) := by decide +kernel
theorem dL_flows_68 : decode cL_flows 68 = .ok (.iload_n 1, 1) := by decide +kernel
theorem dL_flows_69 : decode cL_flows 69 = .ok (.iconst 5, 1) := by decide +kernel
theorem dL_flows_70 : decode cL_flows 70 = .ok (.invokevirtual 15, 3) := by decide +kernel
theorem dL_flows_73 : decode cL_flows 73 = .ok (.i2l, 1) := by decide +kernel
theorem dL_flows_74 : decode cL_flows 74 = .ok (.lmul, 1) := by decide +kernel
theorem dL_flows_75 : decode cL_flows 75 = .ok (.ladd, 1) := by decide +kernel
theorem dL_flows_76 : decode cL_flows 76 = .ok (.lload 6, 2) := by decide +kernel
theorem dL_flows_78 : decode cL_flows 78 = .ok (.aload_n 0, 1) := by decide +kernel
theorem dL_flows_79 : decode cL_flows 79 = .ok (.iload_n 3, 1) := by decide +kernel
theorem dL_flows_80 : decode cL_flows 80 = .ok (.iconst 5, 1) := by decide +kernel
theorem dL_flows_81 : decode cL_flows 81 = .ok (.invokevirtual 9, 3) := by decide +kernel
theorem dL_flows_84 : decode cL_flows 84 = .ok (.i2l, 1) := by decide +kernel
theorem dL_flows_85 : decode cL_flows 85 = .ok (.lmul, 1) := by decide +kernel
theorem dL_flows_86 : decode cL_flows 86 = .ok (.ladd, 1) := by decide +kernel
theorem dL_flows_87 : decode cL_flows 87 = .ok (.lload 4, 2) := by decide +kernel
theorem dL_flows_89 : decode cL_flows 89 = .ok (.lload 6, 2) := by decide +kernel
theorem dL_flows_91 : decode cL_flows 91 = .ok (.ladd, 1) := by decide +kernel
theorem dL_flows_92 : decode cL_flows 92 = .ok (.ldiv, 1) := by decide +kernel
theorem dL_flows_93 : decode cL_flows 93 = .ok (.lstore 12, 2) := by decide +kernel
theorem dL_flows_95 : decode cL_flows 95 = .ok (.lload 4, 2) := by decide +kernel
theorem dL_flows_97 : decode cL_flows 97 = .ok (.lload 12, 2) := by decide +kernel
theorem dL_flows_99 : decode cL_flows 99 = .ok (.aload_n 0, 1) := by decide +kernel
theorem dL_flows_100 : decode cL_flows 100 = .ok (.iload_n 1, 1) := by decide +kernel
theorem dL_flows_101 : decode cL_flows 101 = .ok (.iconst 5, 1) := by decide +kernel
theorem dL_flows_102 : decode cL_flows 102 = .ok (.invokevirtual 15, 3) := by decide +kernel
theorem dL_flows_105 : decode cL_flows 105 = .ok (.i2l, 1) := by decide +kernel
theorem dL_flows_106 : decode cL_flows 106 = .ok (.lsub, 1) := by decide +kernel
theorem dL_flows_107 : decode cL_flows 107 = .ok (.lmul, 1) := by decide +kernel
theorem dL_flows_108 : decode cL_flows 108 = .ok (.lstore 14, 2) := by decide +kernel
theorem dL_flows_110 : decode cL_flows 110 = .ok (.lload 14, 2) := by decide +kernel
theorem dL_flows_112 : decode cL_flows 112 = .ok (.lload 14, 2) := by decide +kernel
theorem dL_flows_114 : decode cL_flows 114 = .ok (.ldc2_w 31, 3) := by decide +kernel
theorem dL_flows_117 : decode cL_flows 117 = .ok (.lrem, 1) := by decide +kernel
theorem dL_flows_118 : decode cL_flows 118 = .ok (.ldc2_w 31, 3) := by decide +kernel
theorem dL_flows_121 : decode cL_flows 121 = .ok (.ladd, 1) := by decide +kernel
theorem dL_flows_122 : decode cL_flows 122 = .ok (.ldc2_w 31, 3) := by decide +kernel
theorem dL_flows_125 : decode cL_flows 125 = .ok (.lrem, 1) := by decide +kernel
theorem dL_flows_126 : decode cL_flows 126 = .ok (.lsub, 1) := by decide +kernel
theorem dL_flows_127 : decode cL_flows 127 = .ok (.ldc2_w 31, 3) := by decide +kernel
theorem dL_flows_130 : decode cL_flows 130 = .ok (.ldiv, 1) := by decide +kernel
theorem dL_flows_131 : decode cL_flows 131 = .ok (.aload_n 0, 1) := by decide +kernel
theorem dL_flows_132 : decode cL_flows 132 = .ok (.iload_n 1, 1) := by decide +kernel
theorem dL_flows_133 : decode cL_flows 133 = .ok (.iconst 2, 1) := by decide +kernel
theorem dL_flows_134 : decode cL_flows 134 = .ok (.invokevirtual 15, 3) := by decide +kernel
theorem dL_flows_137 : decode cL_flows 137 = .ok (.i2l, 1) := by decide +kernel
theorem dL_flows_138 : decode cL_flows 138 = .ok (.lsub, 1) := by decide +kernel
theorem dL_flows_139 : decode cL_flows 139 = .ok (.lstore 16, 2) := by decide +kernel
theorem dL_flows_141 : decode cL_flows 141 = .ok (.lload 16, 2) := by decide +kernel
theorem dL_flows_143 : decode cL_flows 143 = .ok (.lconst 0, 1) := by decide +kernel
theorem dL_flows_144 : decode cL_flows 144 = .ok (.lcmp, 1) := by decide +kernel
theorem dL_flows_145 : decode cL_flows 145 = .ok (.ifCond .ge 7, 3) := by decide +kernel
theorem dL_flows_148 : decode cL_flows 148 = .ok (.lconst 0, 1) := by decide +kernel
theorem dL_flows_149 : decode cL_flows 149 = .ok (.goto 18, 3) := by decide +kernel
theorem dL_flows_152 : decode cL_flows 152 = .ok (.lload 16, 2) := by decide +kernel
theorem dL_flows_154 : decode cL_flows 154 = .ok (.lload 8, 2) := by decide +kernel
theorem dL_flows_156 : decode cL_flows 156 = .ok (.lcmp, 1) := by decide +kernel
theorem dL_flows_157 : decode cL_flows 157 = .ok (.ifCond .le 8, 3) := by decide +kernel
theorem dL_flows_160 : decode cL_flows 160 = .ok (.lload 8, 2) := by decide +kernel
theorem dL_flows_162 : decode cL_flows 162 = .ok (.goto 5, 3) := by decide +kernel
theorem dL_flows_165 : decode cL_flows 165 = .ok (.lload 16, 2) := by decide +kernel
theorem dL_flows_167 : decode cL_flows 167 = .ok (.lstore 16, 2) := by decide +kernel
theorem dL_flows_169 : decode cL_flows 169 = .ok (.aload_n 0, 1) := by decide +kernel
theorem dL_flows_170 : decode cL_flows 170 = .ok (.iload_n 1, 1) := by decide +kernel
theorem dL_flows_171 : decode cL_flows 171 = .ok (.iload_n 2, 1) := by decide +kernel
theorem dL_flows_172 : decode cL_flows 172 = .ok (.invokevirtual 49, 3) := by decide +kernel
theorem dL_flows_175 : decode cL_flows 175 = .ok (.i2l, 1) := by decide +kernel
theorem dL_flows_176 : decode cL_flows 176 = .ok (.lload 16, 2) := by decide +kernel
theorem dL_flows_178 : decode cL_flows 178 = .ok (.aload_n 0, 1) := by decide +kernel
theorem dL_flows_179 : decode cL_flows 179 = .ok (.iload_n 1, 1) := by decide +kernel
theorem dL_flows_180 : decode cL_flows 180 = .ok (.iconst 1, 1) := by decide +kernel
theorem dL_flows_181 : decode cL_flows 181 = .ok (.invokevirtual 15, 3) := by decide +kernel
theorem dL_flows_184 : decode cL_flows 184 = .ok (.i2l, 1) := by decide +kernel
theorem dL_flows_185 : decode cL_flows 185 = .ok (.lsub, 1) := by decide +kernel
theorem dL_flows_186 : decode cL_flows 186 = .ok (.lcmp, 1) := by decide +kernel
theorem dL_flows_187 : decode cL_flows 187 = .ok (.ifCond .ne 18, 3) := by decide +kernel
theorem dL_flows_190 : decode cL_flows 190 = .ok (.aload_n 0, 1) := by decide +kernel
theorem dL_flows_191 : decode cL_flows 191 = .ok (.iload_n 1, 1) := by decide +kernel
theorem dL_flows_192 : decode cL_flows 192 = .ok (.iconst 2, 1) := by decide +kernel
theorem dL_flows_193 : decode cL_flows 193 = .ok (.invokevirtual 49, 3) := by decide +kernel
theorem dL_flows_196 : decode cL_flows 196 = .ok (.ldc 48, 2) := by decide +kernel
theorem dL_flows_198 : decode cL_flows 198 = .ok (.if_icmp .ne 7, 3) := by decide +kernel
theorem dL_flows_201 : decode cL_flows 201 = .ok (.iconst 1, 1) := by decide +kernel
theorem dL_flows_202 : decode cL_flows 202 = .ok (.goto 4, 3) := by decide +kernel
theorem dL_flows_205 : decode cL_flows 205 = .ok (.iconst 0, 1) := by decide +kernel
theorem dL_flows_206 : decode cL_flows 206 = .ok (.ireturn, 1) := by decide +kernel
theorem dL_margins_0 : decode cL_margins 0 = .ok (.aload_n 0, 1) := by decide +kernel
theorem dL_margins_1 : decode cL_margins 1 = .ok (.iload_n 2, 1) := by decide +kernel
theorem dL_margins_2 : decode cL_margins 2 = .ok (.iconst 0, 1) := by decide +kernel
theorem dL_margins_3 : decode cL_margins 3 = .ok (.invokevirtual 15, 3) := by decide +kernel
theorem dL_margins_6 : decode cL_margins 6 = .ok (.aload_n 0, 1) := by decide +kernel
theorem dL_margins_7 : decode cL_margins 7 = .ok (.iload_n 2, 1) := by decide +kernel
theorem dL_margins_8 : decode cL_margins 8 = .ok (.bipush 9, 2) := by decide +kernel
theorem dL_margins_10 : decode cL_margins 10 = .ok (.iload_n 3, 1) := by decide +kernel
theorem dL_margins_11 : decode cL_margins 11 = .ok (.iadd, 1) := by decide +kernel
theorem dL_margins_12 : decode cL_margins 12 = .ok (.invokevirtual 15, 3) := by decide +kernel
theorem dL_margins_15 : decode cL_margins 15 = .ok (.isub, 1) := by decide +kernel
theorem dL_margins_16 : decode cL_margins 16 = .ok (.aload_n 0, 1) := by decide +kernel
theorem dL_margins_17 : decode cL_margins 17 = .ok (.bipush 6, 2) := by decide +kernel
theorem dL_margins_19 : decode cL_margins 19 = .ok (.invokevirtual 18, 3) := by decide +kernel
theorem dL_margins_22 : decode cL_margins 22 = .ok (.isub, 1) := by decide +kernel
theorem dL_margins_23 : decode cL_margins 23 = .ok (.istore 4, 2) := by decide +kernel
theorem dL_margins_25 : decode cL_margins 25 = .ok (.aload_n 0, 1) := by decide +kernel
theorem dL_margins_26 : decode cL_margins 26 = .ok (.iload_n 1, 1) := by decide +kernel
theorem dL_margins_27 : decode cL_margins 27 = .ok (.iload_n 2, 1) := by decide +kernel
theorem dL_margins_28 : decode cL_margins 28 = .ok (.iload_n 3, 1) := by decide +kernel
theorem dL_margins_29 : decode cL_margins 29 = .ok (.invokevirtual 52, 3) := by decide +kernel
theorem dL_margins_32 : decode cL_margins 32 = .ok (.istore 5, 2) := by decide +kernel
theorem dL_margins_34 : decode cL_margins 34 = .ok (.iload 4, 2) := by decide +kernel
theorem dL_margins_36 : decode cL_margins 36 = .ok (.aload_n 0, 1) := by decide +kernel
theorem dL_margins_37 : decode cL_margins 37 = .ok (.iload_n 1, 1) := by decide +kernel
theorem dL_margins_38 : decode cL_margins 38 = .ok (.iconst 2, 1) := by decide +kernel
theorem dL_margins_39 : decode cL_margins 39 = .ok (.invokevirtual 22, 3) := by decide +kernel
theorem dL_margins_42 : decode cL_margins 42 = .ok (.if_icmp .ge 16, 3) := by decide +kernel
theorem dL_margins_45 : decode cL_margins 45 = .ok (.iload 5, 2) := by decide +kernel
theorem dL_margins_47 : decode cL_margins 47 = .ok (.ldc 41, 2) := by decide +kernel
theorem dL_margins_49 : decode cL_margins 49 = .ok (.if_icmp .ne 7, 3) := by decide +kernel
theorem dL_margins_52 : decode cL_margins 52 = .ok (.iconst 1, 1) := by decide +kernel
theorem dL_margins_53 : decode cL_margins 53 = .ok (.goto 4, 3) := by decide +kernel
theorem dL_margins_56 : decode cL_margins 56 = .ok (.iconst 0, 1) := by decide +kernel
theorem dL_margins_57 : decode cL_margins 57 = .ok (.ireturn, 1) := by decide +kernel
theorem dL_margins_58 : decode cL_margins 58 = .ok (.aload_n 0, 1) := by decide +kernel
theorem dL_margins_59 : decode cL_margins 59 = .ok (.iload_n 1, 1) := by decide +kernel
theorem dL_margins_60 : decode cL_margins 60 = .ok (.iconst 1, 1) := by decide +kernel
theorem dL_margins_61 : decode cL_margins 61 = .ok (.invokevirtual 22, 3) := by decide +kernel
theorem dL_margins_64 : decode cL_margins 64 = .ok (.istore 6, 2) := by decide +kernel
theorem dL_margins_66 : decode cL_margins 66 = .ok (.iload 5, 2) := by decide +kernel
theorem dL_margins_68 : decode cL_margins 68 = .ok (.aload_n 0, 1) := by decide +kernel
theorem dL_margins_69 : decode cL_margins 69 = .ok (.iload_n 1, 1) := by decide +kernel
theorem dL_margins_70 : decode cL_margins 70 = .ok (.iconst 5, 1) := by decide +kernel
theorem dL_margins_71 : decode cL_margins 71 = .ok (.invokevirtual 22, 3) := by decide +kernel
theorem dL_margins_74 : decode cL_margins 74 = .ok (.if_icmp .ne 7, 3) := by decide +kernel
theorem dL_margins_77 : decode cL_margins 77 = .ok (.iconst 1, 1) := by decide +kernel
theorem dL_margins_78 : decode cL_margins 78 = .ok (.goto 4, 3) := by decide +kernel
theorem dL_margins_81 : decode cL_margins 81 = .ok (.iconst 0, 1) := by decide +kernel
theorem dL_margins_82 : decode cL_margins 82 = .ok (.istore 7, 2) := by decide +kernel
theorem dL_margins_84 : decode cL_margins 84 = .ok (.iload 6, 2) := by decide +kernel
theorem dL_margins_86 : decode cL_margins 86 = .ok (.aload_n 0, 1) := by decide +kernel
theorem dL_margins_87 : decode cL_margins 87 = .ok (.iload_n 1, 1) := by decide +kernel
theorem dL_margins_88 : decode cL_margins 88 = .ok (.iconst 2, 1) := by decide +kernel
theorem dL_margins_89 : decode cL_margins 89 = .ok (.invokevirtual 22, 3) := by decide +kernel
theorem dL_margins_92 : decode cL_margins 92 = .ok (.idiv, 1) := by decide +kernel
theorem dL_margins_93 : decode cL_margins 93 = .ok (.istore 8, 2) := by decide +kernel
theorem dL_margins_95 : decode cL_margins 95 = .ok (.iload 5, 2) := by decide +kernel
theorem dL_margins_97 : decode cL_margins 97 = .ok (.ifCond .lt 28, 3) := by decide +kernel
theorem dL_margins_100 : decode cL_margins 100 = .ok (.iload 5, 2) := by decide +kernel
theorem dL_margins_102 : decode cL_margins 102 = .ok (.aload_n 0, 1) := by decide +kernel
theorem dL_margins_103 : decode cL_margins 103 = .ok (.iload_n 1, 1) := by decide +kernel
theorem dL_margins_104 : decode cL_margins 104 = .ok (.iconst 5, 1) := by decide +kernel
theorem dL_margins_105 : decode cL_margins 105 = .ok (.invokevirtual 22, 3) := by decide +kernel
theorem dL_margins_108 : decode cL_margins 108 = .ok (.if_icmp .gt 17, 3) := by decide +kernel
theorem dL_margins_111 : decode cL_margins 111 = .ok (.iload 7, 2) := by decide +kernel
theorem dL_margins_113 : decode cL_margins 113 = .ok (.ifCond .ne 8, 3) := by decide +kernel
theorem dL_margins_116 : decode cL_margins 116 = .ok (.iload 8, 2) := by decide +kernel
theorem dL_margins_118 : decode cL_margins 118 = .ok (.ifCond .le 7, 3) := by decide +kernel
theorem dL_margins_121 : decode cL_margins 121 = .ok (.iconst 1, 1) := by decide +kernel
theorem dL_margins_122 : decode cL_margins 122 = .ok (.goto 4, 3) := by decide +kernel
theorem dL_margins_125 : decode cL_margins 125 = .ok (.iconst 0, 1) := by decide +kernel
theorem dL_margins_126 : decode cL_margins 126 = .ok (.ireturn, 1) := by decide +kernel
theorem dL_sluices_0 : decode cL_sluices 0 = .ok (.aload_n 0, 1) := by decide +kernel
theorem dL_sluices_1 : decode cL_sluices 1 = .ok (.iload_n 1, 1) := by decide +kernel
theorem dL_sluices_2 : decode cL_sluices 2 = .ok (.iload_n 2, 1) := by decide +kernel
theorem dL_sluices_3 : decode cL_sluices 3 = .ok (.invokevirtual 49, 3) := by decide +kernel
theorem dL_sluices_6 : decode cL_sluices 6 = .ok (.istore_n 3, 1) := by decide +kernel
theorem dL_sluices_7 : decode cL_sluices 7 = .ok (.aload_n 0, 1) := by decide +kernel
theorem dL_sluices_8 : decode cL_sluices 8 = .ok (.iload_n 1, 1) := by decide +kernel
theorem dL_sluices_9 : decode cL_sluices 9 = .ok (.iconst 1, 1) := by decide +kernel
theorem dL_sluices_10 : decode cL_sluices 10 = .ok (.invokevirtual 15, 3) := by decide +kernel
theorem dL_sluices_13 : decode cL_sluices 13 = .ok (.istore 4, 2) := by decide +kernel
theorem dL_sluices_15 : decode cL_sluices 15 = .ok (.aload_n 0, 1) := by decide +kernel
theorem dL_sluices_16 : decode cL_sluices 16 = .ok (.iload_n 1, 1) := by decide +kernel
theorem dL_sluices_17 : decode cL_sluices 17 = .ok (.iload_n 2, 1) := by decide +kernel
theorem dL_sluices_18 : decode cL_sluices 18 = .ok (.iadd, 1) := by decide +kernel
theorem dL_sluices_19 : decode cL_sluices 19 = .ok (.iconst 1, 1) := by decide +kernel
theorem dL_sluices_20 : decode cL_sluices 20 = .ok (.invokevirtual 9, 3) := by decide +kernel
theorem dL_sluices_23 : decode cL_sluices 23 = .ok (.istore 5, 2) := by decide +kernel
theorem dL_sluices_25 : decode cL_sluices 25 = .ok (.aload_n 0, 1) := by decide +kernel
theorem dL_sluices_26 : decode cL_sluices 26 = .ok (.iload_n 1, 1) := by decide +kernel
theorem dL_sluices_27 : decode cL_sluices 27 = .ok (.bipush 8, 2) := by decide +kernel
theorem dL_sluices_29 : decode cL_sluices 29 = .ok (.invokevirtual 15, 3) := by decide +kernel
theorem dL_sluices_32 : decode cL_sluices 32 = .ok (.ifCond .lt 7, 3) := by decide +kernel
theorem dL_sluices_35 : decode cL_sluices 35 = .ok (.iconst 1, 1) := by decide +kernel
theorem dL_sluices_36 : decode cL_sluices 36 = .ok (.goto 4, 3) := by decide +kernel
theorem dL_sluices_39 : decode cL_sluices 39 = .ok (.iconst 0, 1) := by decide +kernel
theorem dL_sluices_40 : decode cL_sluices 40 = .ok (.istore 6, 2) := by decide +kernel
theorem dL_sluices_42 : decode cL_sluices 42 = .ok (.aload_n 0, 1) := by decide +kernel
theorem dL_sluices_43 : decode cL_sluices 43 = .ok (.iconst 3, 1) := by decide +kernel
theorem dL_sluices_44 : decode cL_sluices 44 = .ok (.invokevirtual 18, 3) := by decide +kernel
theorem dL_sluices_47 : decode cL_sluices 47 = .ok (.ifCond .ne 7, 3) := by decide +kernel
theorem dL_sluices_50 : decode cL_sluices 50 = .ok (.iconst 1, 1) := by decide +kernel
theorem dL_sluices_51 : decode cL_sluices 51 = .ok (.goto 4, 3) := by decide +kernel
theorem dL_sluices_54 : decode cL_sluices 54 = .ok (.iconst 0, 1) := by decide +kernel
theorem dL_sluices_55 : decode cL_sluices 55 = .ok (.istore 7, 2) := by decide +kernel
theorem dL_sluices_57 : decode cL_sluices 57 = .ok (.aload_n 0, 1) := by decide +kernel
theorem dL_sluices_58 : decode cL_sluices 58 = .ok (.iload_n 1, 1) := by decide +kernel
theorem dL_sluices_59 : decode cL_sluices 59 = .ok (.iload_n 2, 1) := by decide +kernel
theorem dL_sluices_60 : decode cL_sluices 60 = .ok (.invokevirtual 56, 3) := by decide +kernel
theorem dL_sluices_63 : decode cL_sluices 63 = .ok (.istore 8, 2) := by decide +kernel
theorem dL_sluices_65 : decode cL_sluices 65 = .ok (.iload 6, 2) := by decide +kernel
theorem dL_sluices_67 : decode cL_sluices 67 = .ok (.ifCond .eq 37, 3) := by decide +kernel
theorem dL_sluices_70 : decode cL_sluices 70 = .ok (.iload 8, 2) := by decide +kernel
theorem dL_sluices_72 : decode cL_sluices 72 = .ok (.ldc 59, 2) := by decide +kernel
theorem dL_sluices_74 : decode cL_sluices 74 = .ok (.if_icmp .ne 28, 3) := by decide +kernel
theorem dL_sluices_77 : decode cL_sluices 77 = .ok (.aload_n 0, 1) := by decide +kernel
theorem dL_sluices_78 : decode cL_sluices 78 = .ok (.bipush 7, 2) := by decide +kernel
theorem dL_sluices_80 : decode cL_sluices 80 = .ok (.invokevirtual 18, 3) := by decide +kernel
theorem dL_sluices_83 : decode cL_sluices 83 = .ok (.iconst 1, 1) := by decide +kernel
theorem dL_sluices_84 : decode cL_sluices 84 = .ok (.if_icmp .ne 18, 3) := by decide +kernel
theorem dL_sluices_87 : decode cL_sluices 87 = .ok (.aload_n 0, 1) := by decide +kernel
theorem dL_sluices_88 : decode cL_sluices 88 = .ok (.iload_n 1, 1) := by decide +kernel
theorem dL_sluices_89 : decode cL_sluices 89 = .ok (.iconst 1, 1) := by decide +kernel
theorem dL_sluices_90 : decode cL_sluices 90 = .ok (.invokevirtual 15, 3) := by decide +kernel
theorem dL_sluices_93 : decode cL_sluices 93 = .ok (.iload 4, 2) := by decide +kernel
theorem dL_sluices_95 : decode cL_sluices 95 = .ok (.if_icmp .ne 7, 3) := by decide +kernel
theorem dL_sluices_98 : decode cL_sluices 98 = .ok (.iconst 1, 1) := by decide +kernel
theorem dL_sluices_99 : decode cL_sluices 99 = .ok (.goto 4, 3) := by decide +kernel
theorem dL_sluices_102 : decode cL_sluices 102 = .ok (.iconst 0, 1) := by decide +kernel
theorem dL_sluices_103 : decode cL_sluices 103 = .ok (.ireturn, 1) := by decide +kernel
theorem dL_sluices_104 : decode cL_sluices 104 = .ok (.iload 8, 2) := by decide +kernel
theorem dL_sluices_106 : decode cL_sluices 106 = .ok (.aload_n 0, 1) := by decide +kernel
theorem dL_sluices_107 : decode cL_sluices 107 = .ok (.iload_n 1, 1) := by decide +kernel
theorem dL_sluices_108 : decode cL_sluices 108 = .ok (.iconst 0, 1) := by decide +kernel
theorem dL_sluices_109 : decode cL_sluices 109 = .ok (.invokevirtual 15, 3) := by decide +kernel
theorem dL_sluices_112 : decode cL_sluices 112 = .ok (.if_icmp .ne 49, 3) := by decide +kernel
theorem dL_sluices_115 : decode cL_sluices 115 = .ok (.iload 7, 2) := by decide +kernel
theorem dL_sluices_117 : decode cL_sluices 117 = .ok (.ifCond .eq 40, 3) := by decide +kernel
theorem dL_sluices_120 : decode cL_sluices 120 = .ok (.aload_n 0, 1) := by decide +kernel
theorem dL_sluices_121 : decode cL_sluices 121 = .ok (.iload_n 1, 1) := by decide +kernel
theorem dL_sluices_122 : decode cL_sluices 122 = .ok (.iconst 1, 1) := by decide +kernel
theorem dL_sluices_123 : decode cL_sluices 123 = .ok (.invokevirtual 15, 3) := by decide +kernel
theorem dL_sluices_126 : decode cL_sluices 126 = .ok (.iload 4, 2) := by decide +kernel
theorem dL_sluices_128 : decode cL_sluices 128 = .ok (.iload_n 3, 1) := by decide +kernel
theorem dL_sluices_129 : decode cL_sluices 129 = .ok (.iadd, 1) := by decide +kernel
theorem dL_sluices_130 : decode cL_sluices 130 = .ok (.if_icmp .ne 31, 3) := by decide +kernel
theorem dL_sluices_133 : decode cL_sluices 133 = .ok (.aload_n 0, 1) := by decide +kernel
theorem dL_sluices_134 : decode cL_sluices 134 = .ok (.iload_n 1, 1) := by decide +kernel
theorem dL_sluices_135 : decode cL_sluices 135 = .ok (.iload_n 2, 1) := by decide +kernel
theorem dL_sluices_136 : decode cL_sluices 136 = .ok (.iadd, 1) := by decide +kernel
theorem dL_sluices_137 : decode cL_sluices 137 = .ok (.iconst 1, 1) := by decide +kernel
theorem dL_sluices_138 : decode cL_sluices 138 = .ok (.invokevirtual 9, 3) := by decide +kernel
theorem dL_sluices_141 : decode cL_sluices 141 = .ok (.iload 5, 2) := by decide +kernel
theorem dL_sluices_143 : decode cL_sluices 143 = .ok (.iload_n 3, 1) := by decide +kernel
theorem dL_sluices_144 : decode cL_sluices 144 = .ok (.isub, 1) := by decide +kernel
theorem dL_sluices_145 : decode cL_sluices 145 = .ok (.if_icmp .ne 16, 3) := by decide +kernel
theorem dL_sluices_148 : decode cL_sluices 148 = .ok (.aload_n 0, 1) := by decide +kernel
theorem dL_sluices_149 : decode cL_sluices 149 = .ok (.iload_n 1, 1) := by decide +kernel
theorem dL_sluices_150 : decode cL_sluices 150 = .ok (.iload_n 2, 1) := by decide +kernel
theorem dL_sluices_151 : decode cL_sluices 151 = .ok (.invokevirtual 49, 3) := by decide +kernel
theorem dL_sluices_154 : decode cL_sluices 154 = .ok (.ifCond .ne 7, 3) := by decide +kernel
theorem dL_sluices_157 : decode cL_sluices 157 = .ok (.iconst 1, 1) := by decide +kernel
theorem dL_sluices_158 : decode cL_sluices 158 = .ok (.goto 4, 3) := by decide +kernel
theorem dL_sluices_161 : decode cL_sluices 161 = .ok (.iconst 0, 1) := by decide +kernel
theorem dL_sluices_162 : decode cL_sluices 162 = .ok (.ireturn, 1) := by decide +kernel
theorem dL_opens_0 : decode cL_opens 0 = .ok (.aload_n 0, 1) := by decide +kernel
theorem dL_opens_1 : decode cL_opens 1 = .ok (.iload_n 1, 1) := by decide +kernel
theorem dL_opens_2 : decode cL_opens 2 = .ok (.bipush 8, 2) := by decide +kernel
theorem dL_opens_4 : decode cL_opens 4 = .ok (.invokevirtual 15, 3) := by decide +kernel
theorem dL_opens_7 : decode cL_opens 7 = .ok (.istore_n 3, 1) := by decide +kernel
theorem dL_opens_8 : decode cL_opens 8 = .ok (.aload_n 0, 1) := by decide +kernel
theorem dL_opens_9 : decode cL_opens 9 = .ok (.iload_n 1, 1) := by decide +kernel
theorem dL_opens_10 : decode cL_opens 10 = .ok (.iconst 0, 1) := by decide +kernel
theorem dL_opens_11 : decode cL_opens 11 = .ok (.invokevirtual 15, 3) := by decide +kernel
theorem dL_opens_14 : decode cL_opens 14 = .ok (.aload_n 0, 1) := by decide +kernel
theorem dL_opens_15 : decode cL_opens 15 = .ok (.iload_n 1, 1) := by decide +kernel
theorem dL_opens_16 : decode cL_opens 16 = .ok (.iload_n 2, 1) := by decide +kernel
theorem dL_opens_17 : decode cL_opens 17 = .ok (.iadd, 1) := by decide +kernel
theorem dL_opens_18 : decode cL_opens 18 = .ok (.iconst 0, 1) := by decide +kernel
theorem dL_opens_19 : decode cL_opens 19 = .ok (.invokevirtual 9, 3) := by decide +kernel
theorem dL_opens_22 : decode cL_opens 22 = .ok (.isub, 1) := by decide +kernel
theorem dL_opens_23 : decode cL_opens 23 = .ok (.invokestatic 60, 3) := by decide +kernel
theorem dL_opens_26 : decode cL_opens 26 = .ok (.istore 4, 2) := by decide +kernel
theorem dL_opens_28 : decode cL_opens 28 = .ok (.iload_n 3, 1) := by decide +kernel
theorem dL_opens_29 : decode cL_opens 29 = .ok (.ifCond .lt 7, 3) := by decide +kernel
theorem dL_opens_32 : decode cL_opens 32 = .ok (.iconst 1, 1) := by decide +kernel
theorem dL_opens_33 : decode cL_opens 33 = .ok (.goto 14, 3) := by decide +kernel
theorem dL_opens_36 : decode cL_opens 36 = .ok (.iload 4, 2) := by decide +kernel
theorem dL_opens_38 : decode cL_opens 38 = .ok (.iconst 2, 1) := by decide +kernel
theorem dL_opens_39 : decode cL_opens 39 = .ok (.if_icmp .le 7, 3) := by decide +kernel
theorem dL_opens_42 : decode cL_opens 42 = .ok (.iconst 3, 1) := by decide +kernel
theorem dL_opens_43 : decode cL_opens 43 = .ok (.goto 4, 3) := by decide +kernel
theorem dL_opens_46 : decode cL_opens 46 = .ok (.iconst 0, 1) := by decide +kernel
theorem dL_opens_47 : decode cL_opens 47 = .ok (.istore 5, 2) := by decide +kernel
theorem dL_opens_49 : decode cL_opens 49 = .ok (.aload_n 0, 1) := by decide +kernel
theorem dL_opens_50 : decode cL_opens 50 = .ok (.iload_n 1, 1) := by decide +kernel
theorem dL_opens_51 : decode cL_opens 51 = .ok (.iload_n 2, 1) := by decide +kernel
theorem dL_opens_52 : decode cL_opens 52 = .ok (.invokevirtual 63, 3) := by decide +kernel
theorem dL_opens_55 : decode cL_opens 55 = .ok (.istore 6, 2) := by decide +kernel
theorem dL_opens_57 : decode cL_opens 57 = .ok (.iload 5, 2) := by decide +kernel
theorem dL_opens_59 : decode cL_opens 59 = .ok (.ifCond .le 38, 3) := by decide +kernel
theorem dL_opens_62 : decode cL_opens 62 = .ok (.iload 6, 2) := by decide +kernel
theorem dL_opens_64 : decode cL_opens 64 = .ok (.ldc 59, 2) := by decide +kernel
theorem dL_opens_66 : decode cL_opens 66 = .ok (.if_icmp .ne 29, 3) := by decide +kernel
theorem dL_opens_69 : decode cL_opens 69 = .ok (.aload_n 0, 1) := by decide +kernel
theorem dL_opens_70 : decode cL_opens 70 = .ok (.bipush 7, 2) := by decide +kernel
theorem dL_opens_72 : decode cL_opens 72 = .ok (.invokevirtual 18, 3) := by decide +kernel
theorem dL_opens_75 : decode cL_opens 75 = .ok (.iload 5, 2) := by decide +kernel
theorem dL_opens_77 : decode cL_opens 77 = .ok (.if_icmp .ne 18, 3) := by decide +kernel
theorem dL_opens_80 : decode cL_opens 80 = .ok (.aload_n 0, 1) := by decide +kernel
theorem dL_opens_81 : decode cL_opens 81 = .ok (.iload_n 1, 1) := by decide +kernel
theorem dL_opens_82 : decode cL_opens 82 = .ok (.bipush 8, 2) := by decide +kernel
theorem dL_opens_84 : decode cL_opens 84 = .ok (.invokevirtual 15, 3) := by decide +kernel
theorem dL_opens_87 : decode cL_opens 87 = .ok (.iload_n 3, 1) := by decide +kernel
theorem dL_opens_88 : decode cL_opens 88 = .ok (.if_icmp .ne 7, 3) := by decide +kernel
theorem dL_opens_91 : decode cL_opens 91 = .ok (.iconst 1, 1) := by decide +kernel
theorem dL_opens_92 : decode cL_opens 92 = .ok (.goto 4, 3) := by decide +kernel
theorem dL_opens_95 : decode cL_opens 95 = .ok (.iconst 0, 1) := by decide +kernel
theorem dL_opens_96 : decode cL_opens 96 = .ok (.ireturn, 1) := by decide +kernel
theorem dL_opens_97 : decode cL_opens 97 = .ok (.iload 6, 2) := by decide +kernel
theorem dL_opens_99 : decode cL_opens 99 = .ok (.aload_n 0, 1) := by decide +kernel
theorem dL_opens_100 : decode cL_opens 100 = .ok (.iload_n 1, 1) := by decide +kernel
theorem dL_opens_101 : decode cL_opens 101 = .ok (.iconst 0, 1) := by decide +kernel
theorem dL_opens_102 : decode cL_opens 102 = .ok (.invokevirtual 15, 3) := by decide +kernel
theorem dL_opens_105 : decode cL_opens 105 = .ok (.if_icmp .ne 18, 3) := by decide +kernel
theorem dL_opens_108 : decode cL_opens 108 = .ok (.aload_n 0, 1) := by decide +kernel
theorem dL_opens_109 : decode cL_opens 109 = .ok (.iload_n 1, 1) := by decide +kernel
theorem dL_opens_110 : decode cL_opens 110 = .ok (.bipush 8, 2) := by decide +kernel
theorem dL_opens_112 : decode cL_opens 112 = .ok (.invokevirtual 15, 3) := by decide +kernel
theorem dL_opens_115 : decode cL_opens 115 = .ok (.iload_n 2, 1) := by decide +kernel
theorem dL_opens_116 : decode cL_opens 116 = .ok (.if_icmp .ne 7, 3) := by decide +kernel
theorem dL_opens_119 : decode cL_opens 119 = .ok (.iconst 1, 1) := by decide +kernel
theorem dL_opens_120 : decode cL_opens 120 = .ok (.goto 4, 3) := by decide +kernel
theorem dL_opens_123 : decode cL_opens 123 = .ok (.iconst 0, 1) := by decide +kernel
theorem dL_opens_124 : decode cL_opens 124 = .ok (.ireturn, 1) := by decide +kernel
theorem dL_enters_0 : decode cL_enters 0 = .ok (.aload_n 0, 1) := by decide +kernel
theorem dL_enters_1 : decode cL_enters 1 = .ok (.iload_n 2, 1) := by decide +kernel
theorem dL_enters_2 : decode cL_enters 2 = .ok (.bipush 8, 2) := by decide +kernel
theorem dL_enters_4 : decode cL_enters 4 = .ok (.invokevirtual 15, 3) := by decide +kernel
theorem dL_enters_7 : decode cL_enters 7 = .ok (.istore_n 3, 1) := by decide +kernel
theorem dL_enters_8 : decode cL_enters 8 = .ok (.iload_n 2, 1) := by decide +kernel
theorem dL_enters_9 : decode cL_enters 9 = .ok (.iload_n 3, 1) := by decide +kernel
theorem dL_enters_10 : decode cL_enters 10 = .ok (.ifCond .ge 7, 3) := by decide +kernel
theorem dL_enters_13 : decode cL_enters 13 = .ok (.iconst 0, 1) := by decide +kernel
theorem dL_enters_14 : decode cL_enters 14 = .ok (.goto 4, 3) := by decide +kernel
theorem dL_enters_17 : decode cL_enters 17 = .ok (.iload_n 3, 1) := by decide +kernel
theorem dL_enters_18 : decode cL_enters 18 = .ok (.iadd, 1) := by decide +kernel
theorem dL_enters_19 : decode cL_enters 19 = .ok (.istore 4, 2) := by decide +kernel
theorem dL_enters_21 : decode cL_enters 21 = .ok (.aload_n 0, 1) := by decide +kernel
theorem dL_enters_22 : decode cL_enters 22 = .ok (.iload_n 2, 1) := by decide +kernel
theorem dL_enters_23 : decode cL_enters 23 = .ok (.iconst 3, 1) := by decide +kernel
theorem dL_enters_24 : decode cL_enters 24 = .ok (.invokevirtual 15, 3) := by decide +kernel
theorem dL_enters_27 : decode cL_enters 27 = .ok (.istore 5, 2) := by decide +kernel
theorem dL_enters_29 : decode cL_enters 29 = .ok (.iload_n 3, 1) := by decide +kernel
theorem dL_enters_30 : decode cL_enters 30 = .ok (.ifCond .ge 7, 3) := by decide +kernel
theorem dL_enters_33 : decode cL_enters 33 = .ok (.iconst 2, 1) := by decide +kernel
theorem dL_enters_34 : decode cL_enters 34 = .ok (.goto 93, 3) := by decide +kernel
theorem dL_enters_37 : decode cL_enters 37 = .ok (.aload_n 0, 1) := by decide +kernel
theorem dL_enters_38 : decode cL_enters 38 = .ok (.iload_n 1, 1) := by decide +kernel
theorem dL_enters_39 : decode cL_enters 39 = .ok (.bipush 7, 2) := by decide +kernel
theorem dL_enters_41 : decode cL_enters 41 = .ok (.invokevirtual 22, 3) := by decide +kernel
theorem dL_enters_44 : decode cL_enters 44 = .ok (.iload 4, 2) := by decide +kernel
theorem dL_enters_46 : decode cL_enters 46 = .ok (.if_icmp .eq 7, 3) := by decide +kernel
theorem dL_enters_49 : decode cL_enters 49 = .ok (.iconst 4, 1) := by decide +kernel
theorem dL_enters_50 : decode cL_enters 50 = .ok (.goto 77, 3) := by decide +kernel
theorem dL_enters_53 : decode cL_enters 53 = .ok (.aload_n 0, 1) := by decide +kernel
theorem dL_enters_54 : decode cL_enters 54 = .ok (.iload_n 1, 1) := by decide +kernel
theorem dL_enters_55 : decode cL_enters 55 = .ok (.bipush 6, 2) := by decide +kernel
theorem dL_enters_57 : decode cL_enters 57 = .ok (.invokevirtual 22, 3) := by decide +kernel
theorem dL_enters_60 : decode cL_enters 60 = .ok (.iconst 1, 1) := by decide +kernel
theorem dL_enters_61 : decode cL_enters 61 = .ok (.if_icmp .ne 7, 3) := by decide +kernel
theorem dL_enters_64 : decode cL_enters 64 = .ok (.iconst 5, 1) := by decide +kernel
theorem dL_enters_65 : decode cL_enters 65 = .ok (.goto 62, 3) := by decide +kernel
theorem dL_enters_68 : decode cL_enters 68 = .ok (.aload_n 0, 1) := by decide +kernel
theorem dL_enters_69 : decode cL_enters 69 = .ok (.iload_n 1, 1) := by decide +kernel
theorem dL_enters_70 : decode cL_enters 70 = .ok (.iconst 0, 1) := by decide +kernel
theorem dL_enters_71 : decode cL_enters 71 = .ok (.invokevirtual 22, 3) := by decide +kernel
theorem dL_enters_74 : decode cL_enters 74 = .ok (.aload_n 0, 1) := by decide +kernel
theorem dL_enters_75 : decode cL_enters 75 = .ok (.iload_n 2, 1) := by decide +kernel
theorem dL_enters_76 : decode cL_enters 76 = .ok (.bipush 7, 2) := by decide +kernel
theorem dL_enters_78 : decode cL_enters 78 = .ok (.invokevirtual 15, 3) := by decide +kernel
theorem dL_enters_81 : decode cL_enters 81 = .ok (.if_icmp .le 8, 3) := by decide +kernel
theorem dL_enters_84 : decode cL_enters 84 = .ok (.bipush 6, 2) := by decide +kernel
theorem dL_enters_86 : decode cL_enters 86 = .ok (.goto 41, 3) := by decide +kernel
theorem dL_enters_89 : decode cL_enters 89 = .ok (.aload_n 0, 1) := by decide +kernel
theorem dL_enters_90 : decode cL_enters 90 = .ok (.iload_n 2, 1) := by decide +kernel
theorem dL_enters_91 : decode cL_enters 91 = .ok (.iconst 0, 1) := by decide +kernel
theorem dL_enters_92 : decode cL_enters 92 = .ok (.invokevirtual 15, 3) := by decide +kernel
theorem dL_enters_95 : decode cL_enters 95 = .ok (.aload_n 0, 1) := by decide +kernel
theorem dL_enters_96 : decode cL_enters 96 = .ok (.iload_n 2, 1) := by decide +kernel
theorem dL_enters_97 : decode cL_enters 97 = .ok (.bipush 9, 2) := by decide +kernel
theorem dL_enters_99 : decode cL_enters 99 = .ok (.iload_n 3, 1) := by decide +kernel
theorem dL_enters_100 : decode cL_enters 100 = .ok (.iadd, 1) := by decide +kernel
theorem dL_enters_101 : decode cL_enters 101 = .ok (.invokevirtual 15, 3) := by decide +kernel
theorem dL_enters_104 : decode cL_enters 104 = .ok (.isub, 1) := by decide +kernel
theorem dL_enters_105 : decode cL_enters 105 = .ok (.aload_n 0, 1) := by decide +kernel
theorem dL_enters_106 : decode cL_enters 106 = .ok (.iload_n 1, 1) := by decide +kernel
theorem dL_enters_107 : decode cL_enters 107 = .ok (.iconst 2, 1) := by decide +kernel
theorem dL_enters_108 : decode cL_enters 108 = .ok (.invokevirtual 22, 3) := by decide +kernel
theorem dL_enters_111 : decode cL_enters 111 = .ok (.aload_n 0, 1) := by decide +kernel
theorem dL_enters_112 : decode cL_enters 112 = .ok (.bipush 6, 2) := by decide +kernel
theorem dL_enters_114 : decode cL_enters 114 = .ok (.invokevirtual 18, 3) := by decide +kernel
theorem dL_enters_117 : decode cL_enters 117 = .ok (.iadd, 1) := by decide +kernel
theorem dL_enters_118 : decode cL_enters 118 = .ok (.if_icmp .ge 8, 3) := by decide +kernel
theorem dL_enters_121 : decode cL_enters 121 = .ok (.bipush 7, 2) := by decide +kernel
theorem dL_enters_123 : decode cL_enters 123 = .ok (.goto 4, 3) := by decide +kernel
theorem dL_enters_126 : decode cL_enters 126 = .ok (.iconst 0, 1) := by decide +kernel
theorem dL_enters_127 : decode cL_enters 127 = .ok (.istore 6, 2) := by decide +kernel
theorem dL_enters_129 : decode cL_enters 129 = .ok (.aload_n 0, 1) := by decide +kernel
theorem dL_enters_130 : decode cL_enters 130 = .ok (.iload_n 2, 1) := by decide +kernel
theorem dL_enters_131 : decode cL_enters 131 = .ok (.bipush 7, 2) := by decide +kernel
theorem dL_enters_133 : decode cL_enters 133 = .ok (.invokevirtual 15, 3) := by decide +kernel
theorem dL_enters_136 : decode cL_enters 136 = .ok (.aload_n 0, 1) := by decide +kernel
theorem dL_enters_137 : decode cL_enters 137 = .ok (.iload_n 1, 1) := by decide +kernel
theorem dL_enters_138 : decode cL_enters 138 = .ok (.iconst 0, 1) := by decide +kernel
theorem dL_enters_139 : decode cL_enters 139 = .ok (.invokevirtual 22, 3) := by decide +kernel
theorem dL_enters_142 : decode cL_enters 142 = .ok (.isub, 1) := by decide +kernel
theorem dL_enters_143 : decode cL_enters 143 = .ok (.istore 7, 2) := by decide +kernel
theorem dL_enters_145 : decode cL_enters 145 = .ok (.iload_n 3, 1) := by decide +kernel
theorem dL_enters_146 : decode cL_enters 146 = .ok (.ifCond .ge 7, 3) := by decide +kernel
theorem dL_enters_149 : decode cL_enters 149 = .ok (.iconst 0, 1) := by decide +kernel
theorem dL_enters_150 : decode cL_enters 150 = .ok (.goto 12, 3) := by decide +kernel
theorem dL_enters_153 : decode cL_enters 153 = .ok (.aload_n 0, 1) := by decide +kernel
theorem dL_enters_154 : decode cL_enters 154 = .ok (.iload_n 2, 1) := by decide +kernel
theorem dL_enters_155 : decode cL_enters 155 = .ok (.bipush 11, 2) := by decide +kernel
theorem dL_enters_157 : decode cL_enters 157 = .ok (.iload_n 3, 1) := by decide +kernel
theorem dL_enters_158 : decode cL_enters 158 = .ok (.iadd, 1) := by decide +kernel
theorem dL_enters_159 : decode cL_enters 159 = .ok (.invokevirtual 15, 3) := by decide +kernel
theorem dL_enters_162 : decode cL_enters 162 = .ok (.istore 8, 2) := by decide +kernel
theorem dL_enters_164 : decode cL_enters 164 = .ok (.iload_n 3, 1) := by decide +kernel
theorem dL_enters_165 : decode cL_enters 165 = .ok (.ifCond .ge 7, 3) := by decide +kernel
theorem dL_enters_168 : decode cL_enters 168 = .ok (.iconst 0, 1) := by decide +kernel
theorem dL_enters_169 : decode cL_enters 169 = .ok (.goto 12, 3) := by decide +kernel
theorem dL_enters_172 : decode cL_enters 172 = .ok (.aload_n 0, 1) := by decide +kernel
theorem dL_enters_173 : decode cL_enters 173 = .ok (.iload_n 2, 1) := by decide +kernel
theorem dL_enters_174 : decode cL_enters 174 = .ok (.bipush 9, 2) := by decide +kernel
theorem dL_enters_176 : decode cL_enters 176 = .ok (.iload_n 3, 1) := by decide +kernel
theorem dL_enters_177 : decode cL_enters 177 = .ok (.iadd, 1) := by decide +kernel
theorem dL_enters_178 : decode cL_enters 178 = .ok (.invokevirtual 15, 3) := by decide +kernel
theorem dL_enters_181 : decode cL_enters 181 = .ok (.istore 9, 2) := by decide +kernel
theorem dL_enters_183 : decode cL_enters 183 = .ok (.aload_n 0, 1) := by decide +kernel
theorem dL_enters_184 : decode cL_enters 184 = .ok (.iload_n 1, 1) := by decide +kernel
theorem dL_enters_185 : decode cL_enters 185 = .ok (.bipush 8, 2) := by decide +kernel
theorem dL_enters_187 : decode cL_enters 187 = .ok (.invokevirtual 22, 3) := by decide +kernel
theorem dL_enters_190 : decode cL_enters 190 = .ok (.istore 10, 2) := by decide +kernel
theorem dL_enters_192 : decode cL_enters 192 = .ok (.aload_n 0, 1) := by decide +kernel
theorem dL_enters_193 : decode cL_enters 193 = .ok (.iload_n 1, 1) := by decide +kernel
theorem dL_enters_194 : decode cL_enters 194 = .ok (.iload_n 2, 1) := by decide +kernel
theorem dL_enters_195 : decode cL_enters 195 = .ok (.invokevirtual 66, 3) := by decide +kernel
theorem dL_enters_198 : decode cL_enters 198 = .ok (.istore 11, 2) := by decide +kernel
theorem dL_enters_200 : decode cL_enters 200 = .ok (.iload 6, 2) := by decide +kernel
theorem dL_enters_202 : decode cL_enters 202 = .ok (.ifCond .le 38, 3) := by decide +kernel
theorem dL_enters_205 : decode cL_enters 205 = .ok (.iload 11, 2) := by decide +kernel
theorem dL_enters_207 : decode cL_enters 207 = .ok (.ldc 59, 2) := by decide +kernel
theorem dL_enters_209 : decode cL_enters 209 = .ok (.if_icmp .ne 29, 3) := by decide +kernel
theorem dL_enters_212 : decode cL_enters 212 = .ok (.aload_n 0, 1) := by decide +kernel
theorem dL_enters_213 : decode cL_enters 213 = .ok (.bipush 7, 2) := by decide +kernel
theorem dL_enters_215 : decode cL_enters 215 = .ok (.invokevirtual 18, 3) := by decide +kernel
theorem dL_enters_218 : decode cL_enters 218 = .ok (.iload 6, 2) := by decide +kernel
theorem dL_enters_220 : decode cL_enters 220 = .ok (.if_icmp .ne 18, 3) := by decide +kernel
theorem dL_enters_223 : decode cL_enters 223 = .ok (.aload_n 0, 1) := by decide +kernel
theorem dL_enters_224 : decode cL_enters 224 = .ok (.iload_n 2, 1) := by decide +kernel
theorem dL_enters_225 : decode cL_enters 225 = .ok (.iconst 3, 1) := by decide +kernel
theorem dL_enters_226 : decode cL_enters 226 = .ok (.invokevirtual 15, 3) := by decide +kernel
theorem dL_enters_229 : decode cL_enters 229 = .ok (.iload 5, 2) := by decide +kernel
theorem dL_enters_231 : decode cL_enters 231 = .ok (.if_icmp .ne 7, 3) := by decide +kernel
theorem dL_enters_234 : decode cL_enters 234 = .ok (.iconst 1, 1) := by decide +kernel
theorem dL_enters_235 : decode cL_enters 235 = .ok (.goto 4, 3) := by decide +kernel
theorem dL_enters_238 : decode cL_enters 238 = .ok (.iconst 0, 1) := by decide +kernel
theorem dL_enters_239 : decode cL_enters 239 = .ok (.ireturn, 1) := by decide +kernel
theorem dL_enters_240 : decode cL_enters 240 = .ok (.iload 11, 2) := by decide +kernel
theorem dL_enters_242 : decode cL_enters 242 = .ok (.iload 7, 2) := by decide +kernel
theorem dL_enters_244 : decode cL_enters 244 = .ok (.if_icmp .ne 100, 3) := by decide +kernel
theorem dL_enters_247 : decode cL_enters 247 = .ok (.aload_n 0, 1) := by decide +kernel
theorem dL_enters_248 : decode cL_enters 248 = .ok (.iload_n 1, 1) := by decide +kernel
theorem dL_enters_249 : decode cL_enters 249 = .ok (.bipush 7, 2) := by decide +kernel
theorem dL_enters_251 : decode cL_enters 251 = .ok (.invokevirtual 22, 3) := by decide +kernel
theorem dL_enters_254 : decode cL_enters 254 = .ok (.bipush 100, 2) := by decide +kernel
theorem dL_enters_256 : decode cL_enters 256 = .ok (.iload_n 2, 1) := by decide +kernel
theorem dL_enters_257 : decode cL_enters 257 = .ok (.iadd, 1) := by decide +kernel
theorem dL_enters_258 : decode cL_enters 258 = .ok (.if_icmp .ne 86, 3) := by decide +kernel
theorem dL_enters_261 : decode cL_enters 261 = .ok (.aload_n 0, 1) := by decide +kernel
theorem dL_enters_262 : decode cL_enters 262 = .ok (.iload_n 2, 1) := by decide +kernel
theorem dL_enters_263 : decode cL_enters 263 = .ok (.iload_n 3, 1) := by decide +kernel
theorem dL_enters_264 : decode cL_enters 264 = .ok (.ifCond .ne 7, 3) := by decide +kernel
theorem dL_enters_267 : decode cL_enters 267 = .ok (.iconst 0, 1) := by decide +kernel
theorem dL_enters_268 : decode cL_enters 268 = .ok (.goto 5, 3) := by decide +kernel
theorem dL_enters_271 : decode cL_enters 271 = .ok (.iload 5, 2) := by decide +kernel
theorem dL_enters_273 : decode cL_enters 273 = .ok (.invokevirtual 38, 3) := by decide +kernel
theorem dL_enters_276 : decode cL_enters 276 = .ok (.iload_n 1, 1) := by decide +kernel
theorem dL_enters_277 : decode cL_enters 277 = .ok (.if_icmp .ne 67, 3) := by decide +kernel
theorem dL_enters_280 : decode cL_enters 280 = .ok (.aload_n 0, 1) := by decide +kernel
theorem dL_enters_281 : decode cL_enters 281 = .ok (.iload_n 2, 1) := by decide +kernel
theorem dL_enters_282 : decode cL_enters 282 = .ok (.bipush 11, 2) := by decide +kernel
theorem dL_enters_284 : decode cL_enters 284 = .ok (.iload_n 3, 1) := by decide +kernel
theorem dL_enters_285 : decode cL_enters 285 = .ok (.iadd, 1) := by decide +kernel
theorem dL_enters_286 : decode cL_enters 286 = .ok (.invokevirtual 15, 3) := by decide +kernel
theorem dL_enters_289 : decode cL_enters 289 = .ok (.iload 8, 2) := by decide +kernel
theorem dL_enters_291 : decode cL_enters 291 = .ok (.iconst 1, 1) := by decide +kernel
theorem dL_enters_292 : decode cL_enters 292 = .ok (.iadd, 1) := by decide +kernel
theorem dL_enters_293 : decode cL_enters 293 = .ok (.if_icmp .ne 51, 3) := by decide +kernel
theorem dL_enters_296 : decode cL_enters 296 = .ok (.aload_n 0, 1) := by decide +kernel
theorem dL_enters_297 : decode cL_enters 297 = .ok (.iload_n 2, 1) := by decide +kernel
theorem dL_enters_298 : decode cL_enters 298 = .ok (.bipush 9, 2) := by decide +kernel
theorem dL_enters_300 : decode cL_enters 300 = .ok (.iload_n 3, 1) := by decide +kernel
theorem dL_enters_301 : decode cL_enters 301 = .ok (.iadd, 1) := by decide +kernel
theorem dL_enters_302 : decode cL_enters 302 = .ok (.invokevirtual 15, 3) := by decide +kernel
theorem dL_enters_305 : decode cL_enters 305 = .ok (.iload 9, 2) := by decide +kernel
theorem dL_enters_307 : decode cL_enters 307 = .ok (.iload 8, 2) := by decide +kernel
theorem dL_enters_309 : decode cL_enters 309 = .ok (.iconst 1, 1) := by decide +kernel
theorem dL_enters_310 : decode cL_enters 310 = .ok (.iadd, 1) := by decide +kernel
theorem dL_enters_311 : decode cL_enters 311 = .ok (.bipush 8, 2) := by decide +kernel
theorem dL_enters_313 : decode cL_enters 313 = .ok (.irem, 1) := by decide +kernel
theorem dL_enters_314 : decode cL_enters 314 = .ok (.ifCond .ne 7, 3) := by decide +kernel
theorem dL_enters_317 : decode cL_enters 317 = .ok (.iconst 1, 1) := by decide +kernel
theorem dL_enters_318 : decode cL_enters 318 = .ok (.goto 4, 3) := by decide +kernel
theorem dL_enters_321 : decode cL_enters 321 = .ok (.iconst 0, 1) := by decide +kernel
theorem dL_enters_322 : decode cL_enters 322 = .ok (.iadd, 1) := by decide +kernel
theorem dL_enters_323 : decode cL_enters 323 = .ok (.if_icmp .ne 21, 3) := by decide +kernel
theorem dL_enters_326 : decode cL_enters 326 = .ok (.aload_n 0, 1) := by decide +kernel
theorem dL_enters_327 : decode cL_enters 327 = .ok (.iload_n 1, 1) := by decide +kernel
theorem dL_enters_328 : decode cL_enters 328 = .ok (.bipush 8, 2) := by decide +kernel
theorem dL_enters_330 : decode cL_enters 330 = .ok (.invokevirtual 22, 3) := by decide +kernel
theorem dL_enters_333 : decode cL_enters 333 = .ok (.iload 10, 2) := by decide +kernel
theorem dL_enters_335 : decode cL_enters 335 = .ok (.iconst 1, 1) := by decide +kernel
theorem dL_enters_336 : decode cL_enters 336 = .ok (.iadd, 1) := by decide +kernel
theorem dL_enters_337 : decode cL_enters 337 = .ok (.if_icmp .ne 7, 3) := by decide +kernel
theorem dL_enters_340 : decode cL_enters 340 = .ok (.iconst 1, 1) := by decide +kernel
theorem dL_enters_341 : decode cL_enters 341 = .ok (.goto 4, 3) := by decide +kernel
theorem dL_enters_344 : decode cL_enters 344 = .ok (.iconst 0, 1) := by decide +kernel
theorem dL_enters_345 : decode cL_enters 345 = .ok (.ireturn, 1) := by decide +kernel
theorem dL_leaves_0 : decode cL_leaves 0 = .ok (.aload_n 0, 1) := by decide +kernel
theorem dL_leaves_1 : decode cL_leaves 1 = .ok (.iload_n 1, 1) := by decide +kernel
theorem dL_leaves_2 : decode cL_leaves 2 = .ok (.iconst 3, 1) := by decide +kernel
theorem dL_leaves_3 : decode cL_leaves 3 = .ok (.invokevirtual 15, 3) := by decide +kernel
theorem dL_leaves_6 : decode cL_leaves 6 = .ok (.istore_n 3, 1) := by decide +kernel
theorem dL_leaves_7 : decode cL_leaves 7 = .ok (.iload_n 3, 1) := by decide +kernel
theorem dL_leaves_8 : decode cL_leaves 8 = .ok (.ifCond .ne 7, 3) := by decide +kernel
theorem dL_leaves_11 : decode cL_leaves 11 = .ok (.iconst (-1), 1) := by decide +kernel
theorem dL_leaves_12 : decode cL_leaves 12 = .ok (.goto 19, 3) := by decide +kernel
theorem dL_leaves_15 : decode cL_leaves 15 = .ok (.aload_n 0, 1) := by decide +kernel
theorem dL_leaves_16 : decode cL_leaves 16 = .ok (.iload_n 1, 1) := by decide +kernel
theorem dL_leaves_17 : decode cL_leaves 17 = .ok (.iload_n 2, 1) := by decide +kernel
theorem dL_leaves_18 : decode cL_leaves 18 = .ok (.ifCond .ne 7, 3) := by decide +kernel
theorem dL_leaves_21 : decode cL_leaves 21 = .ok (.iconst 0, 1) := by decide +kernel
theorem dL_leaves_22 : decode cL_leaves 22 = .ok (.goto 6, 3) := by decide +kernel
theorem dL_leaves_25 : decode cL_leaves 25 = .ok (.iload_n 3, 1) := by decide +kernel
theorem dL_leaves_26 : decode cL_leaves 26 = .ok (.iconst 1, 1) := by decide +kernel
theorem dL_leaves_27 : decode cL_leaves 27 = .ok (.isub, 1) := by decide +kernel
theorem dL_leaves_28 : decode cL_leaves 28 = .ok (.invokevirtual 38, 3) := by decide +kernel
theorem dL_leaves_31 : decode cL_leaves 31 = .ok (.istore 4, 2) := by decide +kernel
theorem dL_leaves_33 : decode cL_leaves 33 = .ok (.iload_n 3, 1) := by decide +kernel
theorem dL_leaves_34 : decode cL_leaves 34 = .ok (.iconst 2, 1) := by decide +kernel
theorem dL_leaves_35 : decode cL_leaves 35 = .ok (.if_icmp .ge 8, 3) := by decide +kernel
theorem dL_leaves_38 : decode cL_leaves 38 = .ok (.ldc 41, 2) := by decide +kernel
theorem dL_leaves_40 : decode cL_leaves 40 = .ok (.goto 22, 3) := by decide +kernel
theorem dL_leaves_43 : decode cL_leaves 43 = .ok (.iload_n 2, 1) := by decide +kernel
theorem dL_leaves_44 : decode cL_leaves 44 = .ok (.ifCond .ne 12, 3) := by decide +kernel
theorem dL_leaves_47 : decode cL_leaves 47 = .ok (.aload_n 0, 1) := by decide +kernel
theorem dL_leaves_48 : decode cL_leaves 48 = .ok (.iload_n 1, 1) := by decide +kernel
theorem dL_leaves_49 : decode cL_leaves 49 = .ok (.iconst 1, 1) := by decide +kernel
theorem dL_leaves_50 : decode cL_leaves 50 = .ok (.invokevirtual 38, 3) := by decide +kernel
theorem dL_leaves_53 : decode cL_leaves 53 = .ok (.goto 9, 3) := by decide +kernel
theorem dL_leaves_56 : decode cL_leaves 56 = .ok (.aload_n 0, 1) := by decide +kernel
theorem dL_leaves_57 : decode cL_leaves 57 = .ok (.iload_n 1, 1) := by decide +kernel
theorem dL_leaves_58 : decode cL_leaves 58 = .ok (.iconst 0, 1) := by decide +kernel
theorem dL_leaves_59 : decode cL_leaves 59 = .ok (.invokevirtual 38, 3) := by decide +kernel
theorem dL_leaves_62 : decode cL_leaves 62 = .ok (.istore 5, 2) := by decide +kernel
theorem dL_leaves_64 : decode cL_leaves 64 = .ok (.aload_n 0, 1) := by decide +kernel
theorem dL_leaves_65 : decode cL_leaves 65 = .ok (.iload_n 1, 1) := by decide +kernel
theorem dL_leaves_66 : decode cL_leaves 66 = .ok (.bipush 8, 2) := by decide +kernel
theorem dL_leaves_68 : decode cL_leaves 68 = .ok (.invokevirtual 15, 3) := by decide +kernel
theorem dL_leaves_71 : decode cL_leaves 71 = .ok (.iload_n 2, 1) := by decide +kernel
theorem dL_leaves_72 : decode cL_leaves 72 = .ok (.if_icmp .eq 7, 3) := by decide +kernel
theorem dL_leaves_75 : decode cL_leaves 75 = .ok (.iconst 2, 1) := by decide +kernel
theorem dL_leaves_76 : decode cL_leaves 76 = .ok (.goto 66, 3) := by decide +kernel
theorem dL_leaves_79 : decode cL_leaves 79 = .ok (.iload_n 3, 1) := by decide +kernel
theorem dL_leaves_80 : decode cL_leaves 80 = .ok (.ifCond .ne 7, 3) := by decide +kernel
theorem dL_leaves_83 : decode cL_leaves 83 = .ok (.iconst 4, 1) := by decide +kernel
theorem dL_leaves_84 : decode cL_leaves 84 = .ok (.goto 58, 3) := by decide +kernel
theorem dL_leaves_87 : decode cL_leaves 87 = .ok (.aload_n 0, 1) := by decide +kernel
theorem dL_leaves_88 : decode cL_leaves 88 = .ok (.iload 4, 2) := by decide +kernel
theorem dL_leaves_90 : decode cL_leaves 90 = .ok (.bipush 6, 2) := by decide +kernel
theorem dL_leaves_92 : decode cL_leaves 92 = .ok (.invokevirtual 22, 3) := by decide +kernel
theorem dL_leaves_95 : decode cL_leaves 95 = .ok (.iconst 1, 1) := by decide +kernel
theorem dL_leaves_96 : decode cL_leaves 96 = .ok (.if_icmp .ne 7, 3) := by decide +kernel
theorem dL_leaves_99 : decode cL_leaves 99 = .ok (.iconst 5, 1) := by decide +kernel
theorem dL_leaves_100 : decode cL_leaves 100 = .ok (.goto 42, 3) := by decide +kernel
theorem dL_leaves_103 : decode cL_leaves 103 = .ok (.aload_n 0, 1) := by decide +kernel
theorem dL_leaves_104 : decode cL_leaves 104 = .ok (.iload_n 1, 1) := by decide +kernel
theorem dL_leaves_105 : decode cL_leaves 105 = .ok (.iconst 0, 1) := by decide +kernel
theorem dL_leaves_106 : decode cL_leaves 106 = .ok (.invokevirtual 15, 3) := by decide +kernel
theorem dL_leaves_109 : decode cL_leaves 109 = .ok (.aload_n 0, 1) := by decide +kernel
theorem dL_leaves_110 : decode cL_leaves 110 = .ok (.iload_n 1, 1) := by decide +kernel
theorem dL_leaves_111 : decode cL_leaves 111 = .ok (.bipush 9, 2) := by decide +kernel
theorem dL_leaves_113 : decode cL_leaves 113 = .ok (.iload_n 2, 1) := by decide +kernel
theorem dL_leaves_114 : decode cL_leaves 114 = .ok (.iadd, 1) := by decide +kernel
theorem dL_leaves_115 : decode cL_leaves 115 = .ok (.invokevirtual 15, 3) := by decide +kernel
theorem dL_leaves_118 : decode cL_leaves 118 = .ok (.isub, 1) := by decide +kernel
theorem dL_leaves_119 : decode cL_leaves 119 = .ok (.aload_n 0, 1) := by decide +kernel
theorem dL_leaves_120 : decode cL_leaves 120 = .ok (.iload 4, 2) := by decide +kernel
theorem dL_leaves_122 : decode cL_leaves 122 = .ok (.iconst 2, 1) := by decide +kernel
theorem dL_leaves_123 : decode cL_leaves 123 = .ok (.invokevirtual 22, 3) := by decide +kernel
theorem dL_leaves_126 : decode cL_leaves 126 = .ok (.aload_n 0, 1) := by decide +kernel
theorem dL_leaves_127 : decode cL_leaves 127 = .ok (.bipush 6, 2) := by decide +kernel
theorem dL_leaves_129 : decode cL_leaves 129 = .ok (.invokevirtual 18, 3) := by decide +kernel
theorem dL_leaves_132 : decode cL_leaves 132 = .ok (.iadd, 1) := by decide +kernel
theorem dL_leaves_133 : decode cL_leaves 133 = .ok (.if_icmp .ge 8, 3) := by decide +kernel
theorem dL_leaves_136 : decode cL_leaves 136 = .ok (.bipush 7, 2) := by decide +kernel
theorem dL_leaves_138 : decode cL_leaves 138 = .ok (.goto 4, 3) := by decide +kernel
theorem dL_leaves_141 : decode cL_leaves 141 = .ok (.iconst 0, 1) := by decide +kernel
theorem dL_leaves_142 : decode cL_leaves 142 = .ok (.istore 6, 2) := by decide +kernel
theorem dL_leaves_144 : decode cL_leaves 144 = .ok (.aload_n 0, 1) := by decide +kernel
theorem dL_leaves_145 : decode cL_leaves 145 = .ok (.iload_n 1, 1) := by decide +kernel
theorem dL_leaves_146 : decode cL_leaves 146 = .ok (.iload_n 2, 1) := by decide +kernel
theorem dL_leaves_147 : decode cL_leaves 147 = .ok (.invokevirtual 69, 3) := by decide +kernel
theorem dL_leaves_150 : decode cL_leaves 150 = .ok (.istore 7, 2) := by decide +kernel
theorem dL_leaves_152 : decode cL_leaves 152 = .ok (.iload 6, 2) := by decide +kernel
theorem dL_leaves_154 : decode cL_leaves 154 = .ok (.ifCond .le 37, 3) := by decide +kernel
theorem dL_leaves_157 : decode cL_leaves 157 = .ok (.iload 7, 2) := by decide +kernel
theorem dL_leaves_159 : decode cL_leaves 159 = .ok (.ldc 59, 2) := by decide +kernel
theorem dL_leaves_161 : decode cL_leaves 161 = .ok (.if_icmp .ne 28, 3) := by decide +kernel
theorem dL_leaves_164 : decode cL_leaves 164 = .ok (.aload_n 0, 1) := by decide +kernel
theorem dL_leaves_165 : decode cL_leaves 165 = .ok (.bipush 7, 2) := by decide +kernel
theorem dL_leaves_167 : decode cL_leaves 167 = .ok (.invokevirtual 18, 3) := by decide +kernel
theorem dL_leaves_170 : decode cL_leaves 170 = .ok (.iload 6, 2) := by decide +kernel
theorem dL_leaves_172 : decode cL_leaves 172 = .ok (.if_icmp .ne 17, 3) := by decide +kernel
theorem dL_leaves_175 : decode cL_leaves 175 = .ok (.aload_n 0, 1) := by decide +kernel
theorem dL_leaves_176 : decode cL_leaves 176 = .ok (.iload_n 1, 1) := by decide +kernel
theorem dL_leaves_177 : decode cL_leaves 177 = .ok (.iconst 3, 1) := by decide +kernel
theorem dL_leaves_178 : decode cL_leaves 178 = .ok (.invokevirtual 15, 3) := by decide +kernel
theorem dL_leaves_181 : decode cL_leaves 181 = .ok (.iload_n 3, 1) := by decide +kernel
theorem dL_leaves_182 : decode cL_leaves 182 = .ok (.if_icmp .ne 7, 3) := by decide +kernel
theorem dL_leaves_185 : decode cL_leaves 185 = .ok (.iconst 1, 1) := by decide +kernel
theorem dL_leaves_186 : decode cL_leaves 186 = .ok (.goto 4, 3) := by decide +kernel
theorem dL_leaves_189 : decode cL_leaves 189 = .ok (.iconst 0, 1) := by decide +kernel
theorem dL_leaves_190 : decode cL_leaves 190 = .ok (.ireturn, 1) := by decide +kernel
theorem dL_leaves_191 : decode cL_leaves 191 = .ok (.iload 7, 2) := by decide +kernel
theorem dL_leaves_193 : decode cL_leaves 193 = .ok (.iload 4, 2) := by decide +kernel
theorem dL_leaves_195 : decode cL_leaves 195 = .ok (.if_icmp .ne 44, 3) := by decide +kernel
theorem dL_leaves_198 : decode cL_leaves 198 = .ok (.aload_n 0, 1) := by decide +kernel
theorem dL_leaves_199 : decode cL_leaves 199 = .ok (.iload 4, 2) := by decide +kernel
theorem dL_leaves_201 : decode cL_leaves 201 = .ok (.bipush 7, 2) := by decide +kernel
theorem dL_leaves_203 : decode cL_leaves 203 = .ok (.invokevirtual 22, 3) := by decide +kernel
theorem dL_leaves_206 : decode cL_leaves 206 = .ok (.iload_n 1, 1) := by decide +kernel
theorem dL_leaves_207 : decode cL_leaves 207 = .ok (.iload_n 2, 1) := by decide +kernel
theorem dL_leaves_208 : decode cL_leaves 208 = .ok (.iadd, 1) := by decide +kernel
theorem dL_leaves_209 : decode cL_leaves 209 = .ok (.if_icmp .ne 30, 3) := by decide +kernel
theorem dL_leaves_212 : decode cL_leaves 212 = .ok (.aload_n 0, 1) := by decide +kernel
theorem dL_leaves_213 : decode cL_leaves 213 = .ok (.iload_n 1, 1) := by decide +kernel
theorem dL_leaves_214 : decode cL_leaves 214 = .ok (.iconst 3, 1) := by decide +kernel
theorem dL_leaves_215 : decode cL_leaves 215 = .ok (.invokevirtual 15, 3) := by decide +kernel
theorem dL_leaves_218 : decode cL_leaves 218 = .ok (.iload_n 3, 1) := by decide +kernel
theorem dL_leaves_219 : decode cL_leaves 219 = .ok (.iconst 1, 1) := by decide +kernel
theorem dL_leaves_220 : decode cL_leaves 220 = .ok (.isub, 1) := by decide +kernel
theorem dL_leaves_221 : decode cL_leaves 221 = .ok (.if_icmp .ne 18, 3) := by decide +kernel
theorem dL_leaves_224 : decode cL_leaves 224 = .ok (.aload_n 0, 1) := by decide +kernel
theorem dL_leaves_225 : decode cL_leaves 225 = .ok (.iload_n 1, 1) := by decide +kernel
theorem dL_leaves_226 : decode cL_leaves 226 = .ok (.iconst 0, 1) := by decide +kernel
theorem dL_leaves_227 : decode cL_leaves 227 = .ok (.invokevirtual 38, 3) := by decide +kernel
theorem dL_leaves_230 : decode cL_leaves 230 = .ok (.iload 5, 2) := by decide +kernel
theorem dL_leaves_232 : decode cL_leaves 232 = .ok (.if_icmp .ne 7, 3) := by decide +kernel
theorem dL_leaves_235 : decode cL_leaves 235 = .ok (.iconst 1, 1) := by decide +kernel
theorem dL_leaves_236 : decode cL_leaves 236 = .ok (.goto 4, 3) := by decide +kernel
theorem dL_leaves_239 : decode cL_leaves 239 = .ok (.iconst 0, 1) := by decide +kernel
theorem dL_leaves_240 : decode cL_leaves 240 = .ok (.ireturn, 1) := by decide +kernel
theorem dL_cargo_0 : decode cL_cargo 0 = .ok (.aload_n 0, 1) := by decide +kernel
theorem dL_cargo_1 : decode cL_cargo 1 = .ok (.iload_n 1, 1) := by decide +kernel
theorem dL_cargo_2 : decode cL_cargo 2 = .ok (.iconst 5, 1) := by decide +kernel
theorem dL_cargo_3 : decode cL_cargo 3 = .ok (.invokevirtual 22, 3) := by decide +kernel
theorem dL_cargo_6 : decode cL_cargo 6 = .ok (.istore 4, 2) := by decide +kernel
theorem dL_cargo_8 : decode cL_cargo 8 = .ok (.aload_n 0, 1) := by decide +kernel
theorem dL_cargo_9 : decode cL_cargo 9 = .ok (.iload_n 1, 1) := by decide +kernel
theorem dL_cargo_10 : decode cL_cargo 10 = .ok (.iload_n 3, 1) := by decide +kernel
theorem dL_cargo_11 : decode cL_cargo 11 = .ok (.ifCond .eq 7, 3) := by decide +kernel
theorem dL_cargo_14 : decode cL_cargo 14 = .ok (.iconst 3, 1) := by decide +kernel
theorem dL_cargo_15 : decode cL_cargo 15 = .ok (.goto 4, 3) := by decide +kernel
theorem dL_cargo_18 : decode cL_cargo 18 = .ok (.iconst 4, 1) := by decide +kernel
theorem dL_cargo_19 : decode cL_cargo 19 = .ok (.invokevirtual 22, 3) := by decide +kernel
theorem dL_cargo_22 : decode cL_cargo 22 = .ok (.istore 5, 2) := by decide +kernel
theorem dL_cargo_24 : decode cL_cargo 24 = .ok (.aload_n 0, 1) := by decide +kernel
theorem dL_cargo_25 : decode cL_cargo 25 = .ok (.iload_n 1, 1) := by decide +kernel
theorem dL_cargo_26 : decode cL_cargo 26 = .ok (.iconst 1, 1) := by decide +kernel
theorem dL_cargo_27 : decode cL_cargo 27 = .ok (.invokevirtual 22, 3) := by decide +kernel
theorem dL_cargo_30 : decode cL_cargo 30 = .ok (.istore 6, 2) := by decide +kernel
theorem dL_cargo_32 : decode cL_cargo 32 = .ok (.aload_n 0, 1) := by decide +kernel
theorem dL_cargo_33 : decode cL_cargo 33 = .ok (.iload_n 1, 1) := by decide +kernel
theorem dL_cargo_34 : decode cL_cargo 34 = .ok (.bipush 7, 2) := by decide +kernel
theorem dL_cargo_36 : decode cL_cargo 36 = .ok (.invokevirtual 22, 3) := by decide +kernel
theorem dL_cargo_39 : decode cL_cargo 39 = .ok (.istore 7, 2) := by decide +kernel
theorem dL_cargo_41 : decode cL_cargo 41 = .ok (.iload_n 2, 1) := by decide +kernel
theorem dL_cargo_42 : decode cL_cargo 42 = .ok (.iload 4, 2) := by decide +kernel
theorem dL_cargo_44 : decode cL_cargo 44 = .ok (.if_icmp .gt 25, 3) := by decide +kernel
theorem dL_cargo_47 : decode cL_cargo 47 = .ok (.iload 5, 2) := by decide +kernel
theorem dL_cargo_49 : decode cL_cargo 49 = .ok (.iload_n 2, 1) := by decide +kernel
theorem dL_cargo_50 : decode cL_cargo 50 = .ok (.iadd, 1) := by decide +kernel
theorem dL_cargo_51 : decode cL_cargo 51 = .ok (.ifCond .lt 18, 3) := by decide +kernel
theorem dL_cargo_54 : decode cL_cargo 54 = .ok (.iload_n 3, 1) := by decide +kernel
theorem dL_cargo_55 : decode cL_cargo 55 = .ok (.ifCond .ne 18, 3) := by decide +kernel
theorem dL_cargo_58 : decode cL_cargo 58 = .ok (.iload_n 2, 1) := by decide +kernel
theorem dL_cargo_59 : decode cL_cargo 59 = .ok (.aload_n 0, 1) := by decide +kernel
theorem dL_cargo_60 : decode cL_cargo 60 = .ok (.iload 7, 2) := by decide +kernel
theorem dL_cargo_62 : decode cL_cargo 62 = .ok (.iconst 1, 1) := by decide +kernel
theorem dL_cargo_63 : decode cL_cargo 63 = .ok (.invokestatic 25, 3) := by decide +kernel
theorem dL_cargo_66 : decode cL_cargo 66 = .ok (.if_icmp .le 7, 3) := by decide +kernel
theorem dL_cargo_69 : decode cL_cargo 69 = .ok (.iconst 1, 1) := by decide +kernel
theorem dL_cargo_70 : decode cL_cargo 70 = .ok (.goto 4, 3) := by decide +kernel
theorem dL_cargo_73 : decode cL_cargo 73 = .ok (.iconst 0, 1) := by decide +kernel
theorem dL_cargo_74 : decode cL_cargo 74 = .ok (.istore 8, 2) := by decide +kernel
theorem dL_cargo_76 : decode cL_cargo 76 = .ok (.iload_n 3, 1) := by decide +kernel
theorem dL_cargo_77 : decode cL_cargo 77 = .ok (.ifCond .eq 14, 3) := by decide +kernel
theorem dL_cargo_80 : decode cL_cargo 80 = .ok (.iload 7, 2) := by decide +kernel
theorem dL_cargo_82 : decode cL_cargo 82 = .ok (.bipush 100, 2) := by decide +kernel
theorem dL_cargo_84 : decode cL_cargo 84 = .ok (.if_icmp .lt 7, 3) := by decide +kernel
theorem dL_cargo_87 : decode cL_cargo 87 = .ok (.iconst 4, 1) := by decide +kernel
theorem dL_cargo_88 : decode cL_cargo 88 = .ok (.goto 14, 3) := by decide +kernel
theorem dL_cargo_91 : decode cL_cargo 91 = .ok (.iload 8, 2) := by decide +kernel
theorem dL_cargo_93 : decode cL_cargo 93 = .ok (.ifCond .eq 8, 3) := by decide +kernel
theorem dL_cargo_96 : decode cL_cargo 96 = .ok (.bipush 8, 2) := by decide +kernel
theorem dL_cargo_98 : decode cL_cargo 98 = .ok (.goto 4, 3) := by decide +kernel
theorem dL_cargo_101 : decode cL_cargo 101 = .ok (.iconst 0, 1) := by decide +kernel
theorem dL_cargo_102 : decode cL_cargo 102 = .ok (.istore 9, 2) := by decide +kernel
theorem dL_cargo_104 : decode cL_cargo 104 = .ok (.iload_n 3, 1) := by decide +kernel
theorem dL_cargo_105 : decode cL_cargo 105 = .ok (.ifCond .eq 12, 3) := by decide +kernel
theorem dL_cargo_108 : decode cL_cargo 108 = .ok (.aload_n 0, 1) := by decide +kernel
theorem dL_cargo_109 : decode cL_cargo 109 = .ok (.iload_n 1, 1) := by decide +kernel
theorem dL_cargo_110 : decode cL_cargo 110 = .ok (.iload_n 2, 1) := by decide +kernel
theorem dL_cargo_111 : decode cL_cargo 111 = .ok (.invokevirtual 72, 3) := by decide +kernel
theorem dL_cargo_114 : decode cL_cargo 114 = .ok (.goto 9, 3) := by decide +kernel
theorem dL_cargo_117 : decode cL_cargo 117 = .ok (.aload_n 0, 1) := by decide +kernel
theorem dL_cargo_118 : decode cL_cargo 118 = .ok (.iload_n 1, 1) := by decide +kernel
theorem dL_cargo_119 : decode cL_cargo 119 = .ok (.iload_n 2, 1) := by decide +kernel
theorem dL_cargo_120 : decode cL_cargo 120 = .ok (.invokevirtual 75, 3) := by decide +kernel
theorem dL_cargo_123 : decode cL_cargo 123 = .ok (.istore 10, 2) := by decide +kernel
theorem dL_cargo_125 : decode cL_cargo 125 = .ok (.iload 9, 2) := by decide +kernel
theorem dL_cargo_127 : decode cL_cargo 127 = .ok (.ifCond .le 38, 3) := by decide +kernel
theorem dL_cargo_130 : decode cL_cargo 130 = .ok (.iload 10, 2) := by decide +kernel
theorem dL_cargo_132 : decode cL_cargo 132 = .ok (.ldc 59, 2) := by decide +kernel
theorem dL_cargo_134 : decode cL_cargo 134 = .ok (.if_icmp .ne 29, 3) := by decide +kernel
theorem dL_cargo_137 : decode cL_cargo 137 = .ok (.aload_n 0, 1) := by decide +kernel
theorem dL_cargo_138 : decode cL_cargo 138 = .ok (.bipush 7, 2) := by decide +kernel
theorem dL_cargo_140 : decode cL_cargo 140 = .ok (.invokevirtual 18, 3) := by decide +kernel
theorem dL_cargo_143 : decode cL_cargo 143 = .ok (.iload 9, 2) := by decide +kernel
theorem dL_cargo_145 : decode cL_cargo 145 = .ok (.if_icmp .ne 18, 3) := by decide +kernel
theorem dL_cargo_148 : decode cL_cargo 148 = .ok (.aload_n 0, 1) := by decide +kernel
theorem dL_cargo_149 : decode cL_cargo 149 = .ok (.iload_n 1, 1) := by decide +kernel
theorem dL_cargo_150 : decode cL_cargo 150 = .ok (.iconst 1, 1) := by decide +kernel
theorem dL_cargo_151 : decode cL_cargo 151 = .ok (.invokevirtual 22, 3) := by decide +kernel
theorem dL_cargo_154 : decode cL_cargo 154 = .ok (.iload 6, 2) := by decide +kernel
theorem dL_cargo_156 : decode cL_cargo 156 = .ok (.if_icmp .ne 7, 3) := by decide +kernel
theorem dL_cargo_159 : decode cL_cargo 159 = .ok (.iconst 1, 1) := by decide +kernel
theorem dL_cargo_160 : decode cL_cargo 160 = .ok (.goto 4, 3) := by decide +kernel
theorem dL_cargo_163 : decode cL_cargo 163 = .ok (.iconst 0, 1) := by decide +kernel
theorem dL_cargo_164 : decode cL_cargo 164 = .ok (.ireturn, 1) := by decide +kernel
theorem dL_cargo_165 : decode cL_cargo 165 = .ok (.iload_n 3, 1) := by decide +kernel
theorem dL_cargo_166 : decode cL_cargo 166 = .ok (.ifCond .eq 12, 3) := by decide +kernel
theorem dL_cargo_169 : decode cL_cargo 169 = .ok (.aload_n 0, 1) := by decide +kernel
theorem dL_cargo_170 : decode cL_cargo 170 = .ok (.iload_n 1, 1) := by decide +kernel
theorem dL_cargo_171 : decode cL_cargo 171 = .ok (.iconst 0, 1) := by decide +kernel
theorem dL_cargo_172 : decode cL_cargo 172 = .ok (.invokevirtual 72, 3) := by decide +kernel
theorem dL_cargo_175 : decode cL_cargo 175 = .ok (.goto 9, 3) := by decide +kernel
theorem dL_cargo_178 : decode cL_cargo 178 = .ok (.aload_n 0, 1) := by decide +kernel
theorem dL_cargo_179 : decode cL_cargo 179 = .ok (.iload_n 1, 1) := by decide +kernel
theorem dL_cargo_180 : decode cL_cargo 180 = .ok (.iconst 0, 1) := by decide +kernel
theorem dL_cargo_181 : decode cL_cargo 181 = .ok (.invokevirtual 75, 3) := by decide +kernel
theorem dL_cargo_184 : decode cL_cargo 184 = .ok (.ldc 37, 2) := by decide +kernel
theorem dL_cargo_186 : decode cL_cargo 186 = .ok (.if_icmp .ne 7, 3) := by decide +kernel
theorem dL_cargo_189 : decode cL_cargo 189 = .ok (.iconst 1, 1) := by decide +kernel
theorem dL_cargo_190 : decode cL_cargo 190 = .ok (.goto 4, 3) := by decide +kernel
theorem dL_cargo_193 : decode cL_cargo 193 = .ok (.iconst 0, 1) := by decide +kernel
theorem dL_cargo_194 : decode cL_cargo 194 = .ok (.istore 11, 2) := by decide +kernel
theorem dL_cargo_196 : decode cL_cargo 196 = .ok (.iload 11, 2) := by decide +kernel
theorem dL_cargo_198 : decode cL_cargo 198 = .ok (.ifCond .eq 65, 3) := by decide +kernel
theorem dL_cargo_201 : decode cL_cargo 201 = .ok (.iload 10, 2) := by decide +kernel
theorem dL_cargo_203 : decode cL_cargo 203 = .ok (.aload_n 0, 1) := by decide +kernel
theorem dL_cargo_204 : decode cL_cargo 204 = .ok (.iload_n 1, 1) := by decide +kernel
theorem dL_cargo_205 : decode cL_cargo 205 = .ok (.iconst 2, 1) := by decide +kernel
theorem dL_cargo_206 : decode cL_cargo 206 = .ok (.invokevirtual 22, 3) := by decide +kernel
theorem dL_cargo_209 : decode cL_cargo 209 = .ok (.if_icmp .ne 54, 3) := by decide +kernel
theorem dL_cargo_212 : decode cL_cargo 212 = .ok (.aload_n 0, 1) := by decide +kernel
theorem dL_cargo_213 : decode cL_cargo 213 = .ok (.iload_n 1, 1) := by decide +kernel
theorem dL_cargo_214 : decode cL_cargo 214 = .ok (.iconst 1, 1) := by decide +kernel
theorem dL_cargo_215 : decode cL_cargo 215 = .ok (.invokevirtual 22, 3) := by decide +kernel
theorem dL_cargo_218 : decode cL_cargo 218 = .ok (.iload 6, 2) := by decide +kernel
theorem dL_cargo_220 : decode cL_cargo 220 = .ok (.iload_n 2, 1) := by decide +kernel
theorem dL_cargo_221 : decode cL_cargo 221 = .ok (.iadd, 1) := by decide +kernel
theorem dL_cargo_222 : decode cL_cargo 222 = .ok (.if_icmp .ne 41, 3) := by decide +kernel
theorem dL_cargo_225 : decode cL_cargo 225 = .ok (.aload_n 0, 1) := by decide +kernel
theorem dL_cargo_226 : decode cL_cargo 226 = .ok (.iload_n 1, 1) := by decide +kernel
theorem dL_cargo_227 : decode cL_cargo 227 = .ok (.iconst 5, 1) := by decide +kernel
theorem dL_cargo_228 : decode cL_cargo 228 = .ok (.invokevirtual 22, 3) := by decide +kernel
theorem dL_cargo_231 : decode cL_cargo 231 = .ok (.iload 4, 2) := by decide +kernel
theorem dL_cargo_233 : decode cL_cargo 233 = .ok (.iload_n 2, 1) := by decide +kernel
theorem dL_cargo_234 : decode cL_cargo 234 = .ok (.isub, 1) := by decide +kernel
theorem dL_cargo_235 : decode cL_cargo 235 = .ok (.if_icmp .ne 28, 3) := by decide +kernel
theorem dL_cargo_238 : decode cL_cargo 238 = .ok (.aload_n 0, 1) := by decide +kernel
theorem dL_cargo_239 : decode cL_cargo 239 = .ok (.iload_n 1, 1) := by decide +kernel
theorem dL_cargo_240 : decode cL_cargo 240 = .ok (.iload_n 3, 1) := by decide +kernel
theorem dL_cargo_241 : decode cL_cargo 241 = .ok (.ifCond .eq 7, 3) := by decide +kernel
theorem dL_cargo_244 : decode cL_cargo 244 = .ok (.iconst 3, 1) := by decide +kernel
theorem dL_cargo_245 : decode cL_cargo 245 = .ok (.goto 4, 3) := by decide +kernel
theorem dL_cargo_248 : decode cL_cargo 248 = .ok (.iconst 4, 1) := by decide +kernel
theorem dL_cargo_249 : decode cL_cargo 249 = .ok (.invokevirtual 22, 3) := by decide +kernel
theorem dL_cargo_252 : decode cL_cargo 252 = .ok (.iload 5, 2) := by decide +kernel
theorem dL_cargo_254 : decode cL_cargo 254 = .ok (.iload_n 2, 1) := by decide +kernel
theorem dL_cargo_255 : decode cL_cargo 255 = .ok (.iadd, 1) := by decide +kernel
theorem dL_cargo_256 : decode cL_cargo 256 = .ok (.if_icmp .ne 7, 3) := by decide +kernel
theorem dL_cargo_259 : decode cL_cargo 259 = .ok (.iconst 1, 1) := by decide +kernel
theorem dL_cargo_260 : decode cL_cargo 260 = .ok (.goto 4, 3) := by decide +kernel
theorem dL_cargo_263 : decode cL_cargo 263 = .ok (.iconst 0, 1) := by decide +kernel
theorem dL_cargo_264 : decode cL_cargo 264 = .ok (.ireturn, 1) := by decide +kernel
theorem dL_digits_0 : decode cL_digits 0 = .ok (.aload_n 0, 1) := by decide +kernel
theorem dL_digits_1 : decode cL_digits 1 = .ok (.bipush 32, 2) := by decide +kernel
theorem dL_digits_3 : decode cL_digits 3 = .ok (.invokevirtual 78, 3) := by decide +kernel
theorem dL_digits_6 : decode cL_digits 6 = .ok (.istore_n 2, 1) := by decide +kernel
theorem dL_digits_7 : decode cL_digits 7 = .ok (.iload_n 1, 1) := by decide +kernel
theorem dL_digits_8 : decode cL_digits 8 = .ok (.bipush 99, 2) := by decide +kernel
theorem dL_digits_10 : decode cL_digits 10 = .ok (.if_icmp .le 16, 3) := by decide +kernel
theorem dL_digits_13 : decode cL_digits 13 = .ok (.aload_n 0, 1) := by decide +kernel
theorem dL_digits_14 : decode cL_digits 14 = .ok (.bipush 48, 2) := by decide +kernel
theorem dL_digits_16 : decode cL_digits 16 = .ok (.iload_n 1, 1) := by decide +kernel
theorem dL_digits_17 : decode cL_digits 17 = .ok (.bipush 100, 2) := by decide +kernel
theorem dL_digits_19 : decode cL_digits 19 = .ok (.idiv, 1) := by decide +kernel
theorem dL_digits_20 : decode cL_digits 20 = .ok (.iadd, 1) := by decide +kernel
theorem dL_digits_21 : decode cL_digits 21 = .ok (.i2c, 1) := by decide +kernel
theorem dL_digits_22 : decode cL_digits 22 = .ok (.invokevirtual 78, 3) := by decide +kernel
theorem dL_digits_25 : decode cL_digits 25 = .ok (.istore_n 2, 1) := by decide +kernel
theorem dL_digits_26 : decode cL_digits 26 = .ok (.iload_n 1, 1) := by decide +kernel
theorem dL_digits_27 : decode cL_digits 27 = .ok (.bipush 9, 2) := by decide +kernel
theorem dL_digits_29 : decode cL_digits 29 = .ok (.if_icmp .le 19, 3) := by decide +kernel
theorem dL_digits_32 : decode cL_digits 32 = .ok (.aload_n 0, 1) := by decide +kernel
theorem dL_digits_33 : decode cL_digits 33 = .ok (.bipush 48, 2) := by decide +kernel
theorem dL_digits_35 : decode cL_digits 35 = .ok (.iload_n 1, 1) := by decide +kernel
theorem dL_digits_36 : decode cL_digits 36 = .ok (.bipush 10, 2) := by decide +kernel
theorem dL_digits_38 : decode cL_digits 38 = .ok (.idiv, 1) := by decide +kernel
theorem dL_digits_39 : decode cL_digits 39 = .ok (.bipush 10, 2) := by decide +kernel
theorem dL_digits_41 : decode cL_digits 41 = .ok (.irem, 1) := by decide +kernel
theorem dL_digits_42 : decode cL_digits 42 = .ok (.iadd, 1) := by decide +kernel
theorem dL_digits_43 : decode cL_digits 43 = .ok (.i2c, 1) := by decide +kernel
theorem dL_digits_44 : decode cL_digits 44 = .ok (.invokevirtual 78, 3) := by decide +kernel
theorem dL_digits_47 : decode cL_digits 47 = .ok (.istore_n 2, 1) := by decide +kernel
theorem dL_digits_48 : decode cL_digits 48 = .ok (.aload_n 0, 1) := by decide +kernel
theorem dL_digits_49 : decode cL_digits 49 = .ok (.bipush 48, 2) := by decide +kernel
theorem dL_digits_51 : decode cL_digits 51 = .ok (.iload_n 1, 1) := by decide +kernel
theorem dL_digits_52 : decode cL_digits 52 = .ok (.bipush 10, 2) := by decide +kernel
theorem dL_digits_54 : decode cL_digits 54 = .ok (.irem, 1) := by decide +kernel
theorem dL_digits_55 : decode cL_digits 55 = .ok (.iadd, 1) := by decide +kernel
theorem dL_digits_56 : decode cL_digits 56 = .ok (.i2c, 1) := by decide +kernel
theorem dL_digits_57 : decode cL_digits 57 = .ok (.invokevirtual 78, 3) := by decide +kernel
theorem dL_digits_60 : decode cL_digits 60 = .ok (.istore_n 2, 1) := by decide +kernel
theorem dL_digits_61 : decode cL_digits 61 = .ok (.iload_n 2, 1) := by decide +kernel
theorem dL_digits_62 : decode cL_digits 62 = .ok (.ireturn, 1) := by decide +kernel
theorem dL_orders_0 : decode cL_orders 0 = .ok (.aload_n 0, 1) := by decide +kernel
theorem dL_orders_1 : decode cL_orders 1 = .ok (.invokevirtual 82, 3) := by decide +kernel
theorem dL_orders_4 : decode cL_orders 4 = .ok (.pop, 1) := by decide +kernel
theorem dL_orders_5 : decode cL_orders 5 = .ok (.aload_n 0, 1) := by decide +kernel
theorem dL_orders_6 : decode cL_orders 6 = .ok (.invokevirtual 86, 3) := by decide +kernel
theorem dL_orders_9 : decode cL_orders 9 = .ok (.bipush (-100), 2) := by decide +kernel
theorem dL_orders_11 : decode cL_orders 11 = .ok (.if_icmp .ne 7, 3) := by decide +kernel
theorem dL_orders_14 : decode cL_orders 14 = .ok (.iconst 1, 1) := by decide +kernel
theorem dL_orders_15 : decode cL_orders 15 = .ok (.goto 4, 3) := by decide +kernel
theorem dL_orders_18 : decode cL_orders 18 = .ok (.iconst 0, 1) := by decide +kernel
theorem dL_orders_19 : decode cL_orders 19 = .ok (.istore_n 3, 1) := by decide +kernel
theorem dL_orders_20 : decode cL_orders 20 = .ok (.aload_n 0, 1) := by decide +kernel
theorem dL_orders_21 : decode cL_orders 21 = .ok (.bipush 108, 2) := by decide +kernel
theorem dL_orders_23 : decode cL_orders 23 = .ok (.invokevirtual 78, 3) := by decide +kernel
theorem dL_orders_26 : decode cL_orders 26 = .ok (.pop, 1) := by decide +kernel
theorem dL_orders_27 : decode cL_orders 27 = .ok (.aload_n 0, 1) := by decide +kernel
theorem dL_orders_28 : decode cL_orders 28 = .ok (.bipush 111, 2) := by decide +kernel
theorem dL_orders_30 : decode cL_orders 30 = .ok (.invokevirtual 78, 3) := by decide +kernel
theorem dL_orders_33 : decode cL_orders 33 = .ok (.pop, 1) := by decide +kernel
theorem dL_orders_34 : decode cL_orders 34 = .ok (.aload_n 0, 1) := by decide +kernel
theorem dL_orders_35 : decode cL_orders 35 = .ok (.bipush 97, 2) := by decide +kernel
theorem dL_orders_37 : decode cL_orders 37 = .ok (.invokevirtual 78, 3) := by decide +kernel
theorem dL_orders_40 : decode cL_orders 40 = .ok (.pop, 1) := by decide +kernel
theorem dL_orders_41 : decode cL_orders 41 = .ok (.aload_n 0, 1) := by decide +kernel
theorem dL_orders_42 : decode cL_orders 42 = .ok (.invokevirtual 86, 3) := by decide +kernel
theorem dL_orders_45 : decode cL_orders 45 = .ok (.bipush (-100), 2) := by decide +kernel
theorem dL_orders_47 : decode cL_orders 47 = .ok (.if_icmp .ne 7, 3) := by decide +kernel
theorem dL_orders_50 : decode cL_orders 50 = .ok (.iconst 1, 1) := by decide +kernel
theorem dL_orders_51 : decode cL_orders 51 = .ok (.goto 4, 3) := by decide +kernel
theorem dL_orders_54 : decode cL_orders 54 = .ok (.iconst 0, 1) := by decide +kernel
theorem dL_orders_55 : decode cL_orders 55 = .ok (.istore 4, 2) := by decide +kernel
theorem dL_orders_57 : decode cL_orders 57 = .ok (.aload_n 0, 1) := by decide +kernel
theorem dL_orders_58 : decode cL_orders 58 = .ok (.bipush 100, 2) := by decide +kernel
theorem dL_orders_60 : decode cL_orders 60 = .ok (.invokevirtual 78, 3) := by decide +kernel
theorem dL_orders_63 : decode cL_orders 63 = .ok (.istore 5, 2) := by decide +kernel
theorem dL_orders_65 : decode cL_orders 65 = .ok (.aload_n 0, 1) := by decide +kernel
theorem dL_orders_66 : decode cL_orders 66 = .ok (.invokevirtual 86, 3) := by decide +kernel
theorem dL_orders_69 : decode cL_orders 69 = .ok (.bipush (-100), 2) := by decide +kernel
theorem dL_orders_71 : decode cL_orders 71 = .ok (.iload 5, 2) := by decide +kernel
theorem dL_orders_73 : decode cL_orders 73 = .ok (.isub, 1) := by decide +kernel
theorem dL_orders_74 : decode cL_orders 74 = .ok (.if_icmp .ne 7, 3) := by decide +kernel
theorem dL_orders_77 : decode cL_orders 77 = .ok (.iconst 1, 1) := by decide +kernel
theorem dL_orders_78 : decode cL_orders 78 = .ok (.goto 4, 3) := by decide +kernel
theorem dL_orders_81 : decode cL_orders 81 = .ok (.iconst 0, 1) := by decide +kernel
theorem dL_orders_82 : decode cL_orders 82 = .ok (.istore 6, 2) := by decide +kernel
theorem dL_orders_84 : decode cL_orders 84 = .ok (.aload_n 0, 1) := by decide +kernel
theorem dL_orders_85 : decode cL_orders 85 = .ok (.iload_n 1, 1) := by decide +kernel
theorem dL_orders_86 : decode cL_orders 86 = .ok (.invokestatic 89, 3) := by decide +kernel
theorem dL_orders_89 : decode cL_orders 89 = .ok (.istore 5, 2) := by decide +kernel
theorem dL_orders_91 : decode cL_orders 91 = .ok (.aload_n 0, 1) := by decide +kernel
theorem dL_orders_92 : decode cL_orders 92 = .ok (.invokevirtual 86, 3) := by decide +kernel
theorem dL_orders_95 : decode cL_orders 95 = .ok (.bipush (-100), 2) := by decide +kernel
theorem dL_orders_97 : decode cL_orders 97 = .ok (.iload 5, 2) := by decide +kernel
theorem dL_orders_99 : decode cL_orders 99 = .ok (.isub, 1) := by decide +kernel
theorem dL_orders_100 : decode cL_orders 100 = .ok (.if_icmp .ne 7, 3) := by decide +kernel
theorem dL_orders_103 : decode cL_orders 103 = .ok (.iconst 1, 1) := by decide +kernel
theorem dL_orders_104 : decode cL_orders 104 = .ok (.goto 4, 3) := by decide +kernel
theorem dL_orders_107 : decode cL_orders 107 = .ok (.iconst 0, 1) := by decide +kernel
theorem dL_orders_108 : decode cL_orders 108 = .ok (.istore 7, 2) := by decide +kernel
theorem dL_orders_110 : decode cL_orders 110 = .ok (.aload_n 0, 1) := by decide +kernel
theorem dL_orders_111 : decode cL_orders 111 = .ok (.iload_n 2, 1) := by decide +kernel
theorem dL_orders_112 : decode cL_orders 112 = .ok (.invokestatic 89, 3) := by decide +kernel
theorem dL_orders_115 : decode cL_orders 115 = .ok (.istore 5, 2) := by decide +kernel
theorem dL_orders_117 : decode cL_orders 117 = .ok (.aload_n 0, 1) := by decide +kernel
theorem dL_orders_118 : decode cL_orders 118 = .ok (.iload_n 1, 1) := by decide +kernel
theorem dL_orders_119 : decode cL_orders 119 = .ok (.iconst 3, 1) := by decide +kernel
theorem dL_orders_120 : decode cL_orders 120 = .ok (.invokevirtual 22, 3) := by decide +kernel
theorem dL_orders_123 : decode cL_orders 123 = .ok (.istore 8, 2) := by decide +kernel
theorem dL_orders_125 : decode cL_orders 125 = .ok (.aload_n 0, 1) := by decide +kernel
theorem dL_orders_126 : decode cL_orders 126 = .ok (.iload_n 1, 1) := by decide +kernel
theorem dL_orders_127 : decode cL_orders 127 = .ok (.bipush 7, 2) := by decide +kernel
theorem dL_orders_129 : decode cL_orders 129 = .ok (.invokevirtual 22, 3) := by decide +kernel
theorem dL_orders_132 : decode cL_orders 132 = .ok (.bipush 100, 2) := by decide +kernel
theorem dL_orders_134 : decode cL_orders 134 = .ok (.if_icmp .ge 17, 3) := by decide +kernel
theorem dL_orders_137 : decode cL_orders 137 = .ok (.iload_n 2, 1) := by decide +kernel
theorem dL_orders_138 : decode cL_orders 138 = .ok (.aload_n 0, 1) := by decide +kernel
theorem dL_orders_139 : decode cL_orders 139 = .ok (.iload_n 1, 1) := by decide +kernel
theorem dL_orders_140 : decode cL_orders 140 = .ok (.iconst 5, 1) := by decide +kernel
theorem dL_orders_141 : decode cL_orders 141 = .ok (.invokevirtual 22, 3) := by decide +kernel
theorem dL_orders_144 : decode cL_orders 144 = .ok (.if_icmp .gt 7, 3) := by decide +kernel
theorem dL_orders_147 : decode cL_orders 147 = .ok (.iconst 1, 1) := by decide +kernel
theorem dL_orders_148 : decode cL_orders 148 = .ok (.goto 4, 3) := by decide +kernel
theorem dL_orders_151 : decode cL_orders 151 = .ok (.iconst 0, 1) := by decide +kernel
theorem dL_orders_152 : decode cL_orders 152 = .ok (.istore 9, 2) := by decide +kernel
theorem dL_orders_154 : decode cL_orders 154 = .ok (.iload_n 3, 1) := by decide +kernel
theorem dL_orders_155 : decode cL_orders 155 = .ok (.ifCond .eq 57, 3) := by decide +kernel
theorem dL_orders_158 : decode cL_orders 158 = .ok (.iload 4, 2) := by decide +kernel
theorem dL_orders_160 : decode cL_orders 160 = .ok (.ifCond .eq 52, 3) := by decide +kernel
theorem dL_orders_163 : decode cL_orders 163 = .ok (.iload 6, 2) := by decide +kernel
theorem dL_orders_165 : decode cL_orders 165 = .ok (.ifCond .eq 47, 3) := by decide +kernel
theorem dL_orders_168 : decode cL_orders 168 = .ok (.iload 7, 2) := by decide +kernel
theorem dL_orders_170 : decode cL_orders 170 = .ok (.ifCond .eq 42, 3) := by decide +kernel
theorem dL_orders_173 : decode cL_orders 173 = .ok (.aload_n 0, 1) := by decide +kernel
theorem dL_orders_174 : decode cL_orders 174 = .ok (.invokevirtual 86, 3) := by decide +kernel
theorem dL_orders_177 : decode cL_orders 177 = .ok (.iload 9, 2) := by decide +kernel
theorem dL_orders_179 : decode cL_orders 179 = .ok (.ifCond .eq 7, 3) := by decide +kernel
theorem dL_orders_182 : decode cL_orders 182 = .ok (.iconst 1, 1) := by decide +kernel
theorem dL_orders_183 : decode cL_orders 183 = .ok (.goto 4, 3) := by decide +kernel
theorem dL_orders_186 : decode cL_orders 186 = .ok (.iconst 0, 1) := by decide +kernel
theorem dL_orders_187 : decode cL_orders 187 = .ok (.if_icmp .ne 25, 3) := by decide +kernel
theorem dL_orders_190 : decode cL_orders 190 = .ok (.aload_n 0, 1) := by decide +kernel
theorem dL_orders_191 : decode cL_orders 191 = .ok (.iload_n 1, 1) := by decide +kernel
theorem dL_orders_192 : decode cL_orders 192 = .ok (.iconst 3, 1) := by decide +kernel
theorem dL_orders_193 : decode cL_orders 193 = .ok (.invokevirtual 22, 3) := by decide +kernel
theorem dL_orders_196 : decode cL_orders 196 = .ok (.iload 8, 2) := by decide +kernel
theorem dL_orders_198 : decode cL_orders 198 = .ok (.iload 9, 2) := by decide +kernel
theorem dL_orders_200 : decode cL_orders 200 = .ok (.ifCond .eq 7, 3) := by decide +kernel
theorem dL_orders_203 : decode cL_orders 203 = .ok (.iload_n 2, 1) := by decide +kernel
theorem dL_orders_204 : decode cL_orders 204 = .ok (.goto 4, 3) := by decide +kernel
theorem dL_orders_207 : decode cL_orders 207 = .ok (.iconst 0, 1) := by decide +kernel
theorem dL_orders_208 : decode cL_orders 208 = .ok (.iadd, 1) := by decide +kernel
theorem dL_orders_209 : decode cL_orders 209 = .ok (.if_icmp .eq 5, 3) := by decide +kernel
theorem dL_orders_212 : decode cL_orders 212 = .ok (.iconst 0, 1) := by decide +kernel
theorem dL_orders_213 : decode cL_orders 213 = .ok (.ireturn, 1) := by decide +kernel
theorem dL_orders_214 : decode cL_orders 214 = .ok (.aload_n 0, 1) := by decide +kernel
theorem dL_orders_215 : decode cL_orders 215 = .ok (.bipush 59, 2) := by decide +kernel
theorem dL_orders_217 : decode cL_orders 217 = .ok (.invokevirtual 78, 3) := by decide +kernel
theorem dL_orders_220 : decode cL_orders 220 = .ok (.istore 5, 2) := by decide +kernel
theorem dL_orders_222 : decode cL_orders 222 = .ok (.aload_n 0, 1) := by decide +kernel
theorem dL_orders_223 : decode cL_orders 223 = .ok (.invokevirtual 86, 3) := by decide +kernel
theorem dL_orders_226 : decode cL_orders 226 = .ok (.bipush (-100), 2) := by decide +kernel
theorem dL_orders_228 : decode cL_orders 228 = .ok (.iload 5, 2) := by decide +kernel
theorem dL_orders_230 : decode cL_orders 230 = .ok (.isub, 1) := by decide +kernel
theorem dL_orders_231 : decode cL_orders 231 = .ok (.if_icmp .ne 25, 3) := by decide +kernel
theorem dL_orders_234 : decode cL_orders 234 = .ok (.aload_n 0, 1) := by decide +kernel
theorem dL_orders_235 : decode cL_orders 235 = .ok (.invokevirtual 93, 3) := by decide +kernel
theorem dL_orders_238 : decode cL_orders 238 = .ok (.ifCond .lt 18, 3) := by decide +kernel
theorem dL_orders_241 : decode cL_orders 241 = .ok (.aload_n 0, 1) := by decide +kernel
theorem dL_orders_242 : decode cL_orders 242 = .ok (.iload_n 1, 1) := by decide +kernel
theorem dL_orders_243 : decode cL_orders 243 = .ok (.iconst 3, 1) := by decide +kernel
theorem dL_orders_244 : decode cL_orders 244 = .ok (.invokevirtual 22, 3) := by decide +kernel
theorem dL_orders_247 : decode cL_orders 247 = .ok (.iload 8, 2) := by decide +kernel
theorem dL_orders_249 : decode cL_orders 249 = .ok (.if_icmp .ne 7, 3) := by decide +kernel
theorem dL_orders_252 : decode cL_orders 252 = .ok (.iconst 1, 1) := by decide +kernel
theorem dL_orders_253 : decode cL_orders 253 = .ok (.goto 4, 3) := by decide +kernel
theorem dL_orders_256 : decode cL_orders 256 = .ok (.iconst 0, 1) := by decide +kernel
theorem dL_orders_257 : decode cL_orders 257 = .ok (.ireturn, 1) := by decide +kernel
theorem dL_errors_0 : decode cL_errors 0 = .ok (.ldc 48, 2) := by decide +kernel
theorem dL_errors_2 : decode cL_errors 2 = .ok (.istore_n 1, 1) := by decide +kernel
theorem dL_errors_3 : decode cL_errors 3 = .ok (.ldc 37, 2) := by decide +kernel
theorem dL_errors_5 : decode cL_errors 5 = .ok (.istore_n 2, 1) := by decide +kernel
theorem dL_errors_6 : decode cL_errors 6 = .ok (.aload_n 0, 1) := by decide +kernel
theorem dL_errors_7 : decode cL_errors 7 = .ok (.iconst 0, 1) := by decide +kernel
theorem dL_errors_8 : decode cL_errors 8 = .ok (.invokevirtual 18, 3) := by decide +kernel
theorem dL_errors_11 : decode cL_errors 11 = .ok (.istore_n 3, 1) := by decide +kernel
theorem dL_errors_12 : decode cL_errors 12 = .ok (.aload_n 0, 1) := by decide +kernel
theorem dL_errors_13 : decode cL_errors 13 = .ok (.iconst 1, 1) := by decide +kernel
theorem dL_errors_14 : decode cL_errors 14 = .ok (.invokevirtual 18, 3) := by decide +kernel
theorem dL_errors_17 : decode cL_errors 17 = .ok (.istore 4, 2) := by decide +kernel
theorem dL_errors_19 : decode cL_errors 19 = .ok (.aload_n 0, 1) := by decide +kernel
theorem dL_errors_20 : decode cL_errors 20 = .ok (.iconst 2, 1) := by decide +kernel
theorem dL_errors_21 : decode cL_errors 21 = .ok (.invokevirtual 18, 3) := by decide +kernel
theorem dL_errors_24 : decode cL_errors 24 = .ok (.istore 5, 2) := by decide +kernel
theorem dL_errors_26 : decode cL_errors 26 = .ok (.aload_n 0, 1) := by decide +kernel
theorem dL_errors_27 : decode cL_errors 27 = .ok (.bipush 99, 2) := by decide +kernel
theorem dL_errors_29 : decode cL_errors 29 = .ok (.iconst 0, 1) := by decide +kernel
theorem dL_errors_30 : decode cL_errors 30 = .ok (.iconst 0, 1) := by decide +kernel
theorem dL_errors_31 : decode cL_errors 31 = .ok (.invokevirtual 96, 3) := by decide +kernel
theorem dL_errors_34 : decode cL_errors 34 = .ok (.iload_n 2, 1) := by decide +kernel
theorem dL_errors_35 : decode cL_errors 35 = .ok (.if_icmp .ne 181, 3) := by decide +kernel
theorem dL_errors_38 : decode cL_errors 38 = .ok (.aload_n 0, 1) := by decide +kernel
theorem dL_errors_39 : decode cL_errors 39 = .ok (.bipush 100, 2) := by decide +kernel
theorem dL_errors_41 : decode cL_errors 41 = .ok (.iconst 0, 1) := by decide +kernel
theorem dL_errors_42 : decode cL_errors 42 = .ok (.iconst 0, 1) := by decide +kernel
theorem dL_errors_43 : decode cL_errors 43 = .ok (.invokevirtual 96, 3) := by decide +kernel
theorem dL_errors_46 : decode cL_errors 46 = .ok (.ldc 99, 2) := by decide +kernel
theorem dL_errors_48 : decode cL_errors 48 = .ok (.if_icmp .ne 168, 3) := by decide +kernel
theorem dL_errors_51 : decode cL_errors 51 = .ok (.aload_n 0, 1) := by decide +kernel
theorem dL_errors_52 : decode cL_errors 52 = .ok (.bipush 100, 2) := by decide +kernel
theorem dL_errors_54 : decode cL_errors 54 = .ok (.bipush 9, 2) := by decide +kernel
theorem dL_errors_56 : decode cL_errors 56 = .ok (.iconst 0, 1) := by decide +kernel
theorem dL_errors_57 : decode cL_errors 57 = .ok (.bipush 100, 2) := by decide +kernel
theorem dL_errors_59 : decode cL_errors 59 = .ok (.iconst 0, 1) := by decide +kernel
theorem dL_errors_60 : decode cL_errors 60 = .ok (.iconst 0, 1) := by decide +kernel
theorem dL_errors_61 : decode cL_errors 61 = .ok (.invokevirtual 100, 3) := by decide +kernel
theorem dL_errors_64 : decode cL_errors 64 = .ok (.iload_n 2, 1) := by decide +kernel
theorem dL_errors_65 : decode cL_errors 65 = .ok (.if_icmp .ne 151, 3) := by decide +kernel
theorem dL_errors_68 : decode cL_errors 68 = .ok (.aload_n 0, 1) := by decide +kernel
theorem dL_errors_69 : decode cL_errors 69 = .ok (.bipush 100, 2) := by decide +kernel
theorem dL_errors_71 : decode cL_errors 71 = .ok (.bipush 10, 2) := by decide +kernel
theorem dL_errors_73 : decode cL_errors 73 = .ok (.iconst 0, 1) := by decide +kernel
theorem dL_errors_74 : decode cL_errors 74 = .ok (.bipush 100, 2) := by decide +kernel
theorem dL_errors_76 : decode cL_errors 76 = .ok (.sipush 5001, 3) := by decide +kernel
theorem dL_errors_79 : decode cL_errors 79 = .ok (.iconst 0, 1) := by decide +kernel
theorem dL_errors_80 : decode cL_errors 80 = .ok (.invokevirtual 100, 3) := by decide +kernel
theorem dL_errors_83 : decode cL_errors 83 = .ok (.iload_n 2, 1) := by decide +kernel
theorem dL_errors_84 : decode cL_errors 84 = .ok (.if_icmp .ne 132, 3) := by decide +kernel
theorem dL_errors_87 : decode cL_errors 87 = .ok (.aload_n 0, 1) := by decide +kernel
theorem dL_errors_88 : decode cL_errors 88 = .ok (.iload 4, 2) := by decide +kernel
theorem dL_errors_90 : decode cL_errors 90 = .ok (.iconst 0, 1) := by decide +kernel
theorem dL_errors_91 : decode cL_errors 91 = .ok (.iconst 0, 1) := by decide +kernel
theorem dL_errors_92 : decode cL_errors 92 = .ok (.invokevirtual 104, 3) := by decide +kernel
theorem dL_errors_95 : decode cL_errors 95 = .ok (.iload_n 1, 1) := by decide +kernel
theorem dL_errors_96 : decode cL_errors 96 = .ok (.if_icmp .ne 120, 3) := by decide +kernel
theorem dL_errors_99 : decode cL_errors 99 = .ok (.aload_n 0, 1) := by decide +kernel
theorem dL_errors_100 : decode cL_errors 100 = .ok (.iconst 0, 1) := by decide +kernel
theorem dL_errors_101 : decode cL_errors 101 = .ok (.iconst 2, 1) := by decide +kernel
theorem dL_errors_102 : decode cL_errors 102 = .ok (.iconst 0, 1) := by decide +kernel
theorem dL_errors_103 : decode cL_errors 103 = .ok (.invokevirtual 104, 3) := by decide +kernel
theorem dL_errors_106 : decode cL_errors 106 = .ok (.iload_n 1, 1) := by decide +kernel
theorem dL_errors_107 : decode cL_errors 107 = .ok (.if_icmp .ne 109, 3) := by decide +kernel
theorem dL_errors_110 : decode cL_errors 110 = .ok (.aload_n 0, 1) := by decide +kernel
theorem dL_errors_111 : decode cL_errors 111 = .ok (.iconst 0, 1) := by decide +kernel
theorem dL_errors_112 : decode cL_errors 112 = .ok (.iconst 0, 1) := by decide +kernel
theorem dL_errors_113 : decode cL_errors 113 = .ok (.sipush 5001, 3) := by decide +kernel
theorem dL_errors_116 : decode cL_errors 116 = .ok (.invokevirtual 104, 3) := by decide +kernel
theorem dL_errors_119 : decode cL_errors 119 = .ok (.iload_n 2, 1) := by decide +kernel
theorem dL_errors_120 : decode cL_errors 120 = .ok (.if_icmp .ne 96, 3) := by decide +kernel
theorem dL_errors_123 : decode cL_errors 123 = .ok (.aload_n 0, 1) := by decide +kernel
theorem dL_errors_124 : decode cL_errors 124 = .ok (.bipush 51, 2) := by decide +kernel
theorem dL_errors_126 : decode cL_errors 126 = .ok (.invokevirtual 107, 3) := by decide +kernel
theorem dL_errors_129 : decode cL_errors 129 = .ok (.iload_n 2, 1) := by decide +kernel
theorem dL_errors_130 : decode cL_errors 130 = .ok (.if_icmp .ne 86, 3) := by decide +kernel
theorem dL_errors_133 : decode cL_errors 133 = .ok (.aload_n 0, 1) := by decide +kernel
theorem dL_errors_134 : decode cL_errors 134 = .ok (.iload 4, 2) := by decide +kernel
theorem dL_errors_136 : decode cL_errors 136 = .ok (.iconst 0, 1) := by decide +kernel
theorem dL_errors_137 : decode cL_errors 137 = .ok (.invokevirtual 110, 3) := by decide +kernel
theorem dL_errors_140 : decode cL_errors 140 = .ok (.iload_n 1, 1) := by decide +kernel
theorem dL_errors_141 : decode cL_errors 141 = .ok (.if_icmp .ne 75, 3) := by decide +kernel
theorem dL_errors_144 : decode cL_errors 144 = .ok (.aload_n 0, 1) := by decide +kernel
theorem dL_errors_145 : decode cL_errors 145 = .ok (.iload_n 3, 1) := by decide +kernel
theorem dL_errors_146 : decode cL_errors 146 = .ok (.iconst 0, 1) := by decide +kernel
theorem dL_errors_147 : decode cL_errors 147 = .ok (.invokevirtual 113, 3) := by decide +kernel
theorem dL_errors_150 : decode cL_errors 150 = .ok (.iload_n 1, 1) := by decide +kernel
theorem dL_errors_151 : decode cL_errors 151 = .ok (.if_icmp .ne 65, 3) := by decide +kernel
theorem dL_errors_154 : decode cL_errors 154 = .ok (.aload_n 0, 1) := by decide +kernel
theorem dL_errors_155 : decode cL_errors 155 = .ok (.iconst 0, 1) := by decide +kernel
theorem dL_errors_156 : decode cL_errors 156 = .ok (.ldc 116, 2) := by decide +kernel
theorem dL_errors_158 : decode cL_errors 158 = .ok (.invokevirtual 113, 3) := by decide +kernel
theorem dL_errors_161 : decode cL_errors 161 = .ok (.iload_n 2, 1) := by decide +kernel
theorem dL_errors_162 : decode cL_errors 162 = .ok (.if_icmp .ne 54, 3) := by decide +kernel
theorem dL_errors_165 : decode cL_errors 165 = .ok (.aload_n 0, 1) := by decide +kernel
theorem dL_errors_166 : decode cL_errors 166 = .ok (.iload_n 3, 1) := by decide +kernel
theorem dL_errors_167 : decode cL_errors 167 = .ok (.iconst 5, 1) := by decide +kernel
theorem dL_errors_168 : decode cL_errors 168 = .ok (.bipush 10, 2) := by decide +kernel
theorem dL_errors_170 : decode cL_errors 170 = .ok (.iconst 1, 1) := by decide +kernel
theorem dL_errors_171 : decode cL_errors 171 = .ok (.bipush 10, 2) := by decide +kernel
theorem dL_errors_173 : decode cL_errors 173 = .ok (.invokevirtual 117, 3) := by decide +kernel
theorem dL_errors_176 : decode cL_errors 176 = .ok (.iload_n 1, 1) := by decide +kernel
theorem dL_errors_177 : decode cL_errors 177 = .ok (.if_icmp .ne 39, 3) := by decide +kernel
theorem dL_errors_180 : decode cL_errors 180 = .ok (.aload_n 0, 1) := by decide +kernel
theorem dL_errors_181 : decode cL_errors 181 = .ok (.iconst 0, 1) := by decide +kernel
theorem dL_errors_182 : decode cL_errors 182 = .ok (.bipush 61, 2) := by decide +kernel
theorem dL_errors_184 : decode cL_errors 184 = .ok (.bipush 10, 2) := by decide +kernel
theorem dL_errors_186 : decode cL_errors 186 = .ok (.iconst 1, 1) := by decide +kernel
theorem dL_errors_187 : decode cL_errors 187 = .ok (.bipush 10, 2) := by decide +kernel
theorem dL_errors_189 : decode cL_errors 189 = .ok (.invokevirtual 117, 3) := by decide +kernel
theorem dL_errors_192 : decode cL_errors 192 = .ok (.iload_n 2, 1) := by decide +kernel
theorem dL_errors_193 : decode cL_errors 193 = .ok (.if_icmp .ne 23, 3) := by decide +kernel
theorem dL_errors_196 : decode cL_errors 196 = .ok (.aload_n 0, 1) := by decide +kernel
theorem dL_errors_197 : decode cL_errors 197 = .ok (.iconst 0, 1) := by decide +kernel
theorem dL_errors_198 : decode cL_errors 198 = .ok (.iconst 5, 1) := by decide +kernel
theorem dL_errors_199 : decode cL_errors 199 = .ok (.bipush 10, 2) := by decide +kernel
theorem dL_errors_201 : decode cL_errors 201 = .ok (.bipush 21, 2) := by decide +kernel
theorem dL_errors_203 : decode cL_errors 203 = .ok (.bipush 10, 2) := by decide +kernel
theorem dL_errors_205 : decode cL_errors 205 = .ok (.invokevirtual 117, 3) := by decide +kernel
theorem dL_errors_208 : decode cL_errors 208 = .ok (.iload_n 2, 1) := by decide +kernel
theorem dL_errors_209 : decode cL_errors 209 = .ok (.if_icmp .ne 7, 3) := by decide +kernel
theorem dL_errors_212 : decode cL_errors 212 = .ok (.iconst 1, 1) := by decide +kernel
theorem dL_errors_213 : decode cL_errors 213 = .ok (.goto 4, 3) := by decide +kernel
theorem dL_errors_216 : decode cL_errors 216 = .ok (.iconst 0, 1) := by decide +kernel
theorem dL_errors_217 : decode cL_errors 217 = .ok (.istore 6, 2) := by decide +kernel
theorem dL_errors_219 : decode cL_errors 219 = .ok (.iload 6, 2) := by decide +kernel
theorem dL_errors_221 : decode cL_errors 221 = .ok (.ifCond .eq 179, 3) := by decide +kernel
theorem dL_errors_224 : decode cL_errors 224 = .ok (.aload_n 0, 1) := by decide +kernel
theorem dL_errors_225 : decode cL_errors 225 = .ok (.iload 5, 2) := by decide +kernel
theorem dL_errors_227 : decode cL_errors 227 = .ok (.iconst 1, 1) := by decide +kernel
theorem dL_errors_228 : decode cL_errors 228 = .ok (.invokevirtual 72, 3) := by decide +kernel
theorem dL_errors_231 : decode cL_errors 231 = .ok (.iload_n 1, 1) := by decide +kernel
theorem dL_errors_232 : decode cL_errors 232 = .ok (.if_icmp .ne 168, 3) := by decide +kernel
theorem dL_errors_235 : decode cL_errors 235 = .ok (.aload_n 0, 1) := by decide +kernel
theorem dL_errors_236 : decode cL_errors 236 = .ok (.iconst 0, 1) := by decide +kernel
theorem dL_errors_237 : decode cL_errors 237 = .ok (.sipush 1001, 3) := by decide +kernel
theorem dL_errors_240 : decode cL_errors 240 = .ok (.invokevirtual 72, 3) := by decide +kernel
theorem dL_errors_243 : decode cL_errors 243 = .ok (.iload_n 2, 1) := by decide +kernel
theorem dL_errors_244 : decode cL_errors 244 = .ok (.if_icmp .ne 156, 3) := by decide +kernel
theorem dL_errors_247 : decode cL_errors 247 = .ok (.aload_n 0, 1) := by decide +kernel
theorem dL_errors_248 : decode cL_errors 248 = .ok (.iload 5, 2) := by decide +kernel
theorem dL_errors_250 : decode cL_errors 250 = .ok (.iconst 1, 1) := by decide +kernel
theorem dL_errors_251 : decode cL_errors 251 = .ok (.invokevirtual 75, 3) := by decide +kernel
theorem dL_errors_254 : decode cL_errors 254 = .ok (.iload_n 1, 1) := by decide +kernel
theorem dL_errors_255 : decode cL_errors 255 = .ok (.if_icmp .ne 145, 3) := by decide +kernel
theorem dL_errors_258 : decode cL_errors 258 = .ok (.aload_n 0, 1) := by decide +kernel
theorem dL_errors_259 : decode cL_errors 259 = .ok (.iconst 0, 1) := by decide +kernel
theorem dL_errors_260 : decode cL_errors 260 = .ok (.sipush (-1001), 3) := by decide +kernel
theorem dL_errors_263 : decode cL_errors 263 = .ok (.invokevirtual 75, 3) := by decide +kernel
theorem dL_errors_266 : decode cL_errors 266 = .ok (.iload_n 2, 1) := by decide +kernel
theorem dL_errors_267 : decode cL_errors 267 = .ok (.if_icmp .ne 133, 3) := by decide +kernel
theorem dL_errors_270 : decode cL_errors 270 = .ok (.aload_n 0, 1) := by decide +kernel
theorem dL_errors_271 : decode cL_errors 271 = .ok (.iload 4, 2) := by decide +kernel
theorem dL_errors_273 : decode cL_errors 273 = .ok (.iconst 0, 1) := by decide +kernel
theorem dL_errors_274 : decode cL_errors 274 = .ok (.invokevirtual 56, 3) := by decide +kernel
theorem dL_errors_277 : decode cL_errors 277 = .ok (.iload_n 1, 1) := by decide +kernel
theorem dL_errors_278 : decode cL_errors 278 = .ok (.if_icmp .ne 122, 3) := by decide +kernel
theorem dL_errors_281 : decode cL_errors 281 = .ok (.aload_n 0, 1) := by decide +kernel
theorem dL_errors_282 : decode cL_errors 282 = .ok (.iconst 0, 1) := by decide +kernel
theorem dL_errors_283 : decode cL_errors 283 = .ok (.iconst 2, 1) := by decide +kernel
theorem dL_errors_284 : decode cL_errors 284 = .ok (.invokevirtual 63, 3) := by decide +kernel
theorem dL_errors_287 : decode cL_errors 287 = .ok (.iload_n 1, 1) := by decide +kernel
theorem dL_errors_288 : decode cL_errors 288 = .ok (.if_icmp .ne 112, 3) := by decide +kernel
theorem dL_errors_291 : decode cL_errors 291 = .ok (.aload_n 0, 1) := by decide +kernel
theorem dL_errors_292 : decode cL_errors 292 = .ok (.iload 4, 2) := by decide +kernel
theorem dL_errors_294 : decode cL_errors 294 = .ok (.invokevirtual 121, 3) := by decide +kernel
theorem dL_errors_297 : decode cL_errors 297 = .ok (.iload_n 1, 1) := by decide +kernel
theorem dL_errors_298 : decode cL_errors 298 = .ok (.if_icmp .ne 102, 3) := by decide +kernel
theorem dL_errors_301 : decode cL_errors 301 = .ok (.aload_n 0, 1) := by decide +kernel
theorem dL_errors_302 : decode cL_errors 302 = .ok (.iload 5, 2) := by decide +kernel
theorem dL_errors_304 : decode cL_errors 304 = .ok (.iconst 0, 1) := by decide +kernel
theorem dL_errors_305 : decode cL_errors 305 = .ok (.invokevirtual 66, 3) := by decide +kernel
theorem dL_errors_308 : decode cL_errors 308 = .ok (.iload_n 1, 1) := by decide +kernel
theorem dL_errors_309 : decode cL_errors 309 = .ok (.if_icmp .ne 91, 3) := by decide +kernel
theorem dL_errors_312 : decode cL_errors 312 = .ok (.aload_n 0, 1) := by decide +kernel
theorem dL_errors_313 : decode cL_errors 313 = .ok (.iconst 0, 1) := by decide +kernel
theorem dL_errors_314 : decode cL_errors 314 = .ok (.iload 4, 2) := by decide +kernel
theorem dL_errors_316 : decode cL_errors 316 = .ok (.invokevirtual 66, 3) := by decide +kernel
theorem dL_errors_319 : decode cL_errors 319 = .ok (.iload_n 1, 1) := by decide +kernel
theorem dL_errors_320 : decode cL_errors 320 = .ok (.if_icmp .ne 80, 3) := by decide +kernel
theorem dL_errors_323 : decode cL_errors 323 = .ok (.aload_n 0, 1) := by decide +kernel
theorem dL_errors_324 : decode cL_errors 324 = .ok (.iload 4, 2) := by decide +kernel
theorem dL_errors_326 : decode cL_errors 326 = .ok (.iconst 0, 1) := by decide +kernel
theorem dL_errors_327 : decode cL_errors 327 = .ok (.invokevirtual 69, 3) := by decide +kernel
theorem dL_errors_330 : decode cL_errors 330 = .ok (.iload_n 1, 1) := by decide +kernel
theorem dL_errors_331 : decode cL_errors 331 = .ok (.if_icmp .ne 69, 3) := by decide +kernel
theorem dL_errors_334 : decode cL_errors 334 = .ok (.aload_n 0, 1) := by decide +kernel
theorem dL_errors_335 : decode cL_errors 335 = .ok (.iload_n 3, 1) := by decide +kernel
theorem dL_errors_336 : decode cL_errors 336 = .ok (.iconst 0, 1) := by decide +kernel
theorem dL_errors_337 : decode cL_errors 337 = .ok (.invokevirtual 9, 3) := by decide +kernel
theorem dL_errors_340 : decode cL_errors 340 = .ok (.iload_n 1, 1) := by decide +kernel
theorem dL_errors_341 : decode cL_errors 341 = .ok (.if_icmp .ne 59, 3) := by decide +kernel
theorem dL_errors_344 : decode cL_errors 344 = .ok (.aload_n 0, 1) := by decide +kernel
theorem dL_errors_345 : decode cL_errors 345 = .ok (.iload 4, 2) := by decide +kernel
theorem dL_errors_347 : decode cL_errors 347 = .ok (.iconst 0, 1) := by decide +kernel
theorem dL_errors_348 : decode cL_errors 348 = .ok (.invokevirtual 15, 3) := by decide +kernel
theorem dL_errors_351 : decode cL_errors 351 = .ok (.iload_n 1, 1) := by decide +kernel
theorem dL_errors_352 : decode cL_errors 352 = .ok (.if_icmp .ne 48, 3) := by decide +kernel
theorem dL_errors_355 : decode cL_errors 355 = .ok (.aload_n 0, 1) := by decide +kernel
theorem dL_errors_356 : decode cL_errors 356 = .ok (.iload 4, 2) := by decide +kernel
theorem dL_errors_358 : decode cL_errors 358 = .ok (.iconst 0, 1) := by decide +kernel
theorem dL_errors_359 : decode cL_errors 359 = .ok (.invokevirtual 38, 3) := by decide +kernel
theorem dL_errors_362 : decode cL_errors 362 = .ok (.iload_n 1, 1) := by decide +kernel
theorem dL_errors_363 : decode cL_errors 363 = .ok (.if_icmp .ne 37, 3) := by decide +kernel
theorem dL_errors_366 : decode cL_errors 366 = .ok (.aload_n 0, 1) := by decide +kernel
theorem dL_errors_367 : decode cL_errors 367 = .ok (.iload 5, 2) := by decide +kernel
theorem dL_errors_369 : decode cL_errors 369 = .ok (.iconst 0, 1) := by decide +kernel
theorem dL_errors_370 : decode cL_errors 370 = .ok (.iconst 0, 1) := by decide +kernel
theorem dL_errors_371 : decode cL_errors 371 = .ok (.invokevirtual 52, 3) := by decide +kernel
theorem dL_errors_374 : decode cL_errors 374 = .ok (.iload_n 1, 1) := by decide +kernel
theorem dL_errors_375 : decode cL_errors 375 = .ok (.if_icmp .ne 25, 3) := by decide +kernel
theorem dL_errors_378 : decode cL_errors 378 = .ok (.aload_n 0, 1) := by decide +kernel
theorem dL_errors_379 : decode cL_errors 379 = .ok (.iconst 2, 1) := by decide +kernel
theorem dL_errors_380 : decode cL_errors 380 = .ok (.invokevirtual 124, 3) := by decide +kernel
theorem dL_errors_383 : decode cL_errors 383 = .ok (.iload_n 1, 1) := by decide +kernel
theorem dL_errors_384 : decode cL_errors 384 = .ok (.if_icmp .ne 16, 3) := by decide +kernel
theorem dL_errors_387 : decode cL_errors 387 = .ok (.aload_n 0, 1) := by decide +kernel
theorem dL_errors_388 : decode cL_errors 388 = .ok (.iconst 2, 1) := by decide +kernel
theorem dL_errors_389 : decode cL_errors 389 = .ok (.invokevirtual 127, 3) := by decide +kernel
theorem dL_errors_392 : decode cL_errors 392 = .ok (.iload_n 1, 1) := by decide +kernel
theorem dL_errors_393 : decode cL_errors 393 = .ok (.if_icmp .ne 7, 3) := by decide +kernel
theorem dL_errors_396 : decode cL_errors 396 = .ok (.iconst 1, 1) := by decide +kernel
theorem dL_errors_397 : decode cL_errors 397 = .ok (.goto 4, 3) := by decide +kernel
theorem dL_errors_400 : decode cL_errors 400 = .ok (.iconst 0, 1) := by decide +kernel
theorem dL_errors_401 : decode cL_errors 401 = .ok (.ireturn, 1) := by decide +kernel
theorem dL_law_0 : decode cL_law 0 = .ok (.new 10, 3) := by decide +kernel
theorem dL_law_3 : decode cL_law 3 = .ok (.dup, 1) := by decide +kernel
theorem dL_law_4 : decode cL_law 4 = .ok (.invokespecial 130, 3) := by decide +kernel
theorem dL_law_7 : decode cL_law 7 = .ok (.astore_n 1, 1) := by decide +kernel
theorem dL_law_8 : decode cL_law 8 = .ok (.aload_n 0, 1) := by decide +kernel
theorem dL_law_9 : decode cL_law 9 = .ok (.iconst 0, 1) := by decide +kernel
theorem dL_law_10 : decode cL_law 10 = .ok (.invokestatic 131, 3) := by decide +kernel
theorem dL_law_13 : decode cL_law 13 = .ok (.istore_n 2, 1) := by decide +kernel
theorem dL_law_14 : decode cL_law 14 = .ok (.aload_n 0, 1) := by decide +kernel
theorem dL_law_15 : decode cL_law 15 = .ok (.iconst 1, 1) := by decide +kernel
theorem dL_law_16 : decode cL_law 16 = .ok (.invokestatic 131, 3) := by decide +kernel
theorem dL_law_19 : decode cL_law 19 = .ok (.istore_n 3, 1) := by decide +kernel
theorem dL_law_20 : decode cL_law 20 = .ok (.aload_n 1, 1) := by decide +kernel
theorem dL_law_21 : decode cL_law 21 = .ok (.bipush 100, 2) := by decide +kernel
theorem dL_law_23 : decode cL_law 23 = .ok (.bipush 10, 2) := by decide +kernel
theorem dL_law_25 : decode cL_law 25 = .ok (.iconst 0, 1) := by decide +kernel
theorem dL_law_26 : decode cL_law 26 = .ok (.bipush 100, 2) := by decide +kernel
theorem dL_law_28 : decode cL_law 28 = .ok (.iconst 0, 1) := by decide +kernel
theorem dL_law_29 : decode cL_law 29 = .ok (.iconst 0, 1) := by decide +kernel
theorem dL_law_30 : decode cL_law 30 = .ok (.invokevirtual 100, 3) := by decide +kernel
theorem dL_law_33 : decode cL_law 33 = .ok (.ldc 99, 2) := by decide +kernel
theorem dL_law_35 : decode cL_law 35 = .ok (.if_icmp .ne 119, 3) := by decide +kernel
theorem dL_law_38 : decode cL_law 38 = .ok (.aload_n 1, 1) := by decide +kernel
theorem dL_law_39 : decode cL_law 39 = .ok (.sipush 500, 3) := by decide +kernel
theorem dL_law_42 : decode cL_law 42 = .ok (.iload_n 2, 1) := by decide +kernel
theorem dL_law_43 : decode cL_law 43 = .ok (.sipush 5000, 3) := by decide +kernel
theorem dL_law_46 : decode cL_law 46 = .ok (.invokestatic 135, 3) := by decide +kernel
theorem dL_law_49 : decode cL_law 49 = .ok (.iadd, 1) := by decide +kernel
theorem dL_law_50 : decode cL_law 50 = .ok (.iload_n 3, 1) := by decide +kernel
theorem dL_law_51 : decode cL_law 51 = .ok (.sipush 200, 3) := by decide +kernel
theorem dL_law_54 : decode cL_law 54 = .ok (.invokestatic 135, 3) := by decide +kernel
theorem dL_law_57 : decode cL_law 57 = .ok (.sipush 20000, 3) := by decide +kernel
theorem dL_law_60 : decode cL_law 60 = .ok (.iload_n 2, 1) := by decide +kernel
theorem dL_law_61 : decode cL_law 61 = .ok (.iconst 5, 1) := by decide +kernel
theorem dL_law_62 : decode cL_law 62 = .ok (.ishr, 1) := by decide +kernel
theorem dL_law_63 : decode cL_law 63 = .ok (.ldc 138, 2) := by decide +kernel
theorem dL_law_65 : decode cL_law 65 = .ok (.invokestatic 135, 3) := by decide +kernel
theorem dL_law_68 : decode cL_law 68 = .ok (.iadd, 1) := by decide +kernel
theorem dL_law_69 : decode cL_law 69 = .ok (.invokevirtual 96, 3) := by decide +kernel
theorem dL_law_72 : decode cL_law 72 = .ok (.ifCond .ne 82, 3) := by decide +kernel
theorem dL_law_75 : decode cL_law 75 = .ok (.aload_n 1, 1) := by decide +kernel
theorem dL_law_76 : decode cL_law 76 = .ok (.sipush 300, 3) := by decide +kernel
theorem dL_law_79 : decode cL_law 79 = .ok (.iload_n 3, 1) := by decide +kernel
theorem dL_law_80 : decode cL_law 80 = .ok (.sipush 600, 3) := by decide +kernel
theorem dL_law_83 : decode cL_law 83 = .ok (.invokestatic 135, 3) := by decide +kernel
theorem dL_law_86 : decode cL_law 86 = .ok (.iadd, 1) := by decide +kernel
theorem dL_law_87 : decode cL_law 87 = .ok (.bipush 60, 2) := by decide +kernel
theorem dL_law_89 : decode cL_law 89 = .ok (.iload_n 3, 1) := by decide +kernel
theorem dL_law_90 : decode cL_law 90 = .ok (.bipush 100, 2) := by decide +kernel
theorem dL_law_92 : decode cL_law 92 = .ok (.invokestatic 135, 3) := by decide +kernel
theorem dL_law_95 : decode cL_law 95 = .ok (.iadd, 1) := by decide +kernel
theorem dL_law_96 : decode cL_law 96 = .ok (.iload_n 2, 1) := by decide +kernel
theorem dL_law_97 : decode cL_law 97 = .ok (.sipush 150, 3) := by decide +kernel
theorem dL_law_100 : decode cL_law 100 = .ok (.invokestatic 135, 3) := by decide +kernel
theorem dL_law_103 : decode cL_law 103 = .ok (.sipush 500, 3) := by decide +kernel
theorem dL_law_106 : decode cL_law 106 = .ok (.iload_n 3, 1) := by decide +kernel
theorem dL_law_107 : decode cL_law 107 = .ok (.bipush 7, 2) := by decide +kernel
theorem dL_law_109 : decode cL_law 109 = .ok (.ishr, 1) := by decide +kernel
theorem dL_law_110 : decode cL_law 110 = .ok (.sipush 5000, 3) := by decide +kernel
theorem dL_law_113 : decode cL_law 113 = .ok (.invokestatic 135, 3) := by decide +kernel
theorem dL_law_116 : decode cL_law 116 = .ok (.iadd, 1) := by decide +kernel
theorem dL_law_117 : decode cL_law 117 = .ok (.sipush 200, 3) := by decide +kernel
theorem dL_law_120 : decode cL_law 120 = .ok (.sipush 30000, 3) := by decide +kernel
theorem dL_law_123 : decode cL_law 123 = .ok (.iload_n 3, 1) := by decide +kernel
theorem dL_law_124 : decode cL_law 124 = .ok (.iconst 3, 1) := by decide +kernel
theorem dL_law_125 : decode cL_law 125 = .ok (.ishr, 1) := by decide +kernel
theorem dL_law_126 : decode cL_law 126 = .ok (.ldc 138, 2) := by decide +kernel
theorem dL_law_128 : decode cL_law 128 = .ok (.invokestatic 135, 3) := by decide +kernel
theorem dL_law_131 : decode cL_law 131 = .ok (.iadd, 1) := by decide +kernel
theorem dL_law_132 : decode cL_law 132 = .ok (.invokevirtual 100, 3) := by decide +kernel
theorem dL_law_135 : decode cL_law 135 = .ok (.ifCond .ne 19, 3) := by decide +kernel
theorem dL_law_138 : decode cL_law 138 = .ok (.aload_n 1, 1) := by decide +kernel
theorem dL_law_139 : decode cL_law 139 = .ok (.iconst 0, 1) := by decide +kernel
theorem dL_law_140 : decode cL_law 140 = .ok (.bipush 10, 2) := by decide +kernel
theorem dL_law_142 : decode cL_law 142 = .ok (.bipush 30, 2) := by decide +kernel
theorem dL_law_144 : decode cL_law 144 = .ok (.iconst 5, 1) := by decide +kernel
theorem dL_law_145 : decode cL_law 145 = .ok (.sipush 200, 3) := by decide +kernel
theorem dL_law_148 : decode cL_law 148 = .ok (.invokevirtual 117, 3) := by decide +kernel
theorem dL_law_151 : decode cL_law 151 = .ok (.ifCond .eq 5, 3) := by decide +kernel
theorem dL_law_154 : decode cL_law 154 = .ok (.iconst 0, 1) := by decide +kernel
theorem dL_law_155 : decode cL_law 155 = .ok (.ireturn, 1) := by decide +kernel
theorem dL_law_156 : decode cL_law 156 = .ok (.iconst 0, 1) := by decide +kernel
theorem dL_law_157 : decode cL_law 157 = .ok (.istore 4, 2) := by decide +kernel
theorem dL_law_159 : decode cL_law 159 = .ok (.iload 4, 2) := by decide +kernel
theorem dL_law_161 : decode cL_law 161 = .ok (.bipush 44, 2) := by decide +kernel
theorem dL_law_163 : decode cL_law 163 = .ok (.if_icmp .ge 863, 3) := by decide +kernel
theorem dL_law_166 : decode cL_law 166 = .ok (.aload_n 0, 1) := by decide +kernel
theorem dL_law_167 : decode cL_law 167 = .ok (.iconst 2, 1) := by decide +kernel
theorem dL_law_168 : decode cL_law 168 = .ok (.iconst 2, 1) := by decide +kernel
theorem dL_law_169 : decode cL_law 169 = .ok (.iload 4, 2) := by decide +kernel
theorem dL_law_171 : decode cL_law 171 = .ok (.imul, 1) := by decide +kernel
theorem dL_law_172 : decode cL_law 172 = .ok (.iadd, 1) := by decide +kernel
theorem dL_law_173 : decode cL_law 173 = .ok (.invokestatic 131, 3) := by decide +kernel
theorem dL_law_176 : decode cL_law 176 = .ok (.istore 5, 2) := by decide +kernel
theorem dL_law_178 : decode cL_law 178 = .ok (.aload_n 0, 1) := by decide +kernel
theorem dL_law_179 : decode cL_law 179 = .ok (.iconst 3, 1) := by decide +kernel
theorem dL_law_180 : decode cL_law 180 = .ok (.iconst 2, 1) := by decide +kernel
theorem dL_law_181 : decode cL_law 181 = .ok (.iload 4, 2) := by decide +kernel
theorem dL_law_183 : decode cL_law 183 = .ok (.imul, 1) := by decide +kernel
theorem dL_law_184 : decode cL_law 184 = .ok (.iadd, 1) := by decide +kernel
theorem dL_law_185 : decode cL_law 185 = .ok (.invokestatic 131, 3) := by decide +kernel
theorem dL_law_188 : decode cL_law 188 = .ok (.istore 6, 2) := by decide +kernel
theorem dL_law_190 : decode cL_law 190 = .ok (.iload 5, 2) := by decide +kernel
theorem dL_law_192 : decode cL_law 192 = .ok (.bipush 18, 2) := by decide +kernel
theorem dL_law_194 : decode cL_law 194 = .ok (.invokestatic 135, 3) := by decide +kernel
theorem dL_law_197 : decode cL_law 197 = .ok (.istore 7, 2) := by decide +kernel
theorem dL_law_199 : decode cL_law 199 = .ok (.iload 5, 2) := by decide +kernel
theorem dL_law_201 : decode cL_law 201 = .ok (.iconst 5, 1) := by decide +kernel
theorem dL_law_202 : decode cL_law 202 = .ok (.ishr, 1) := by decide +kernel
theorem dL_law_203 : decode cL_law 203 = .ok (.istore 5, 2) := by decide +kernel
theorem dL_law_205 : decode cL_law 205 = .ok (.iload 5, 2) := by decide +kernel
theorem dL_law_207 : decode cL_law 207 = .ok (.aload_n 1, 1) := by decide +kernel
theorem dL_law_208 : decode cL_law 208 = .ok (.iconst 1, 1) := by decide +kernel
theorem dL_law_209 : decode cL_law 209 = .ok (.invokevirtual 18, 3) := by decide +kernel
theorem dL_law_212 : decode cL_law 212 = .ok (.invokestatic 135, 3) := by decide +kernel
theorem dL_law_215 : decode cL_law 215 = .ok (.istore 8, 2) := by decide +kernel
theorem dL_law_217 : decode cL_law 217 = .ok (.iload 6, 2) := by decide +kernel
theorem dL_law_219 : decode cL_law 219 = .ok (.iconst 1, 1) := by decide +kernel
theorem dL_law_220 : decode cL_law 220 = .ok (.iand, 1) := by decide +kernel
theorem dL_law_221 : decode cL_law 221 = .ok (.istore 9, 2) := by decide +kernel
theorem dL_law_223 : decode cL_law 223 = .ok (.iload 6, 2) := by decide +kernel
theorem dL_law_225 : decode cL_law 225 = .ok (.iconst 1, 1) := by decide +kernel
theorem dL_law_226 : decode cL_law 226 = .ok (.ishr, 1) := by decide +kernel
theorem dL_law_227 : decode cL_law 227 = .ok (.aload_n 1, 1) := by decide +kernel
theorem dL_law_228 : decode cL_law 228 = .ok (.iconst 2, 1) := by decide +kernel
theorem dL_law_229 : decode cL_law 229 = .ok (.invokevirtual 18, 3) := by decide +kernel
theorem dL_law_232 : decode cL_law 232 = .ok (.invokestatic 135, 3) := by decide +kernel
theorem dL_law_235 : decode cL_law 235 = .ok (.istore 10, 2) := by decide +kernel
theorem dL_law_237 : decode cL_law 237 = .ok (.iconst 1, 1) := by decide +kernel
theorem dL_law_238 : decode cL_law 238 = .ok (.istore 11, 2) := by decide +kernel
theorem dL_law_240 : decode cL_law 240 = .ok (.iload 7, 2) := by decide +kernel
theorem dL_law_242 : decode cL_law 242 = .ok (.ifCond .ne 101, 3) := by decide +kernel
theorem dL_law_245 : decode cL_law 245 = .ok (.aload_n 1, 1) := by decide +kernel
theorem dL_law_246 : decode cL_law 246 = .ok (.iconst 1, 1) := by decide +kernel
theorem dL_law_247 : decode cL_law 247 = .ok (.invokevirtual 18, 3) := by decide +kernel
theorem dL_law_250 : decode cL_law 250 = .ok (.istore 12, 2) := by decide +kernel
theorem dL_law_252 : decode cL_law 252 = .ok (.iload 12, 2) := by decide +kernel
theorem dL_law_254 : decode cL_law 254 = .ok (.iconst 2, 1) := by decide +kernel
theorem dL_law_255 : decode cL_law 255 = .ok (.if_icmp .gt 78, 3) := by decide +kernel
theorem dL_law_258 : decode cL_law 258 = .ok (.aload_n 1, 1) := by decide +kernel
theorem dL_law_259 : decode cL_law 259 = .ok (.sipush 300, 3) := by decide +kernel
theorem dL_law_262 : decode cL_law 262 = .ok (.iload 6, 2) := by decide +kernel
theorem dL_law_264 : decode cL_law 264 = .ok (.sipush 600, 3) := by decide +kernel
theorem dL_law_267 : decode cL_law 267 = .ok (.invokestatic 135, 3) := by decide +kernel
theorem dL_law_270 : decode cL_law 270 = .ok (.iadd, 1) := by decide +kernel
theorem dL_law_271 : decode cL_law 271 = .ok (.bipush 60, 2) := by decide +kernel
theorem dL_law_273 : decode cL_law 273 = .ok (.iload 6, 2) := by decide +kernel
theorem dL_law_275 : decode cL_law 275 = .ok (.iconst 4, 1) := by decide +kernel
theorem dL_law_276 : decode cL_law 276 = .ok (.ishr, 1) := by decide +kernel
theorem dL_law_277 : decode cL_law 277 = .ok (.bipush 100, 2) := by decide +kernel
theorem dL_law_279 : decode cL_law 279 = .ok (.invokestatic 135, 3) := by decide +kernel
theorem dL_law_282 : decode cL_law 282 = .ok (.iadd, 1) := by decide +kernel
theorem dL_law_283 : decode cL_law 283 = .ok (.iload 5, 2) := by decide +kernel
theorem dL_law_285 : decode cL_law 285 = .ok (.sipush 300, 3) := by decide +kernel
theorem dL_law_288 : decode cL_law 288 = .ok (.invokestatic 135, 3) := by decide +kernel
theorem dL_law_291 : decode cL_law 291 = .ok (.sipush 500, 3) := by decide +kernel
theorem dL_law_294 : decode cL_law 294 = .ok (.iload 6, 2) := by decide +kernel
theorem dL_law_296 : decode cL_law 296 = .ok (.bipush 9, 2) := by decide +kernel
theorem dL_law_298 : decode cL_law 298 = .ok (.ishr, 1) := by decide +kernel
theorem dL_law_299 : decode cL_law 299 = .ok (.sipush 5000, 3) := by decide +kernel
theorem dL_law_302 : decode cL_law 302 = .ok (.invokestatic 135, 3) := by decide +kernel
theorem dL_law_305 : decode cL_law 305 = .ok (.iadd, 1) := by decide +kernel
theorem dL_law_306 : decode cL_law 306 = .ok (.iload 5, 2) := by decide +kernel
theorem dL_law_308 : decode cL_law 308 = .ok (.iconst 3, 1) := by decide +kernel
theorem dL_law_309 : decode cL_law 309 = .ok (.ishr, 1) := by decide +kernel
theorem dL_law_310 : decode cL_law 310 = .ok (.sipush 400, 3) := by decide +kernel
theorem dL_law_313 : decode cL_law 313 = .ok (.invokestatic 135, 3) := by decide +kernel
theorem dL_law_316 : decode cL_law 316 = .ok (.iload 6, 2) := by decide +kernel
theorem dL_law_318 : decode cL_law 318 = .ok (.iconst 2, 1) := by decide +kernel
theorem dL_law_319 : decode cL_law 319 = .ok (.ishr, 1) := by decide +kernel
theorem dL_law_320 : decode cL_law 320 = .ok (.ldc 139, 2) := by decide +kernel
theorem dL_law_322 : decode cL_law 322 = .ok (.invokestatic 135, 3) := by decide +kernel
theorem dL_law_325 : decode cL_law 325 = .ok (.invokevirtual 100, 3) := by decide +kernel
theorem dL_law_328 : decode cL_law 328 = .ok (.iload 12, 2) := by decide +kernel
theorem dL_law_330 : decode cL_law 330 = .ok (.if_icmp .ne 7, 3) := by decide +kernel
theorem dL_law_333 : decode cL_law 333 = .ok (.iconst 1, 1) := by decide +kernel
theorem dL_law_334 : decode cL_law 334 = .ok (.goto 4, 3) := by decide +kernel
theorem dL_law_337 : decode cL_law 337 = .ok (.iconst 0, 1) := by decide +kernel
theorem dL_law_338 : decode cL_law 338 = .ok (.istore 11, 2) := by decide +kernel
theorem dL_law_340 : decode cL_law 340 = .ok (.goto 659, 3) := by decide +kernel
theorem dL_law_343 : decode cL_law 343 = .ok (.iload 7, 2) := by decide +kernel
theorem dL_law_345 : decode cL_law 345 = .ok (.iconst 1, 1) := by decide +kernel
theorem dL_law_346 : decode cL_law 346 = .ok (.if_icmp .ne 99, 3) := by decide +kernel
theorem dL_law_349 : decode cL_law 349 = .ok (.aload_n 1, 1) := by decide +kernel
theorem dL_law_350 : decode cL_law 350 = .ok (.iconst 2, 1) := by decide +kernel
theorem dL_law_351 : decode cL_law 351 = .ok (.invokevirtual 18, 3) := by decide +kernel
theorem dL_law_354 : decode cL_law 354 = .ok (.istore 12, 2) := by decide +kernel
theorem dL_law_356 : decode cL_law 356 = .ok (.aload_n 1, 1) := by decide +kernel
theorem dL_law_357 : decode cL_law 357 = .ok (.iload 5, 2) := by decide +kernel
theorem dL_law_359 : decode cL_law 359 = .ok (.aload_n 1, 1) := by decide +kernel
theorem dL_law_360 : decode cL_law 360 = .ok (.iconst 0, 1) := by decide +kernel
theorem dL_law_361 : decode cL_law 361 = .ok (.invokevirtual 18, 3) := by decide +kernel
theorem dL_law_364 : decode cL_law 364 = .ok (.invokestatic 135, 3) := by decide +kernel
theorem dL_law_367 : decode cL_law 367 = .ok (.iconst 5, 1) := by decide +kernel
theorem dL_law_368 : decode cL_law 368 = .ok (.iload 6, 2) := by decide +kernel
theorem dL_law_370 : decode cL_law 370 = .ok (.bipush 56, 2) := by decide +kernel
theorem dL_law_372 : decode cL_law 372 = .ok (.invokestatic 135, 3) := by decide +kernel
theorem dL_law_375 : decode cL_law 375 = .ok (.iadd, 1) := by decide +kernel
theorem dL_law_376 : decode cL_law 376 = .ok (.bipush 10, 2) := by decide +kernel
theorem dL_law_378 : decode cL_law 378 = .ok (.iload 6, 2) := by decide +kernel
theorem dL_law_380 : decode cL_law 380 = .ok (.bipush 6, 2) := by decide +kernel
theorem dL_law_382 : decode cL_law 382 = .ok (.ishr, 1) := by decide +kernel
theorem dL_law_383 : decode cL_law 383 = .ok (.sipush 200, 3) := by decide +kernel
theorem dL_law_386 : decode cL_law 386 = .ok (.invokestatic 135, 3) := by decide +kernel
theorem dL_law_389 : decode cL_law 389 = .ok (.iadd, 1) := by decide +kernel
theorem dL_law_390 : decode cL_law 390 = .ok (.iconst 1, 1) := by decide +kernel
theorem dL_law_391 : decode cL_law 391 = .ok (.iload 6, 2) := by decide +kernel
theorem dL_law_393 : decode cL_law 393 = .ok (.bipush 11, 2) := by decide +kernel
theorem dL_law_395 : decode cL_law 395 = .ok (.ishr, 1) := by decide +kernel
theorem dL_law_396 : decode cL_law 396 = .ok (.bipush 20, 2) := by decide +kernel
theorem dL_law_398 : decode cL_law 398 = .ok (.invokestatic 135, 3) := by decide +kernel
theorem dL_law_401 : decode cL_law 401 = .ok (.iadd, 1) := by decide +kernel
theorem dL_law_402 : decode cL_law 402 = .ok (.bipush 10, 2) := by decide +kernel
theorem dL_law_404 : decode cL_law 404 = .ok (.iload 5, 2) := by decide +kernel
theorem dL_law_406 : decode cL_law 406 = .ok (.iconst 3, 1) := by decide +kernel
theorem dL_law_407 : decode cL_law 407 = .ok (.ishr, 1) := by decide +kernel
theorem dL_law_408 : decode cL_law 408 = .ok (.sipush 900, 3) := by decide +kernel
theorem dL_law_411 : decode cL_law 411 = .ok (.invokestatic 135, 3) := by decide +kernel
theorem dL_law_414 : decode cL_law 414 = .ok (.iadd, 1) := by decide +kernel
theorem dL_law_415 : decode cL_law 415 = .ok (.invokevirtual 117, 3) := by decide +kernel
theorem dL_law_418 : decode cL_law 418 = .ok (.iload 12, 2) := by decide +kernel
theorem dL_law_420 : decode cL_law 420 = .ok (.bipush 12, 2) := by decide +kernel
theorem dL_law_422 : decode cL_law 422 = .ok (.if_icmp .ne 8, 3) := by decide +kernel
theorem dL_law_425 : decode cL_law 425 = .ok (.ldc 99, 2) := by decide +kernel
theorem dL_law_427 : decode cL_law 427 = .ok (.goto 5, 3) := by decide +kernel
theorem dL_law_430 : decode cL_law 430 = .ok (.iload 12, 2) := by decide +kernel
theorem dL_law_432 : decode cL_law 432 = .ok (.if_icmp .ne 7, 3) := by decide +kernel
theorem dL_law_435 : decode cL_law 435 = .ok (.iconst 1, 1) := by decide +kernel
theorem dL_law_436 : decode cL_law 436 = .ok (.goto 4, 3) := by decide +kernel
theorem dL_law_439 : decode cL_law 439 = .ok (.iconst 0, 1) := by decide +kernel
theorem dL_law_440 : decode cL_law 440 = .ok (.istore 11, 2) := by decide +kernel
theorem dL_law_442 : decode cL_law 442 = .ok (.goto 557, 3) := by decide +kernel
theorem dL_law_445 : decode cL_law 445 = .ok (.iload 7, 2) := by decide +kernel
theorem dL_law_447 : decode cL_law 447 = .ok (.iconst 2, 1) := by decide +kernel
theorem dL_law_448 : decode cL_law 448 = .ok (.if_icmp .ne 53, 3) := by decide +kernel
theorem dL_law_451 : decode cL_law 451 = .ok (.aload_n 1, 1) := by decide +kernel
theorem dL_law_452 : decode cL_law 452 = .ok (.bipush 6, 2) := by decide +kernel
theorem dL_law_454 : decode cL_law 454 = .ok (.invokevirtual 18, 3) := by decide +kernel
theorem dL_law_457 : decode cL_law 457 = .ok (.istore 12, 2) := by decide +kernel
theorem dL_law_459 : decode cL_law 459 = .ok (.aload_n 1, 1) := by decide +kernel
theorem dL_law_460 : decode cL_law 460 = .ok (.iload 6, 2) := by decide +kernel
theorem dL_law_462 : decode cL_law 462 = .ok (.bipush 51, 2) := by decide +kernel
theorem dL_law_464 : decode cL_law 464 = .ok (.invokestatic 135, 3) := by decide +kernel
theorem dL_law_467 : decode cL_law 467 = .ok (.invokevirtual 107, 3) := by decide +kernel
theorem dL_law_470 : decode cL_law 470 = .ok (.iload 12, 2) := by decide +kernel
theorem dL_law_472 : decode cL_law 472 = .ok (.if_icmp .ne 23, 3) := by decide +kernel
theorem dL_law_475 : decode cL_law 475 = .ok (.aload_n 1, 1) := by decide +kernel
theorem dL_law_476 : decode cL_law 476 = .ok (.bipush 6, 2) := by decide +kernel
theorem dL_law_478 : decode cL_law 478 = .ok (.invokevirtual 18, 3) := by decide +kernel
theorem dL_law_481 : decode cL_law 481 = .ok (.iload 6, 2) := by decide +kernel
theorem dL_law_483 : decode cL_law 483 = .ok (.bipush 51, 2) := by decide +kernel
theorem dL_law_485 : decode cL_law 485 = .ok (.invokestatic 135, 3) := by decide +kernel
theorem dL_law_488 : decode cL_law 488 = .ok (.if_icmp .ne 7, 3) := by decide +kernel
theorem dL_law_491 : decode cL_law 491 = .ok (.iconst 1, 1) := by decide +kernel
theorem dL_law_492 : decode cL_law 492 = .ok (.goto 4, 3) := by decide +kernel
theorem dL_law_495 : decode cL_law 495 = .ok (.iconst 0, 1) := by decide +kernel
theorem dL_law_496 : decode cL_law 496 = .ok (.istore 11, 2) := by decide +kernel
theorem dL_law_498 : decode cL_law 498 = .ok (.goto 501, 3) := by decide +kernel
theorem dL_law_501 : decode cL_law 501 = .ok (.iload 7, 2) := by decide +kernel
theorem dL_law_503 : decode cL_law 503 = .ok (.iconst 3, 1) := by decide +kernel
theorem dL_law_504 : decode cL_law 504 = .ok (.if_icmp .ne 76, 3) := by decide +kernel
theorem dL_law_507 : decode cL_law 507 = .ok (.aload_n 1, 1) := by decide +kernel
theorem dL_law_508 : decode cL_law 508 = .ok (.iload 8, 2) := by decide +kernel
theorem dL_law_510 : decode cL_law 510 = .ok (.iload 9, 2) := by decide +kernel
theorem dL_law_512 : decode cL_law 512 = .ok (.invokevirtual 110, 3) := by decide +kernel
theorem dL_law_515 : decode cL_law 515 = .ok (.istore 12, 2) := by decide +kernel
theorem dL_law_517 : decode cL_law 517 = .ok (.iload 12, 2) := by decide +kernel
theorem dL_law_519 : decode cL_law 519 = .ok (.ldc 41, 2) := by decide +kernel
theorem dL_law_521 : decode cL_law 521 = .ok (.if_icmp .eq 8, 3) := by decide +kernel
theorem dL_law_524 : decode cL_law 524 = .ok (.iload 12, 2) := by decide +kernel
theorem dL_law_526 : decode cL_law 526 = .ok (.ifCond .le 48, 3) := by decide +kernel
theorem dL_law_529 : decode cL_law 529 = .ok (.aload_n 1, 1) := by decide +kernel
theorem dL_law_530 : decode cL_law 530 = .ok (.iload 8, 2) := by decide +kernel
theorem dL_law_532 : decode cL_law 532 = .ok (.iload 9, 2) := by decide +kernel
theorem dL_law_534 : decode cL_law 534 = .ok (.iload 6, 2) := by decide +kernel
theorem dL_law_536 : decode cL_law 536 = .ok (.sipush 200, 3) := by decide +kernel
theorem dL_law_539 : decode cL_law 539 = .ok (.invokestatic 135, 3) := by decide +kernel
theorem dL_law_542 : decode cL_law 542 = .ok (.invokevirtual 104, 3) := by decide +kernel
theorem dL_law_545 : decode cL_law 545 = .ok (.ifCond .lt 29, 3) := by decide +kernel
theorem dL_law_548 : decode cL_law 548 = .ok (.aload_n 1, 1) := by decide +kernel
theorem dL_law_549 : decode cL_law 549 = .ok (.iload 8, 2) := by decide +kernel
theorem dL_law_551 : decode cL_law 551 = .ok (.bipush 9, 2) := by decide +kernel
theorem dL_law_553 : decode cL_law 553 = .ok (.iload 9, 2) := by decide +kernel
theorem dL_law_555 : decode cL_law 555 = .ok (.iadd, 1) := by decide +kernel
theorem dL_law_556 : decode cL_law 556 = .ok (.invokevirtual 15, 3) := by decide +kernel
theorem dL_law_559 : decode cL_law 559 = .ok (.iload 6, 2) := by decide +kernel
theorem dL_law_561 : decode cL_law 561 = .ok (.sipush 200, 3) := by decide +kernel
theorem dL_law_564 : decode cL_law 564 = .ok (.invokestatic 135, 3) := by decide +kernel
theorem dL_law_567 : decode cL_law 567 = .ok (.if_icmp .ne 7, 3) := by decide +kernel
theorem dL_law_570 : decode cL_law 570 = .ok (.iconst 1, 1) := by decide +kernel
theorem dL_law_571 : decode cL_law 571 = .ok (.goto 4, 3) := by decide +kernel
theorem dL_law_574 : decode cL_law 574 = .ok (.iconst 0, 1) := by decide +kernel
theorem dL_law_575 : decode cL_law 575 = .ok (.istore 11, 2) := by decide +kernel
theorem dL_law_577 : decode cL_law 577 = .ok (.goto 422, 3) := by decide +kernel
theorem dL_law_580 : decode cL_law 580 = .ok (.iload 7, 2) := by decide +kernel
theorem dL_law_582 : decode cL_law 582 = .ok (.iconst 4, 1) := by decide +kernel
theorem dL_law_583 : decode cL_law 583 = .ok (.if_icmp .ne 103, 3) := by decide +kernel
theorem dL_law_586 : decode cL_law 586 = .ok (.iload 5, 2) := by decide +kernel
theorem dL_law_588 : decode cL_law 588 = .ok (.aload_n 1, 1) := by decide +kernel
theorem dL_law_589 : decode cL_law 589 = .ok (.iconst 0, 1) := by decide +kernel
theorem dL_law_590 : decode cL_law 590 = .ok (.invokevirtual 18, 3) := by decide +kernel
theorem dL_law_593 : decode cL_law 593 = .ok (.invokestatic 135, 3) := by decide +kernel
theorem dL_law_596 : decode cL_law 596 = .ok (.istore 12, 2) := by decide +kernel
theorem dL_law_598 : decode cL_law 598 = .ok (.iload 6, 2) := by decide +kernel
theorem dL_law_600 : decode cL_law 600 = .ok (.ldc 140, 2) := by decide +kernel
theorem dL_law_602 : decode cL_law 602 = .ok (.invokestatic 135, 3) := by decide +kernel
theorem dL_law_605 : decode cL_law 605 = .ok (.sipush 20000, 3) := by decide +kernel
theorem dL_law_608 : decode cL_law 608 = .ok (.isub, 1) := by decide +kernel
theorem dL_law_609 : decode cL_law 609 = .ok (.istore 13, 2) := by decide +kernel
theorem dL_law_611 : decode cL_law 611 = .ok (.aload_n 1, 1) := by decide +kernel
theorem dL_law_612 : decode cL_law 612 = .ok (.iload 12, 2) := by decide +kernel
theorem dL_law_614 : decode cL_law 614 = .ok (.iconst 1, 1) := by decide +kernel
theorem dL_law_615 : decode cL_law 615 = .ok (.invokevirtual 9, 3) := by decide +kernel
theorem dL_law_618 : decode cL_law 618 = .ok (.istore 14, 2) := by decide +kernel
theorem dL_law_620 : decode cL_law 620 = .ok (.aload_n 1, 1) := by decide +kernel
theorem dL_law_621 : decode cL_law 621 = .ok (.iload 12, 2) := by decide +kernel
theorem dL_law_623 : decode cL_law 623 = .ok (.iload 13, 2) := by decide +kernel
theorem dL_law_625 : decode cL_law 625 = .ok (.invokevirtual 113, 3) := by decide +kernel
theorem dL_law_628 : decode cL_law 628 = .ok (.istore 15, 2) := by decide +kernel
theorem dL_law_630 : decode cL_law 630 = .ok (.iload 14, 2) := by decide +kernel
theorem dL_law_632 : decode cL_law 632 = .ok (.iload 13, 2) := by decide +kernel
theorem dL_law_634 : decode cL_law 634 = .ok (.iadd, 1) := by decide +kernel
theorem dL_law_635 : decode cL_law 635 = .ok (.ifCond .ge 29, 3) := by decide +kernel
theorem dL_law_638 : decode cL_law 638 = .ok (.iload 15, 2) := by decide +kernel
theorem dL_law_640 : decode cL_law 640 = .ok (.ldc 59, 2) := by decide +kernel
theorem dL_law_642 : decode cL_law 642 = .ok (.if_icmp .ne 18, 3) := by decide +kernel
theorem dL_law_645 : decode cL_law 645 = .ok (.aload_n 1, 1) := by decide +kernel
theorem dL_law_646 : decode cL_law 646 = .ok (.bipush 7, 2) := by decide +kernel
theorem dL_law_648 : decode cL_law 648 = .ok (.invokevirtual 18, 3) := by decide +kernel
theorem dL_law_651 : decode cL_law 651 = .ok (.bipush 8, 2) := by decide +kernel
theorem dL_law_653 : decode cL_law 653 = .ok (.if_icmp .ne 7, 3) := by decide +kernel
theorem dL_law_656 : decode cL_law 656 = .ok (.iconst 1, 1) := by decide +kernel
theorem dL_law_657 : decode cL_law 657 = .ok (.goto 24, 3) := by decide +kernel
theorem dL_law_660 : decode cL_law 660 = .ok (.iconst 0, 1) := by decide +kernel
theorem dL_law_661 : decode cL_law 661 = .ok (.goto 20, 3) := by decide +kernel
theorem dL_law_664 : decode cL_law 664 = .ok (.iload 15, 2) := by decide +kernel
theorem dL_law_666 : decode cL_law 666 = .ok (.aload_n 1, 1) := by decide +kernel
theorem dL_law_667 : decode cL_law 667 = .ok (.iload 12, 2) := by decide +kernel
theorem dL_law_669 : decode cL_law 669 = .ok (.iconst 0, 1) := by decide +kernel
theorem dL_law_670 : decode cL_law 670 = .ok (.invokevirtual 9, 3) := by decide +kernel
theorem dL_law_673 : decode cL_law 673 = .ok (.if_icmp .ne 7, 3) := by decide +kernel
theorem dL_law_676 : decode cL_law 676 = .ok (.iconst 1, 1) := by decide +kernel
theorem dL_law_677 : decode cL_law 677 = .ok (.goto 4, 3) := by decide +kernel
theorem dL_law_680 : decode cL_law 680 = .ok (.iconst 0, 1) := by decide +kernel
theorem dL_law_681 : decode cL_law 681 = .ok (.istore 11, 2) := by decide +kernel
theorem dL_law_683 : decode cL_law 683 = .ok (.goto 316, 3) := by decide +kernel
theorem dL_law_686 : decode cL_law 686 = .ok (.iload 7, 2) := by decide +kernel
theorem dL_law_688 : decode cL_law 688 = .ok (.bipush 7, 2) := by decide +kernel
theorem dL_law_690 : decode cL_law 690 = .ok (.if_icmp .ge 16, 3) := by decide +kernel
theorem dL_law_693 : decode cL_law 693 = .ok (.aload_n 1, 1) := by decide +kernel
theorem dL_law_694 : decode cL_law 694 = .ok (.iload 8, 2) := by decide +kernel
theorem dL_law_696 : decode cL_law 696 = .ok (.iload 9, 2) := by decide +kernel
theorem dL_law_698 : decode cL_law 698 = .ok (.invokestatic 141, 3) := by decide +kernel
theorem dL_law_701 : decode cL_law 701 = .ok (.istore 11, 2) := by decide +kernel
theorem dL_law_703 : decode cL_law 703 = .ok (.goto 296, 3) := by decide +kernel
theorem dL_law_706 : decode cL_law 706 = .ok (.iload 7, 2) := by decide +kernel
theorem dL_law_708 : decode cL_law 708 = .ok (.bipush 9, 2) := by decide +kernel
theorem dL_law_710 : decode cL_law 710 = .ok (.if_icmp .ge 35, 3) := by decide +kernel
theorem dL_law_713 : decode cL_law 713 = .ok (.aload_n 1, 1) := by decide +kernel
theorem dL_law_714 : decode cL_law 714 = .ok (.iload 8, 2) := by decide +kernel
theorem dL_law_716 : decode cL_law 716 = .ok (.iload 9, 2) := by decide +kernel
theorem dL_law_718 : decode cL_law 718 = .ok (.invokestatic 141, 3) := by decide +kernel
theorem dL_law_721 : decode cL_law 721 = .ok (.ifCond .eq 18, 3) := by decide +kernel
theorem dL_law_724 : decode cL_law 724 = .ok (.aload_n 1, 1) := by decide +kernel
theorem dL_law_725 : decode cL_law 725 = .ok (.iload 8, 2) := by decide +kernel
theorem dL_law_727 : decode cL_law 727 = .ok (.iload 9, 2) := by decide +kernel
theorem dL_law_729 : decode cL_law 729 = .ok (.invokestatic 145, 3) := by decide +kernel
theorem dL_law_732 : decode cL_law 732 = .ok (.ifCond .eq 7, 3) := by decide +kernel
theorem dL_law_735 : decode cL_law 735 = .ok (.iconst 1, 1) := by decide +kernel
theorem dL_law_736 : decode cL_law 736 = .ok (.goto 4, 3) := by decide +kernel
theorem dL_law_739 : decode cL_law 739 = .ok (.iconst 0, 1) := by decide +kernel
theorem dL_law_740 : decode cL_law 740 = .ok (.istore 11, 2) := by decide +kernel
theorem dL_law_742 : decode cL_law 742 = .ok (.goto 257, 3) := by decide +kernel
theorem dL_law_745 : decode cL_law 745 = .ok (.iload 7, 2) := by decide +kernel
theorem dL_law_747 : decode cL_law 747 = .ok (.bipush 9, 2) := by decide +kernel
theorem dL_law_749 : decode cL_law 749 = .ok (.if_icmp .ne 57, 3) := by decide +kernel
theorem dL_law_752 : decode cL_law 752 = .ok (.aload_n 1, 1) := by decide +kernel
theorem dL_law_753 : decode cL_law 753 = .ok (.iload 8, 2) := by decide +kernel
theorem dL_law_755 : decode cL_law 755 = .ok (.bipush 8, 2) := by decide +kernel
theorem dL_law_757 : decode cL_law 757 = .ok (.invokevirtual 15, 3) := by decide +kernel
theorem dL_law_760 : decode cL_law 760 = .ok (.istore 12, 2) := by decide +kernel
theorem dL_law_762 : decode cL_law 762 = .ok (.aload_n 1, 1) := by decide +kernel
theorem dL_law_763 : decode cL_law 763 = .ok (.iload 8, 2) := by decide +kernel
theorem dL_law_765 : decode cL_law 765 = .ok (.invokevirtual 121, 3) := by decide +kernel
theorem dL_law_768 : decode cL_law 768 = .ok (.iload 12, 2) := by decide +kernel
theorem dL_law_770 : decode cL_law 770 = .ok (.ifCond .ge 8, 3) := by decide +kernel
theorem dL_law_773 : decode cL_law 773 = .ok (.ldc 59, 2) := by decide +kernel
theorem dL_law_775 : decode cL_law 775 = .ok (.goto 5, 3) := by decide +kernel
theorem dL_law_778 : decode cL_law 778 = .ok (.iload 12, 2) := by decide +kernel
theorem dL_law_780 : decode cL_law 780 = .ok (.if_icmp .ne 20, 3) := by decide +kernel
theorem dL_law_783 : decode cL_law 783 = .ok (.aload_n 1, 1) := by decide +kernel
theorem dL_law_784 : decode cL_law 784 = .ok (.iload 8, 2) := by decide +kernel
theorem dL_law_786 : decode cL_law 786 = .ok (.bipush 8, 2) := by decide +kernel
theorem dL_law_788 : decode cL_law 788 = .ok (.invokevirtual 15, 3) := by decide +kernel
theorem dL_law_791 : decode cL_law 791 = .ok (.ldc 41, 2) := by decide +kernel
theorem dL_law_793 : decode cL_law 793 = .ok (.if_icmp .ne 7, 3) := by decide +kernel
theorem dL_law_796 : decode cL_law 796 = .ok (.iconst 1, 1) := by decide +kernel
theorem dL_law_797 : decode cL_law 797 = .ok (.goto 4, 3) := by decide +kernel
theorem dL_law_800 : decode cL_law 800 = .ok (.iconst 0, 1) := by decide +kernel
theorem dL_law_801 : decode cL_law 801 = .ok (.istore 11, 2) := by decide +kernel
theorem dL_law_803 : decode cL_law 803 = .ok (.goto 196, 3) := by decide +kernel
theorem dL_law_806 : decode cL_law 806 = .ok (.iload 7, 2) := by decide +kernel
theorem dL_law_808 : decode cL_law 808 = .ok (.bipush 12, 2) := by decide +kernel
theorem dL_law_810 : decode cL_law 810 = .ok (.if_icmp .ge 16, 3) := by decide +kernel
theorem dL_law_813 : decode cL_law 813 = .ok (.aload_n 1, 1) := by decide +kernel
theorem dL_law_814 : decode cL_law 814 = .ok (.iload 10, 2) := by decide +kernel
theorem dL_law_816 : decode cL_law 816 = .ok (.iload 8, 2) := by decide +kernel
theorem dL_law_818 : decode cL_law 818 = .ok (.invokestatic 148, 3) := by decide +kernel
theorem dL_law_821 : decode cL_law 821 = .ok (.istore 11, 2) := by decide +kernel
theorem dL_law_823 : decode cL_law 823 = .ok (.goto 176, 3) := by decide +kernel
theorem dL_law_826 : decode cL_law 826 = .ok (.iload 7, 2) := by decide +kernel
theorem dL_law_828 : decode cL_law 828 = .ok (.bipush 14, 2) := by decide +kernel
theorem dL_law_830 : decode cL_law 830 = .ok (.if_icmp .ge 16, 3) := by decide +kernel
theorem dL_law_833 : decode cL_law 833 = .ok (.aload_n 1, 1) := by decide +kernel
theorem dL_law_834 : decode cL_law 834 = .ok (.iload 8, 2) := by decide +kernel
theorem dL_law_836 : decode cL_law 836 = .ok (.iload 9, 2) := by decide +kernel
theorem dL_law_838 : decode cL_law 838 = .ok (.invokestatic 151, 3) := by decide +kernel
theorem dL_law_841 : decode cL_law 841 = .ok (.istore 11, 2) := by decide +kernel
theorem dL_law_843 : decode cL_law 843 = .ok (.goto 156, 3) := by decide +kernel
theorem dL_law_846 : decode cL_law 846 = .ok (.iload 7, 2) := by decide +kernel
theorem dL_law_848 : decode cL_law 848 = .ok (.bipush 14, 2) := by decide +kernel
theorem dL_law_850 : decode cL_law 850 = .ok (.if_icmp .ne 43, 3) := by decide +kernel
theorem dL_law_853 : decode cL_law 853 = .ok (.iload 5, 2) := by decide +kernel
theorem dL_law_855 : decode cL_law 855 = .ok (.sipush 301, 3) := by decide +kernel
theorem dL_law_858 : decode cL_law 858 = .ok (.invokestatic 135, 3) := by decide +kernel
theorem dL_law_861 : decode cL_law 861 = .ok (.bipush 100, 2) := by decide +kernel
theorem dL_law_863 : decode cL_law 863 = .ok (.isub, 1) := by decide +kernel
theorem dL_law_864 : decode cL_law 864 = .ok (.istore 12, 2) := by decide +kernel
theorem dL_law_866 : decode cL_law 866 = .ok (.iload 12, 2) := by decide +kernel
theorem dL_law_868 : decode cL_law 868 = .ok (.ifCond .eq 15, 3) := by decide +kernel
theorem dL_law_871 : decode cL_law 871 = .ok (.aload_n 1, 1) := by decide +kernel
theorem dL_law_872 : decode cL_law 872 = .ok (.iload 10, 2) := by decide +kernel
theorem dL_law_874 : decode cL_law 874 = .ok (.iload 12, 2) := by decide +kernel
theorem dL_law_876 : decode cL_law 876 = .ok (.iconst 1, 1) := by decide +kernel
theorem dL_law_877 : decode cL_law 877 = .ok (.invokestatic 154, 3) := by decide +kernel
theorem dL_law_880 : decode cL_law 880 = .ok (.ifCond .eq 7, 3) := by decide +kernel
theorem dL_law_883 : decode cL_law 883 = .ok (.iconst 1, 1) := by decide +kernel
theorem dL_law_884 : decode cL_law 884 = .ok (.goto 4, 3) := by decide +kernel
theorem dL_law_887 : decode cL_law 887 = .ok (.iconst 0, 1) := by decide +kernel
theorem dL_law_888 : decode cL_law 888 = .ok (.istore 11, 2) := by decide +kernel
theorem dL_law_890 : decode cL_law 890 = .ok (.goto 109, 3) := by decide +kernel
theorem dL_law_893 : decode cL_law 893 = .ok (.iload 7, 2) := by decide +kernel
theorem dL_law_895 : decode cL_law 895 = .ok (.bipush 15, 2) := by decide +kernel
theorem dL_law_897 : decode cL_law 897 = .ok (.if_icmp .ne 43, 3) := by decide +kernel
theorem dL_law_900 : decode cL_law 900 = .ok (.iload 5, 2) := by decide +kernel
theorem dL_law_902 : decode cL_law 902 = .ok (.sipush 301, 3) := by decide +kernel
theorem dL_law_905 : decode cL_law 905 = .ok (.invokestatic 135, 3) := by decide +kernel
theorem dL_law_908 : decode cL_law 908 = .ok (.bipush 100, 2) := by decide +kernel
theorem dL_law_910 : decode cL_law 910 = .ok (.isub, 1) := by decide +kernel
theorem dL_law_911 : decode cL_law 911 = .ok (.istore 12, 2) := by decide +kernel
theorem dL_law_913 : decode cL_law 913 = .ok (.iload 12, 2) := by decide +kernel
theorem dL_law_915 : decode cL_law 915 = .ok (.ifCond .eq 15, 3) := by decide +kernel
theorem dL_law_918 : decode cL_law 918 = .ok (.aload_n 1, 1) := by decide +kernel
theorem dL_law_919 : decode cL_law 919 = .ok (.iload 10, 2) := by decide +kernel
theorem dL_law_921 : decode cL_law 921 = .ok (.iload 12, 2) := by decide +kernel
theorem dL_law_923 : decode cL_law 923 = .ok (.iconst 0, 1) := by decide +kernel
theorem dL_law_924 : decode cL_law 924 = .ok (.invokestatic 154, 3) := by decide +kernel
theorem dL_law_927 : decode cL_law 927 = .ok (.ifCond .eq 7, 3) := by decide +kernel
theorem dL_law_930 : decode cL_law 930 = .ok (.iconst 1, 1) := by decide +kernel
theorem dL_law_931 : decode cL_law 931 = .ok (.goto 4, 3) := by decide +kernel
theorem dL_law_934 : decode cL_law 934 = .ok (.iconst 0, 1) := by decide +kernel
theorem dL_law_935 : decode cL_law 935 = .ok (.istore 11, 2) := by decide +kernel
theorem dL_law_937 : decode cL_law 937 = .ok (.goto 62, 3) := by decide +kernel
theorem dL_law_940 : decode cL_law 940 = .ok (.iload 7, 2) := by decide +kernel
theorem dL_law_942 : decode cL_law 942 = .ok (.bipush 16, 2) := by decide +kernel
theorem dL_law_944 : decode cL_law 944 = .ok (.if_icmp .ne 24, 3) := by decide +kernel
theorem dL_law_947 : decode cL_law 947 = .ok (.aload_n 1, 1) := by decide +kernel
theorem dL_law_948 : decode cL_law 948 = .ok (.iload 10, 2) := by decide +kernel
theorem dL_law_950 : decode cL_law 950 = .ok (.iconst 1, 1) := by decide +kernel
theorem dL_law_951 : decode cL_law 951 = .ok (.iload 5, 2) := by decide +kernel
theorem dL_law_953 : decode cL_law 953 = .ok (.sipush 300, 3) := by decide +kernel
theorem dL_law_956 : decode cL_law 956 = .ok (.invokestatic 135, 3) := by decide +kernel
theorem dL_law_959 : decode cL_law 959 = .ok (.iadd, 1) := by decide +kernel
theorem dL_law_960 : decode cL_law 960 = .ok (.invokestatic 158, 3) := by decide +kernel
theorem dL_law_963 : decode cL_law 963 = .ok (.istore 11, 2) := by decide +kernel
theorem dL_law_965 : decode cL_law 965 = .ok (.goto 34, 3) := by decide +kernel
theorem dL_law_968 : decode cL_law 968 = .ok (.aload_n 1, 1) := by decide +kernel
theorem dL_law_969 : decode cL_law 969 = .ok (.iload 8, 2) := by decide +kernel
theorem dL_law_971 : decode cL_law 971 = .ok (.iload 9, 2) := by decide +kernel
theorem dL_law_973 : decode cL_law 973 = .ok (.invokestatic 161, 3) := by decide +kernel
theorem dL_law_976 : decode cL_law 976 = .ok (.ifCond .eq 20, 3) := by decide +kernel
theorem dL_law_979 : decode cL_law 979 = .ok (.aload_n 1, 1) := by decide +kernel
theorem dL_law_980 : decode cL_law 980 = .ok (.iload 10, 2) := by decide +kernel
theorem dL_law_982 : decode cL_law 982 = .ok (.iload 8, 2) := by decide +kernel
theorem dL_law_984 : decode cL_law 984 = .ok (.iload 9, 2) := by decide +kernel
theorem dL_law_986 : decode cL_law 986 = .ok (.invokestatic 164, 3) := by decide +kernel
theorem dL_law_989 : decode cL_law 989 = .ok (.ifCond .eq 7, 3) := by decide +kernel
theorem dL_law_992 : decode cL_law 992 = .ok (.iconst 1, 1) := by decide +kernel
theorem dL_law_993 : decode cL_law 993 = .ok (.goto 4, 3) := by decide +kernel
theorem dL_law_996 : decode cL_law 996 = .ok (.iconst 0, 1) := by decide +kernel
theorem dL_law_997 : decode cL_law 997 = .ok (.istore 11, 2) := by decide +kernel
theorem dL_law_999 : decode cL_law 999 = .ok (.iload 11, 2) := by decide +kernel
theorem dL_law_1001 : decode cL_law 1001 = .ok (.ifCond .eq 17, 3) := by decide +kernel
theorem dL_law_1004 : decode cL_law 1004 = .ok (.aload_n 1, 1) := by decide +kernel
theorem dL_law_1005 : decode cL_law 1005 = .ok (.invokestatic 168, 3) := by decide +kernel
theorem dL_law_1008 : decode cL_law 1008 = .ok (.ifCond .eq 10, 3) := by decide +kernel
theorem dL_law_1011 : decode cL_law 1011 = .ok (.aload_n 1, 1) := by decide +kernel
theorem dL_law_1012 : decode cL_law 1012 = .ok (.invokestatic 172, 3) := by decide +kernel
theorem dL_law_1015 : decode cL_law 1015 = .ok (.ifCond .ne 5, 3) := by decide +kernel
theorem dL_law_1018 : decode cL_law 1018 = .ok (.iconst 0, 1) := by decide +kernel
theorem dL_law_1019 : decode cL_law 1019 = .ok (.ireturn, 1) := by decide +kernel
theorem dL_law_1020 : decode cL_law 1020 = .ok (.iinc 4 1, 3) := by decide +kernel
theorem dL_law_1023 : decode cL_law 1023 = .ok (.goto (-864), 3) := by decide +kernel
theorem dL_law_1026 : decode cL_law 1026 = .ok (.aload_n 1, 1) := by decide +kernel
theorem dL_law_1027 : decode cL_law 1027 = .ok (.invokestatic 175, 3) := by decide +kernel
theorem dL_law_1030 : decode cL_law 1030 = .ok (.ireturn, 1) := by decide +kernel
