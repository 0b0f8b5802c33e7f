def RX0 : String := "PennyPlanks$Course"
def TX0 : u_T := fun k => match k with
  | 0 => ("PennyPlanks$Course", "state", "LPennyPlanks$State;", true)
  | 1 => ("PennyPlanks$Course", "delta", "LPennyPlanks$Delta;", false)
  | 2 => ("PennyPlanks$Course", "delay", "I", false)
  | 3 => ("PennyPlanks$Course", "alms", "I", false)
  | 4 => ("PennyPlanks$Course", "oaks", "I", false)
  | 5 => ("PennyPlanks$Course", "weak", "I", false)
  | 6 => ("PennyPlanks$Course", "heard", "I", false)
  | 7 => ("PennyPlanks$Course", "waited", "I", false)
  | 8 => ("PennyPlanks$Course", "fell", "I", false)
  | 9 => ("PennyPlanks$Course", "given", "I", false)
  | 10 => ("PennyPlanks$Course", "taken", "I", false)
  | 11 => ("PennyPlanks$Course", "shown", "[I", true)
  | _ => ("PennyPlanks$Course", "planks", "[I", true)
def tyX0 : Nat → FieldType := fun k => match k with
  | 0 => .object "PennyPlanks$State"
  | 1 => .object "PennyPlanks$Delta"
  | 2 => .int
  | 3 => .int
  | 4 => .int
  | 5 => .int
  | 6 => .int
  | 7 => .int
  | 8 => .int
  | 9 => .int
  | 10 => .int
  | 11 => .array .int
  | _ => .array .int
abbrev wsX00 : List Cond := u_ws RX0 TX0 13
theorem nmX0 : ∀ a, a < 13 → ∀ b, b < 13 → a ≠ b → (TX0 a).2.1 ≠ (TX0 b).2.1 := by decide +kernel
theorem tyX0_ok : ∀ k, k < 13 → parseFieldDescriptor (TX0 k).2.2.1 = some (tyX0 k) := by decide +kernel
abbrev cX0_init : ByteArray := prog_2_method_1_code
def yX0_init : MethodName := ⟨RX0, "<init>", "()V"⟩
abbrev cX0_begin : ByteArray := prog_2_method_2_code
def yX0_begin : MethodName := ⟨RX0, "begin", "(LPennyPlanks$Delta;LPennyPlanks$State;)V"⟩
abbrev cX0_look : ByteArray := prog_2_method_3_code
def yX0_look : MethodName := ⟨RX0, "look", "(I)V"⟩
abbrev cX0_pass : ByteArray := prog_2_method_4_code
def yX0_pass : MethodName := ⟨RX0, "pass", "(I)V"⟩
abbrev cX0_passDay : ByteArray := prog_2_method_5_code
def yX0_passDay : MethodName := ⟨RX0, "passDay", "()V"⟩
abbrev cX0_giveAlms : ByteArray := prog_2_method_6_code
def yX0_giveAlms : MethodName := ⟨RX0, "giveAlms", "()V"⟩
abbrev cX0_go : ByteArray := prog_2_method_7_code
def yX0_go : MethodName := ⟨RX0, "go", "(I)V"⟩
abbrev cX0_firstBridge : ByteArray := prog_2_method_8_code
def yX0_firstBridge : MethodName := ⟨RX0, "firstBridge", "(I)I"⟩
abbrev cX0_usableFor : ByteArray := prog_2_method_9_code
def yX0_usableFor : MethodName := ⟨RX0, "usableFor", "(I)I"⟩
abbrev cX0_waitHere : ByteArray := prog_2_method_10_code
def yX0_waitHere : MethodName := ⟨RX0, "waitHere", "(I)V"⟩
abbrev cX0_cross : ByteArray := prog_2_method_11_code
def yX0_cross : MethodName := ⟨RX0, "cross", "(II)V"⟩
abbrev cX0_give : ByteArray := prog_2_method_12_code
def yX0_give : MethodName := ⟨RX0, "give", "(II)V"⟩
abbrev cX0_steal : ByteArray := prog_2_method_13_code
def yX0_steal : MethodName := ⟨RX0, "steal", "(II)V"⟩
abbrev cX0_turnRound : ByteArray := prog_2_method_14_code
def yX0_turnRound : MethodName := ⟨RX0, "turnRound", "(I)V"⟩
abbrev cX0_spreadRumour : ByteArray := prog_2_method_15_code
def yX0_spreadRumour : MethodName := ⟨RX0, "spreadRumour", "()V"⟩
def RX1 : String := "PennyPlanks$Delta"
def TX1 : u_T := fun k => match k with
  | 0 => ("PennyPlanks$Delta", "islands", "I", false)
  | 1 => ("PennyPlanks$Delta", "delay", "I", false)
  | 2 => ("PennyPlanks$Delta", "bridges", "I", false)
  | 3 => ("PennyPlanks$Delta", "goers", "I", false)
  | 4 => ("PennyPlanks$Delta", "oaks", "I", false)
  | 5 => ("PennyPlanks$Delta", "oneEnd", "[I", true)
  | 6 => ("PennyPlanks$Delta", "otherEnd", "[I", true)
  | 7 => ("PennyPlanks$Delta", "pence", "[I", true)
  | 8 => ("PennyPlanks$Delta", "home", "[I", true)
  | 9 => ("PennyPlanks$Delta", "errand", "[I", true)
  | 10 => ("PennyPlanks$Delta", "weight", "[I", true)
  | 11 => ("PennyPlanks$Delta", "gift", "[I", true)
  | 12 => ("PennyPlanks$Delta", "kind", "[I", true)
  | _ => ("PennyPlanks$Delta", "need", "[I", true)
def tyX1 : Nat → FieldType := fun k => match k with
  | 0 => .int
  | 1 => .int
  | 2 => .int
  | 3 => .int
  | 4 => .int
  | 5 => .array .int
  | 6 => .array .int
  | 7 => .array .int
  | 8 => .array .int
  | 9 => .array .int
  | 10 => .array .int
  | 11 => .array .int
  | 12 => .array .int
  | _ => .array .int
abbrev wsX10 : List Cond := u_ws RX1 TX1 14
theorem nmX1 : ∀ a, a < 14 → ∀ b, b < 14 → a ≠ b → (TX1 a).2.1 ≠ (TX1 b).2.1 := by decide +kernel
theorem tyX1_ok : ∀ k, k < 14 → parseFieldDescriptor (TX1 k).2.2.1 = some (tyX1 k) := by decide +kernel
abbrev cX1_init : ByteArray := prog_3_method_1_code
def yX1_init : MethodName := ⟨RX1, "<init>", "()V"⟩
abbrev cX1_empty : ByteArray := prog_3_method_2_code
def yX1_empty : MethodName := ⟨RX1, "empty", "()V"⟩
abbrev cX1_lowestInto : ByteArray := prog_3_method_3_code
def yX1_lowestInto : MethodName := ⟨RX1, "lowestInto", "(III)I"⟩
abbrev cX1_widened : ByteArray := prog_3_method_4_code
def yX1_widened : MethodName := ⟨RX1, "widened", "(II)I"⟩
abbrev cX1_lowestBeside : ByteArray := prog_3_method_5_code
def yX1_lowestBeside : MethodName := ⟨RX1, "lowestBeside", "(I)I"⟩
def RX2 : String := "PennyPlanks$Ledger"
def TX2 : u_T := fun k => match k with
  | 0 => ("PennyPlanks$Ledger", "rows", "I", false)
  | 1 => ("PennyPlanks$Ledger", "bridgeOf", "[I", true)
  | 2 => ("PennyPlanks$Ledger", "dayOf", "[I", true)
  | 3 => ("PennyPlanks$Ledger", "needOf", "[I", true)
  | _ => ("PennyPlanks$Ledger", "boreOf", "[I", true)
def tyX2 : Nat → FieldType := fun k => match k with
  | 0 => .int
  | 1 => .array .int
  | 2 => .array .int
  | 3 => .array .int
  | _ => .array .int
abbrev wsX20 : List Cond := u_ws RX2 TX2 5
theorem nmX2 : ∀ a, a < 5 → ∀ b, b < 5 → a ≠ b → (TX2 a).2.1 ≠ (TX2 b).2.1 := by decide +kernel
theorem tyX2_ok : ∀ k, k < 5 → parseFieldDescriptor (TX2 k).2.2.1 = some (tyX2 k) := by decide +kernel
abbrev cX2_init : ByteArray := prog_4_method_1_code
def yX2_init : MethodName := ⟨RX2, "<init>", "()V"⟩
abbrev cX2_add : ByteArray := prog_4_method_2_code
def yX2_add : MethodName := ⟨RX2, "add", "(IIIZ)I"⟩
abbrev cX2_least : ByteArray := prog_4_method_3_code
def yX2_least : MethodName := ⟨RX2, "least", "(II)I"⟩
abbrev cX2_most : ByteArray := prog_4_method_4_code
def yX2_most : MethodName := ⟨RX2, "most", "(II)I"⟩
abbrev cX2_isOf : ByteArray := prog_4_method_5_code
def yX2_isOf : MethodName := ⟨RX2, "isOf", "(III)Z"⟩
def RX3 : String := "PennyPlanks$Pile"
def TX3 : u_T := fun k => match k with
  | 0 => ("PennyPlanks$Pile", "size", "I", false)
  | _ => ("PennyPlanks$Pile", "states", "[LPennyPlanks$State;", true)
def tyX3 : Nat → FieldType := fun k => match k with
  | 0 => .int
  | _ => .array (.object "PennyPlanks$State")
abbrev wsX30 : List Cond := u_ws RX3 TX3 2
theorem nmX3 : ∀ a, a < 2 → ∀ b, b < 2 → a ≠ b → (TX3 a).2.1 ≠ (TX3 b).2.1 := by decide +kernel
theorem tyX3_ok : ∀ k, k < 2 → parseFieldDescriptor (TX3 k).2.2.1 = some (tyX3 k) := by decide +kernel
abbrev cX3_init : ByteArray := prog_5_method_1_code
def yX3_init : MethodName := ⟨RX3, "<init>", "(I)V"⟩
abbrev cX3_push : ByteArray := prog_5_method_2_code
def yX3_push : MethodName := ⟨RX3, "push", "(LPennyPlanks$State;)V"⟩
abbrev cX3_dropOldest : ByteArray := prog_5_method_3_code
def yX3_dropOldest : MethodName := ⟨RX3, "dropOldest", "()V"⟩
abbrev cX3_pop : ByteArray := prog_5_method_4_code
def yX3_pop : MethodName := ⟨RX3, "pop", "(LPennyPlanks$State;)Z"⟩
def RX4 : String := "PennyPlanks$Reader"
def TX4 : u_T := fun k => match k with
  | 0 => ("PennyPlanks$Reader", "numbers", "[I", true)
  | 1 => ("PennyPlanks$Reader", "told", "I", false)
  | _ => ("PennyPlanks$Reader", "islandsCanCome", "Z", false)
def tyX4 : Nat → FieldType := fun k => match k with
  | 0 => .array .int
  | 1 => .int
  | _ => .boolean
abbrev wsX40 : List Cond := u_ws RX4 TX4 3
theorem nmX4 : ∀ a, a < 3 → ∀ b, b < 3 → a ≠ b → (TX4 a).2.1 ≠ (TX4 b).2.1 := by decide +kernel
theorem tyX4_ok : ∀ k, k < 3 → parseFieldDescriptor (TX4 k).2.2.1 = some (tyX4 k) := by decide +kernel
abbrev cX4_init : ByteArray := prog_6_method_1_code
def yX4_init : MethodName := ⟨RX4, "<init>", "()V"⟩
abbrev cX4_read : ByteArray := prog_6_method_2_code
def yX4_read : MethodName := ⟨RX4, "read", "([IILPennyPlanks$Delta;)I"⟩
abbrev cX4_scan : ByteArray := prog_6_method_3_code
def yX4_scan : MethodName := ⟨RX4, "scan", "([III)I"⟩
abbrev cX4_take : ByteArray := prog_6_method_4_code
def yX4_take : MethodName := ⟨RX4, "take", "(ILPennyPlanks$Delta;)Z"⟩
abbrev cX4_takeIslands : ByteArray := prog_6_method_5_code
def yX4_takeIslands : MethodName := ⟨RX4, "takeIslands", "(LPennyPlanks$Delta;)Z"⟩
abbrev cX4_takeDelay : ByteArray := prog_6_method_6_code
def yX4_takeDelay : MethodName := ⟨RX4, "takeDelay", "(LPennyPlanks$Delta;)Z"⟩
abbrev cX4_takeBridge : ByteArray := prog_6_method_7_code
def yX4_takeBridge : MethodName := ⟨RX4, "takeBridge", "(LPennyPlanks$Delta;)Z"⟩
abbrev cX4_takeOak : ByteArray := prog_6_method_8_code
def yX4_takeOak : MethodName := ⟨RX4, "takeOak", "(LPennyPlanks$Delta;)Z"⟩
abbrev cX4_takeGoer : ByteArray := prog_6_method_9_code
def yX4_takeGoer : MethodName := ⟨RX4, "takeGoer", "(LPennyPlanks$Delta;)Z"⟩
abbrev cX4_areTwoIslands : ByteArray := prog_6_method_10_code
def yX4_areTwoIslands : MethodName := ⟨RX4, "areTwoIslands", "(LPennyPlanks$Delta;)Z"⟩
def RX5 : String := "PennyPlanks$State"
def TX5 : u_T := fun k => match k with
  | 0 => ("PennyPlanks$State", "today", "I", false)
  | 1 => ("PennyPlanks$State", "guarded", "I", false)
  | 2 => ("PennyPlanks$State", "box", "[I", true)
  | 3 => ("PennyPlanks$State", "lost", "[I", true)
  | 4 => ("PennyPlanks$State", "pastPut", "[I", true)
  | 5 => ("PennyPlanks$State", "pastStolen", "[I", true)
  | 6 => ("PennyPlanks$State", "place", "[I", true)
  | _ => ("PennyPlanks$State", "bound", "[I", true)
def tyX5 : Nat → FieldType := fun k => match k with
  | 0 => .int
  | 1 => .int
  | 2 => .array .int
  | 3 => .array .int
  | 4 => .array .int
  | 5 => .array .int
  | 6 => .array .int
  | _ => .array .int
abbrev wsX50 : List Cond := u_ws RX5 TX5 8
theorem nmX5 : ∀ a, a < 8 → ∀ b, b < 8 → a ≠ b → (TX5 a).2.1 ≠ (TX5 b).2.1 := by decide +kernel
theorem tyX5_ok : ∀ k, k < 8 → parseFieldDescriptor (TX5 k).2.2.1 = some (tyX5 k) := by decide +kernel
abbrev cX5_init : ByteArray := prog_7_method_1_code
def yX5_init : MethodName := ⟨RX5, "<init>", "()V"⟩
abbrev cX5_start : ByteArray := prog_7_method_2_code
def yX5_start : MethodName := ⟨RX5, "start", "(LPennyPlanks$Delta;)V"⟩
abbrev cX5_copy : ByteArray := prog_7_method_3_code
def yX5_copy : MethodName := ⟨RX5, "copy", "(LPennyPlanks$State;)V"⟩
abbrev cX5_endDay : ByteArray := prog_7_method_4_code
def yX5_endDay : MethodName := ⟨RX5, "endDay", "()V"⟩
abbrev cX5_fallen : ByteArray := prog_7_method_5_code
def yX5_fallen : MethodName := ⟨RX5, "fallen", "(I)I"⟩
abbrev cX5_slot : ByteArray := prog_7_method_6_code
def yX5_slot : MethodName := ⟨RX5, "slot", "(II)I"⟩
def RX6 : String := "PennyPlanks$Traveller"
def TX6 : u_T := fun k => match k with
  | 0 => ("PennyPlanks$Traveller", "leastPence", "I", false)
  | 1 => ("PennyPlanks$Traveller", "fewestBridges", "I", false)
  | 2 => ("PennyPlanks$Traveller", "cost", "[I", false)
  | _ => ("PennyPlanks$Traveller", "nextCost", "[I", false)
def tyX6 : Nat → FieldType := fun k => match k with
  | 0 => .int
  | 1 => .int
  | 2 => .array .int
  | _ => .array .int
abbrev wsX60 : List Cond := u_ws RX6 TX6 4
theorem nmX6 : ∀ a, a < 4 → ∀ b, b < 4 → a ≠ b → (TX6 a).2.1 ≠ (TX6 b).2.1 := by decide +kernel
theorem tyX6_ok : ∀ k, k < 4 → parseFieldDescriptor (TX6 k).2.2.1 = some (tyX6 k) := by decide +kernel
abbrev cX6_init : ByteArray := prog_8_method_1_code
def yX6_init : MethodName := ⟨RX6, "<init>", "()V"⟩
abbrev cX6_seek : ByteArray := prog_8_method_2_code
def yX6_seek : MethodName := ⟨RX6, "seek", "(LPennyPlanks$Course;III)V"⟩
abbrev cX6_goOn : ByteArray := prog_8_method_3_code
def yX6_goOn : MethodName := ⟨RX6, "goOn", "(LPennyPlanks$Course;I)V"⟩
abbrev cX6_improve : ByteArray := prog_8_method_4_code
def yX6_improve : MethodName := ⟨RX6, "improve", "(III)V"⟩
def RX7 : String := "PennyPlanks"
def TX7 : u_T := fun k => match k with
  | 0 => ("PennyPlanks", "letters", "[I", true)
  | 1 => ("PennyPlanks", "length", "I", false)
  | 2 => ("PennyPlanks", "reader", "LPennyPlanks$Reader;", true)
  | 3 => ("PennyPlanks", "delta", "LPennyPlanks$Delta;", false)
  | 4 => ("PennyPlanks", "draft", "LPennyPlanks$Delta;", false)
  | 5 => ("PennyPlanks", "now", "LPennyPlanks$State;", true)
  | 6 => ("PennyPlanks", "course", "LPennyPlanks$Course;", true)
  | 7 => ("PennyPlanks", "traveller", "LPennyPlanks$Traveller;", true)
  | 8 => ("PennyPlanks", "ledger", "LPennyPlanks$Ledger;", true)
  | 9 => ("PennyPlanks", "undoable", "LPennyPlanks$Pile;", true)
  | _ => ("PennyPlanks", "kept", "LPennyPlanks$Pile;", true)
def tyX7 : Nat → FieldType := fun k => match k with
  | 0 => .array .int
  | 1 => .int
  | 2 => .object "PennyPlanks$Reader"
  | 3 => .object "PennyPlanks$Delta"
  | 4 => .object "PennyPlanks$Delta"
  | 5 => .object "PennyPlanks$State"
  | 6 => .object "PennyPlanks$Course"
  | 7 => .object "PennyPlanks$Traveller"
  | 8 => .object "PennyPlanks$Ledger"
  | 9 => .object "PennyPlanks$Pile"
  | _ => .object "PennyPlanks$Pile"
abbrev wsX70 : List Cond := u_ws RX7 TX7 11
theorem nmX7 : ∀ a, a < 11 → ∀ b, b < 11 → a ≠ b → (TX7 a).2.1 ≠ (TX7 b).2.1 := by decide +kernel
theorem tyX7_ok : ∀ k, k < 11 → parseFieldDescriptor (TX7 k).2.2.1 = some (tyX7 k) := by decide +kernel
abbrev cX7_init : ByteArray := prog_1_method_1_code
def yX7_init : MethodName := ⟨RX7, "<init>", "()V"⟩
abbrev cX7_write : ByteArray := prog_1_method_2_code
def yX7_write : MethodName := ⟨RX7, "write", "(I)I"⟩
abbrev cX7_wipe : ByteArray := prog_1_method_3_code
def yX7_wipe : MethodName := ⟨RX7, "wipe", "()I"⟩
abbrev cX7_fault : ByteArray := prog_1_method_4_code
def yX7_fault : MethodName := ⟨RX7, "fault", "()I"⟩
abbrev cX7_lay : ByteArray := prog_1_method_5_code
def yX7_lay : MethodName := ⟨RX7, "lay", "()I"⟩
abbrev cX7_bridge : ByteArray := prog_1_method_6_code
def yX7_bridge : MethodName := ⟨RX7, "bridge", "(II)I"⟩
abbrev cX7_goer : ByteArray := prog_1_method_7_code
def yX7_goer : MethodName := ⟨RX7, "goer", "(II)I"⟩
abbrev cX7_lookAtToday : ByteArray := prog_1_method_8_code
def yX7_lookAtToday : MethodName := ⟨RX7, "lookAtToday", "()V"⟩
abbrev cX7_days : ByteArray := prog_1_method_9_code
def yX7_days : MethodName := ⟨RX7, "days", "(I)I"⟩
abbrev cX7_put : ByteArray := prog_1_method_10_code
def yX7_put : MethodName := ⟨RX7, "put", "(II)I"⟩
abbrev cX7_guard : ByteArray := prog_1_method_11_code
def yX7_guard : MethodName := ⟨RX7, "guard", "(IZ)I"⟩
abbrev cX7_undo : ByteArray := prog_1_method_12_code
def yX7_undo : MethodName := ⟨RX7, "undo", "()I"⟩
abbrev cX7_where : ByteArray := prog_1_method_13_code
def yX7_where : MethodName := ⟨RX7, "where", "(II)I"⟩
abbrev cX7_planks : ByteArray := prog_1_method_14_code
def yX7_planks : MethodName := ⟨RX7, "planks", "(II)I"⟩
abbrev cX7_all : ByteArray := prog_1_method_15_code
def yX7_all : MethodName := ⟨RX7, "all", "(II)I"⟩
abbrev cX7_goBehind : ByteArray := prog_1_method_16_code
def yX7_goBehind : MethodName := ⟨RX7, "goBehind", "(I)V"⟩
abbrev cX7_planksThen : ByteArray := prog_1_method_17_code
def yX7_planksThen : MethodName := ⟨RX7, "planksThen", "(I)I"⟩
abbrev cX7_abbot : ByteArray := prog_1_method_18_code
def yX7_abbot : MethodName := ⟨RX7, "abbot", "(I)I"⟩
abbrev cX7_nobodyWaits : ByteArray := prog_1_method_19_code
def yX7_nobodyWaits : MethodName := ⟨RX7, "nobodyWaits", "(II)Z"⟩
abbrev cX7_oak : ByteArray := prog_1_method_20_code
def yX7_oak : MethodName := ⟨RX7, "oak", "(I)I"⟩
abbrev cX7_delays : ByteArray := prog_1_method_21_code
def yX7_delays : MethodName := ⟨RX7, "delays", "(I)I"⟩
abbrev cX7_watch : ByteArray := prog_1_method_22_code
def yX7_watch : MethodName := ⟨RX7, "watch", "(I)I"⟩
abbrev cX7_sent : ByteArray := prog_1_method_23_code
def yX7_sent : MethodName := ⟨RX7, "sent", "(IIII)I"⟩
abbrev cX7_rumour : ByteArray := prog_1_method_24_code
def yX7_rumour : MethodName := ⟨RX7, "rumour", "(IIII)I"⟩
abbrev cX7_enter : ByteArray := prog_1_method_25_code
def yX7_enter : MethodName := ⟨RX7, "enter", "(IIIZ)I"⟩
abbrev cX7_close : ByteArray := prog_1_method_26_code
def yX7_close : MethodName := ⟨RX7, "close", "()I"⟩
abbrev cX7_span : ByteArray := prog_1_method_27_code
def yX7_span : MethodName := ⟨RX7, "span", "(III)I"⟩
abbrev cX7_cart : ByteArray := prog_1_method_28_code
def yX7_cart : MethodName := ⟨RX7, "cart", "(III)I"⟩
abbrev cX7_year : ByteArray := prog_1_method_29_code
def yX7_year : MethodName := ⟨RX7, "year", "(III)I"⟩
abbrev cX7_drawn : ByteArray := prog_1_method_30_code
def yX7_drawn : MethodName := ⟨RX7, "drawn", "(II)I"⟩
abbrev cX7_putByDraw : ByteArray := prog_1_method_31_code
def yX7_putByDraw : MethodName := ⟨RX7, "putByDraw", "(I)V"⟩
abbrev cX7_keep : ByteArray := prog_1_method_32_code
def yX7_keep : MethodName := ⟨RX7, "keep", "()I"⟩
abbrev cX7_back : ByteArray := prog_1_method_33_code
def yX7_back : MethodName := ⟨RX7, "back", "()I"⟩
abbrev cX7_count : ByteArray := prog_1_method_34_code
def yX7_count : MethodName := ⟨RX7, "count", "(I)I"⟩
abbrev cX7_isIsland : ByteArray := prog_1_method_35_code
def yX7_isIsland : MethodName := ⟨RX7, "isIsland", "(I)Z"⟩
abbrev cX7_isBridge : ByteArray := prog_1_method_36_code
def yX7_isBridge : MethodName := ⟨RX7, "isBridge", "(I)Z"⟩
abbrev cX7_isGoer : ByteArray := prog_1_method_37_code
def yX7_isGoer : MethodName := ⟨RX7, "isGoer", "(I)Z"⟩
abbrev cX7_isWithin : ByteArray := prog_1_method_38_code
def yX7_isWithin : MethodName := ⟨RX7, "isWithin", "(III)Z"⟩
def RX8 : String := "PennyPlanksModel"
def TX8 : u_T := fun k => match k with
  | 0 => ("PennyPlanksModel", "delta", "[I", true)
  | 1 => ("PennyPlanksModel", "read", "[I", true)
  | 2 => ("PennyPlanksModel", "text", "[I", true)
  | 3 => ("PennyPlanksModel", "size", "I", false)
  | 4 => ("PennyPlanksModel", "now", "[I", true)
  | 5 => ("PennyPlanksModel", "past", "[I", true)
  | 6 => ("PennyPlanksModel", "undos", "I", false)
  | 7 => ("PennyPlanksModel", "kept", "[I", true)
  | 8 => ("PennyPlanksModel", "keptMany", "I", false)
  | 9 => ("PennyPlanksModel", "ledger", "[I", true)
  | 10 => ("PennyPlanksModel", "rows", "I", false)
  | 11 => ("PennyPlanksModel", "at", "I", false)
  | 12 => ("PennyPlanksModel", "numbers", "[I", true)
  | 13 => ("PennyPlanksModel", "delay", "I", false)
  | 14 => ("PennyPlanksModel", "oaks", "I", false)
  | 15 => ("PennyPlanksModel", "gift", "I", false)
  | 16 => ("PennyPlanksModel", "draws", "I", false)
  | 17 => ("PennyPlanksModel", "bad", "I", false)
  | 18 => ("PennyPlanksModel", "heard", "I", false)
  | 19 => ("PennyPlanksModel", "leftOut", "I", false)
  | 20 => ("PennyPlanksModel", "waited", "I", false)
  | 21 => ("PennyPlanksModel", "fell", "I", false)
  | 22 => ("PennyPlanksModel", "given", "I", false)
  | 23 => ("PennyPlanksModel", "stolen", "I", false)
  | 24 => ("PennyPlanksModel", "off", "[I", true)
  | 25 => ("PennyPlanksModel", "tried", "[I", true)
  | 26 => ("PennyPlanksModel", "sends", "[I", true)
  | _ => ("PennyPlanksModel", "then", "[I", true)
def tyX8 : Nat → FieldType := fun k => match k with
  | 0 => .array .int
  | 1 => .array .int
  | 2 => .array .int
  | 3 => .int
  | 4 => .array .int
  | 5 => .array .int
  | 6 => .int
  | 7 => .array .int
  | 8 => .int
  | 9 => .array .int
  | 10 => .int
  | 11 => .int
  | 12 => .array .int
  | 13 => .int
  | 14 => .int
  | 15 => .int
  | 16 => .int
  | 17 => .int
  | 18 => .int
  | 19 => .int
  | 20 => .int
  | 21 => .int
  | 22 => .int
  | 23 => .int
  | 24 => .array .int
  | 25 => .array .int
  | 26 => .array .int
  | _ => .array .int
abbrev wsX80 : List Cond := u_ws RX8 TX8 28
theorem nmX8 : ∀ a, a < 28 → ∀ b, b < 28 → a ≠ b → (TX8 a).2.1 ≠ (TX8 b).2.1 := by decide +kernel
theorem tyX8_ok : ∀ k, k < 28 → parseFieldDescriptor (TX8 k).2.2.1 = some (tyX8 k) := by decide +kernel
abbrev cX8_init : ByteArray := prog_10_method_1_code
def yX8_init : MethodName := ⟨RX8, "<init>", "()V"⟩
abbrev cX8_in : ByteArray := prog_10_method_3_code
def yX8_in : MethodName := ⟨RX8, "in", "(JJJ)Z"⟩
abbrev cX8_isTwo : ByteArray := prog_10_method_4_code
def yX8_isTwo : MethodName := ⟨RX8, "isTwo", "(I)Z"⟩
abbrev cX8_write : ByteArray := prog_10_method_5_code
def yX8_write : MethodName := ⟨RX8, "write", "(I)I"⟩
abbrev cX8_wipe : ByteArray := prog_10_method_6_code
def yX8_wipe : MethodName := ⟨RX8, "wipe", "()I"⟩
abbrev cX8_takes : ByteArray := prog_10_method_7_code
def yX8_takes : MethodName := ⟨RX8, "takes", "(I)Z"⟩
abbrev cX8_is : ByteArray := prog_10_method_8_code
def yX8_is : MethodName := ⟨RX8, "is", "(III)Z"⟩
abbrev cX8_clean : ByteArray := prog_10_method_9_code
def yX8_clean : MethodName := ⟨RX8, "clean", "()V"⟩
abbrev cX8_lays : ByteArray := prog_10_method_10_code
def yX8_lays : MethodName := ⟨RX8, "lays", "(III)V"⟩
abbrev cX8_comes : ByteArray := prog_10_method_11_code
def yX8_comes : MethodName := ⟨RX8, "comes", "(IIIII)V"⟩
abbrev cX8_areTwo : ByteArray := prog_10_method_12_code
def yX8_areTwo : MethodName := ⟨RX8, "areTwo", "()Z"⟩
abbrev cX8_takesBridge : ByteArray := prog_10_method_13_code
def yX8_takesBridge : MethodName := ⟨RX8, "takesBridge", "()Z"⟩
abbrev cX8_takesGoer : ByteArray := prog_10_method_14_code
def yX8_takesGoer : MethodName := ⟨RX8, "takesGoer", "()Z"⟩
abbrev cX8_takesOak : ByteArray := prog_10_method_15_code
def yX8_takesOak : MethodName := ⟨RX8, "takesOak", "()Z"⟩
abbrev cX8_takesOne : ByteArray := prog_10_method_16_code
def yX8_takesOne : MethodName := ⟨RX8, "takesOne", "(III)Z"⟩
abbrev cX8_takesItem : ByteArray := prog_10_method_17_code
def yX8_takesItem : MethodName := ⟨RX8, "takesItem", "(Z)Z"⟩
abbrev cX8_faultOf : ByteArray := prog_10_method_18_code
def yX8_faultOf : MethodName := ⟨RX8, "faultOf", "()I"⟩
abbrev cX8_fault : ByteArray := prog_10_method_19_code
def yX8_fault : MethodName := ⟨RX8, "fault", "()I"⟩
abbrev cX8_begins : ByteArray := prog_10_method_20_code
def yX8_begins : MethodName := ⟨RX8, "begins", "()V"⟩
abbrev cX8_lay : ByteArray := prog_10_method_21_code
def yX8_lay : MethodName := ⟨RX8, "lay", "()I"⟩
abbrev cX8_isIsland : ByteArray := prog_10_method_22_code
def yX8_isIsland : MethodName := ⟨RX8, "isIsland", "(I)Z"⟩
abbrev cX8_isBridge : ByteArray := prog_10_method_23_code
def yX8_isBridge : MethodName := ⟨RX8, "isBridge", "(I)Z"⟩
abbrev cX8_isGoer : ByteArray := prog_10_method_24_code
def yX8_isGoer : MethodName := ⟨RX8, "isGoer", "(I)Z"⟩
abbrev cX8_oakSet : ByteArray := prog_10_method_25_code
def yX8_oakSet : MethodName := ⟨RX8, "oakSet", "()I"⟩
abbrev cX8_plainly : ByteArray := prog_10_method_26_code
def yX8_plainly : MethodName := ⟨RX8, "plainly", "()V"⟩
abbrev cX8_ring : ByteArray := prog_10_method_27_code
def yX8_ring : MethodName := ⟨RX8, "ring", "(III)I"⟩
abbrev cX8_shows : ByteArray := prog_10_method_28_code
def yX8_shows : MethodName := ⟨RX8, "shows", "([II)I"⟩
abbrev cX8_planksOf : ByteArray := prog_10_method_29_code
def yX8_planksOf : MethodName := ⟨RX8, "planksOf", "([II)I"⟩
abbrev cX8_needs : ByteArray := prog_10_method_30_code
def yX8_needs : MethodName := ⟨RX8, "needs", "(I)I"⟩
abbrev cX8_end : ByteArray := prog_10_method_31_code
def yX8_end : MethodName := ⟨RX8, "end", "(II)I"⟩
abbrev cX8_mayTake : ByteArray := prog_10_method_32_code
def yX8_mayTake : MethodName := ⟨RX8, "mayTake", "([III)Z"⟩
abbrev cX8_layOff : ByteArray := prog_10_method_33_code
def yX8_layOff : MethodName := ⟨RX8, "layOff", "([II)V"⟩
abbrev cX8_takenBy : ByteArray := prog_10_method_34_code
def yX8_takenBy : MethodName := ⟨RX8, "takenBy", "([II)I"⟩
abbrev cX8_gives : ByteArray := prog_10_method_35_code
def yX8_gives : MethodName := ⟨RX8, "gives", "([III)V"⟩
abbrev cX8_todays : ByteArray := prog_10_method_36_code
def yX8_todays : MethodName := ⟨RX8, "todays", "([II)I"⟩
abbrev cX8_waits : ByteArray := prog_10_method_37_code
def yX8_waits : MethodName := ⟨RX8, "waits", "([II)V"⟩
abbrev cX8_steals : ByteArray := prog_10_method_38_code
def yX8_steals : MethodName := ⟨RX8, "steals", "([III)V"⟩
abbrev cX8_goes : ByteArray := prog_10_method_39_code
def yX8_goes : MethodName := ⟨RX8, "goes", "([II)V"⟩
abbrev cX8_tells : ByteArray := prog_10_method_40_code
def yX8_tells : MethodName := ⟨RX8, "tells", "([I)V"⟩
abbrev cX8_dayGoes : ByteArray := prog_10_method_41_code
def yX8_dayGoes : MethodName := ⟨RX8, "dayGoes", "([II)V"⟩
abbrev cX8_copies : ByteArray := prog_10_method_42_code
def yX8_copies : MethodName := ⟨RX8, "copies", "([II[II)V"⟩
abbrev cX8_tries : ByteArray := prog_10_method_43_code
def yX8_tries : MethodName := ⟨RX8, "tries", "(I)V"⟩
abbrev cX8_remember : ByteArray := prog_10_method_44_code
def yX8_remember : MethodName := ⟨RX8, "remember", "()V"⟩
abbrev cX8_bridge : ByteArray := prog_10_method_45_code
def yX8_bridge : MethodName := ⟨RX8, "bridge", "(II)I"⟩
abbrev cX8_goer : ByteArray := prog_10_method_46_code
def yX8_goer : MethodName := ⟨RX8, "goer", "(II)I"⟩
abbrev cX8_days : ByteArray := prog_10_method_47_code
def yX8_days : MethodName := ⟨RX8, "days", "(I)I"⟩
abbrev cX8_put : ByteArray := prog_10_method_48_code
def yX8_put : MethodName := ⟨RX8, "put", "(II)I"⟩
abbrev cX8_guard : ByteArray := prog_10_method_49_code
def yX8_guard : MethodName := ⟨RX8, "guard", "(IZ)I"⟩
abbrev cX8_undo : ByteArray := prog_10_method_50_code
def yX8_undo : MethodName := ⟨RX8, "undo", "()I"⟩
abbrev cX8_isBehind : ByteArray := prog_10_method_51_code
def yX8_isBehind : MethodName := ⟨RX8, "isBehind", "(I)Z"⟩
abbrev cX8_where : ByteArray := prog_10_method_52_code
def yX8_where : MethodName := ⟨RX8, "where", "(II)I"⟩
abbrev cX8_planks : ByteArray := prog_10_method_53_code
def yX8_planks : MethodName := ⟨RX8, "planks", "(II)I"⟩
abbrev cX8_all : ByteArray := prog_10_method_54_code
def yX8_all : MethodName := ⟨RX8, "all", "(II)I"⟩
abbrev cX8_isSpan : ByteArray := prog_10_method_55_code
def yX8_isSpan : MethodName := ⟨RX8, "isSpan", "(I)Z"⟩
abbrev cX8_abbot : ByteArray := prog_10_method_56_code
def yX8_abbot : MethodName := ⟨RX8, "abbot", "(I)I"⟩
abbrev cX8_oak : ByteArray := prog_10_method_57_code
def yX8_oak : MethodName := ⟨RX8, "oak", "(I)I"⟩
abbrev cX8_delays : ByteArray := prog_10_method_58_code
def yX8_delays : MethodName := ⟨RX8, "delays", "(I)I"⟩
abbrev cX8_watch : ByteArray := prog_10_method_59_code
def yX8_watch : MethodName := ⟨RX8, "watch", "(I)I"⟩
abbrev cX8_sent : ByteArray := prog_10_method_60_code
def yX8_sent : MethodName := ⟨RX8, "sent", "(IIII)I"⟩
abbrev cX8_rumour : ByteArray := prog_10_method_61_code
def yX8_rumour : MethodName := ⟨RX8, "rumour", "(IIII)I"⟩
abbrev cX8_enter : ByteArray := prog_10_method_62_code
def yX8_enter : MethodName := ⟨RX8, "enter", "(IIIZ)I"⟩
abbrev cX8_close : ByteArray := prog_10_method_63_code
def yX8_close : MethodName := ⟨RX8, "close", "()I"⟩
abbrev cX8_span : ByteArray := prog_10_method_64_code
def yX8_span : MethodName := ⟨RX8, "span", "(III)I"⟩
abbrev cX8_cart : ByteArray := prog_10_method_65_code
def yX8_cart : MethodName := ⟨RX8, "cart", "(III)I"⟩
abbrev cX8_year : ByteArray := prog_10_method_66_code
def yX8_year : MethodName := ⟨RX8, "year", "(III)I"⟩
abbrev cX8_keep : ByteArray := prog_10_method_67_code
def yX8_keep : MethodName := ⟨RX8, "keep", "()I"⟩
abbrev cX8_back : ByteArray := prog_10_method_68_code
def yX8_back : MethodName := ⟨RX8, "back", "()I"⟩
abbrev cX8_count : ByteArray := prog_10_method_69_code
def yX8_count : MethodName := ⟨RX8, "count", "(I)I"⟩
def RJ6 : String := "java/lang/Integer"
def TJ6 : u_T := fun k => match k with
  | _ => ("", "", "", false)
def tyJ6 : Nat → FieldType := fun k => match k with
  | _ => .int
abbrev wsJ60 : List Cond := u_ws RJ6 TJ6 0
theorem nmJ6 : ∀ a, a < 0 → ∀ b, b < 0 → a ≠ b → (TJ6 a).2.1 ≠ (TJ6 b).2.1 := by decide +kernel
theorem tyJ6_ok : ∀ k, k < 0 → parseFieldDescriptor (TJ6 k).2.2.1 = some (tyJ6 k) := by decide +kernel
abbrev cJ6_bitCount_0f7a4 : ByteArray := prog_11_method_49_code
def yJ6_bitCount_0f7a4 : MethodName := ⟨RJ6, "bitCount", "(I)I"⟩
def RJ9 : String := "java/lang/Math"
def TJ9 : u_T := fun k => match k with
  | _ => ("", "", "", false)
def tyJ9 : Nat → FieldType := fun k => match k with
  | _ => .int
abbrev wsJ90 : List Cond := u_ws RJ9 TJ9 0
theorem nmJ9 : ∀ a, a < 0 → ∀ b, b < 0 → a ≠ b → (TJ9 a).2.1 ≠ (TJ9 b).2.1 := by decide +kernel
theorem tyJ9_ok : ∀ k, k < 0 → parseFieldDescriptor (TJ9 k).2.2.1 = some (tyJ9 k) := by decide +kernel
abbrev cJ9_floorMod_7cf53 : ByteArray := prog_12_method_50_code
def yJ9_floorMod_7cf53 : MethodName := ⟨RJ9, "floorMod", "(II)I"⟩
def RJ0 : String := "java/lang/String"
def TJ0 : u_T := fun k => match k with
  | _ => ("", "", "", false)
def tyJ0 : Nat → FieldType := fun k => match k with
  | _ => .int
abbrev wsJ00 : List Cond := u_ws RJ0 TJ0 0
theorem nmJ0 : ∀ a, a < 0 → ∀ b, b < 0 → a ≠ b → (TJ0 a).2.1 ≠ (TJ0 b).2.1 := by decide +kernel
theorem tyJ0_ok : ∀ k, k < 0 → parseFieldDescriptor (TJ0 k).2.2.1 = some (tyJ0 k) := by decide +kernel
abbrev cJ0_length_8abf5 : ByteArray := prog_13_method_54_code
def yJ0_length_8abf5 : MethodName := ⟨RJ0, "length", "()I"⟩
abbrev cJ0_charAt_5068e : ByteArray := prog_13_method_56_code
def yJ0_charAt_5068e : MethodName := ⟨RJ0, "charAt", "(I)C"⟩
abbrev cJ0_coder_7d493 : ByteArray := prog_13_method_152_code
def yJ0_coder_7d493 : MethodName := ⟨RJ0, "coder", "()B"⟩
abbrev cJ0_isLatin1_aae02 : ByteArray := prog_13_method_154_code
def yJ0_isLatin1_aae02 : MethodName := ⟨RJ0, "isLatin1", "()Z"⟩
abbrev cJ0_checkIndex_df160 : ByteArray := prog_13_method_155_code
def yJ0_checkIndex_df160 : MethodName := ⟨RJ0, "checkIndex", "(II)V"⟩
def RJ1 : String := "java/lang/StringLatin1"
def TJ1 : u_T := fun k => match k with
  | _ => ("", "", "", false)
def tyJ1 : Nat → FieldType := fun k => match k with
  | _ => .int
abbrev wsJ10 : List Cond := u_ws RJ1 TJ1 0
theorem nmJ1 : ∀ a, a < 0 → ∀ b, b < 0 → a ≠ b → (TJ1 a).2.1 ≠ (TJ1 b).2.1 := by decide +kernel
theorem tyJ1_ok : ∀ k, k < 0 → parseFieldDescriptor (TJ1 k).2.2.1 = some (tyJ1 k) := by decide +kernel
abbrev cJ1_charAt_3b067 : ByteArray := prog_14_method_2_code
def yJ1_charAt_3b067 : MethodName := ⟨RJ1, "charAt", "([BI)C"⟩
def RJ2 : String := "java/lang/StringUTF16"
def TJ2 : u_T := fun k => match k with
  | _ => ("", "", "", false)
def tyJ2 : Nat → FieldType := fun k => match k with
  | _ => .int
abbrev wsJ20 : List Cond := u_ws RJ2 TJ2 0
theorem nmJ2 : ∀ a, a < 0 → ∀ b, b < 0 → a ≠ b → (TJ2 a).2.1 ≠ (TJ2 b).2.1 := by decide +kernel
theorem tyJ2_ok : ∀ k, k < 0 → parseFieldDescriptor (TJ2 k).2.2.1 = some (tyJ2 k) := by decide +kernel
abbrev cJ2_getChar_3b067 : ByteArray := prog_15_method_5_code
def yJ2_getChar_3b067 : MethodName := ⟨RJ2, "getChar", "([BI)C"⟩
abbrev cJ2_length_9d52b : ByteArray := prog_15_method_6_code
def yJ2_length_9d52b : MethodName := ⟨RJ2, "length", "([B)I"⟩
abbrev cJ2_charAt_3b067 : ByteArray := prog_15_method_83_code
def yJ2_charAt_3b067 : MethodName := ⟨RJ2, "charAt", "([BI)C"⟩
abbrev cJ2_checkIndex_2214a : ByteArray := prog_15_method_91_code
def yJ2_checkIndex_2214a : MethodName := ⟨RJ2, "checkIndex", "(I[B)V"⟩
def RJ10 : String := "java/lang/System"
def TJ10 : u_T := fun k => match k with
  | _ => ("", "", "", false)
def tyJ10 : Nat → FieldType := fun k => match k with
  | _ => .int
abbrev wsJ100 : List Cond := u_ws RJ10 TJ10 0
theorem nmJ10 : ∀ a, a < 0 → ∀ b, b < 0 → a ≠ b → (TJ10 a).2.1 ≠ (TJ10 b).2.1 := by decide +kernel
theorem tyJ10_ok : ∀ k, k < 0 → parseFieldDescriptor (TJ10 k).2.2.1 = some (tyJ10 k) := by decide +kernel
def RJ3 : String := "jdk/internal/util/Preconditions"
def TJ3 : u_T := fun k => match k with
  | _ => ("", "", "", false)
def tyJ3 : Nat → FieldType := fun k => match k with
  | _ => .int
abbrev wsJ30 : List Cond := u_ws RJ3 TJ3 0
theorem nmJ3 : ∀ a, a < 0 → ∀ b, b < 0 → a ≠ b → (TJ3 a).2.1 ≠ (TJ3 b).2.1 := by decide +kernel
theorem tyJ3_ok : ∀ k, k < 0 → parseFieldDescriptor (TJ3 k).2.2.1 = some (tyJ3 k) := by decide +kernel
abbrev cJ3_checkIndex_8e157 : ByteArray := prog_17_method_11_code
def yJ3_checkIndex_8e157 : MethodName := ⟨RJ3, "checkIndex", "(IILjava/util/function/BiFunction;)I"⟩
def RL : String := "PennyPlanksLaw"
abbrev cL_law : ByteArray := code
def yL_law : MethodName := ⟨RL, "law", "([I)Z"⟩
/-! an instruction at a place: fet is decode, with its length and its targets looked at -/
def lenOk (i : Instr) (n pc : Nat) : Bool := match i with
  | .tableswitch d _ _ offs => decide (0 ≤ (pc : Int) + d) && offs.toList.all (fun o => decide (0 ≤ (pc : Int) + o))
  | .lookupswitch d ps => decide (0 ≤ (pc : Int) + d) && ps.toList.all (fun o => decide (0 ≤ (pc : Int) + o.2))
  | .bipush _ => n == 2
  | .sipush _ => n == 3
  | .ldc _ => n == 2
  | .ldc2_w _ => n == 3
  | .ldc_w _ => n == 3
  | .iload _ => n == 2
  | .lload _ => n == 2
  | .aload _ => n == 2
  | .istore _ => n == 2
  | .lstore _ => n == 2
  | .astore _ => n == 2
  | .iinc _ _ => n == 3
  | .ifCond _ off => n == 3 && decide (0 ≤ (pc : Int) + off)
  | .if_icmp _ off => n == 3 && decide (0 ≤ (pc : Int) + off)
  | .goto off => n == 3 && decide (0 ≤ (pc : Int) + off)
  | .getfield _ => n == 3
  | .putfield _ => n == 3
  | .getstatic _ => n == 3
  | .invokevirtual _ => n == 3
  | .invokestatic _ => n == 3
  | .invokespecial _ => n == 3
  | .new _ => n == 3
  | .anewarray _ => n == 3
  | .newarray _ => n == 2
  | _ => n == 1
def fet (cc : ByteArray) (pc : Nat) : Option Instr := match decode cc pc with
  | .ok (i, n) => if lenOk i n pc then some i else none
  | .error _ => none
theorem fet_d {cc : ByteArray} {pc : Nat} {i : Instr} (h : fet cc pc = some i) : ∃ n, decode cc pc = .ok (i, n) ∧ lenOk i n pc = true := by
  unfold fet at h
  split at h
  · rename_i j n hd
    split at h
    · rename_i hl
      cases h
      exact ⟨n, hd, hl⟩
    · cases h
  · cases h
