def RX0 : String := "CupboardPoll$1"
def TX0 : u_T := fun k => match k with
  | _ => ("", "", "", false)
def tyX0 : Nat → FieldType := fun k => match k with
  | _ => .int
abbrev wsX00 : List Cond := u_ws RX0 TX0 0
theorem nmX0 : ∀ a, a < 0 → ∀ b, b < 0 → a ≠ b → (TX0 a).2.1 ≠ (TX0 b).2.1 := by decide +kernel
theorem tyX0_ok : ∀ k, k < 0 → parseFieldDescriptor (TX0 k).2.2.1 = some (tyX0 k) := by decide +kernel
def RX1 : String := "CupboardPoll$Book"
def TX1 : u_T := fun k => match k with
  | 0 => ("CupboardPoll$Book", "labelNames", "[J", true)
  | 1 => ("CupboardPoll$Book", "jarNames", "[J", true)
  | 2 => ("CupboardPoll$Book", "lidNames", "[J", true)
  | 3 => ("CupboardPoll$Book", "lidLabels", "[I", true)
  | 4 => ("CupboardPoll$Book", "lidRules", "[I", true)
  | 5 => ("CupboardPoll$Book", "lidRulesEnd", "[I", true)
  | 6 => ("CupboardPoll$Book", "start", "LCupboardPoll$Cupboard;", true)
  | 7 => ("CupboardPoll$Book", "script", "LCupboardPoll$Script;", true)
  | 8 => ("CupboardPoll$Book", "labels", "I", false)
  | 9 => ("CupboardPoll$Book", "jars", "I", false)
  | _ => ("CupboardPoll$Book", "lids", "I", false)
def tyX1 : Nat → FieldType := fun k => match k with
  | 0 => .array .long
  | 1 => .array .long
  | 2 => .array .long
  | 3 => .array .int
  | 4 => .array .int
  | 5 => .array .int
  | 6 => .object "CupboardPoll$Cupboard"
  | 7 => .object "CupboardPoll$Script"
  | 8 => .int
  | 9 => .int
  | _ => .int
abbrev wsX10 : List Cond := u_ws RX1 TX1 11
theorem nmX1 : ∀ a, a < 11 → ∀ b, b < 11 → a ≠ b → (TX1 a).2.1 ≠ (TX1 b).2.1 := by decide +kernel
theorem tyX1_ok : ∀ k, k < 11 → parseFieldDescriptor (TX1 k).2.2.1 = some (tyX1 k) := by decide +kernel
abbrev cX1_init : ByteArray := prog_3_method_1_code
def yX1_init : MethodName := ⟨RX1, "<init>", "()V"⟩
abbrev cX1_empty : ByteArray := prog_3_method_2_code
def yX1_empty : MethodName := ⟨RX1, "empty", "()V"⟩
abbrev cX1_find : ByteArray := prog_3_method_3_code
def yX1_find : MethodName := ⟨RX1, "find", "([JIJ)I"⟩
abbrev cX1_hasName : ByteArray := prog_3_method_4_code
def yX1_hasName : MethodName := ⟨RX1, "hasName", "(J)Z"⟩
abbrev cX1_addLabel : ByteArray := prog_3_method_5_code
def yX1_addLabel : MethodName := ⟨RX1, "addLabel", "(J)V"⟩
abbrev cX1_addJar : ByteArray := prog_3_method_6_code
def yX1_addJar : MethodName := ⟨RX1, "addJar", "(J)V"⟩
abbrev cX1_setSeats : ByteArray := prog_3_method_7_code
def yX1_setSeats : MethodName := ⟨RX1, "setSeats", "(ILCupboardPoll$Kind;)V"⟩
abbrev cX1_setBeans : ByteArray := prog_3_method_8_code
def yX1_setBeans : MethodName := ⟨RX1, "setBeans", "(II)V"⟩
abbrev cX1_addLid : ByteArray := prog_3_method_9_code
def yX1_addLid : MethodName := ⟨RX1, "addLid", "(JII)V"⟩
abbrev cX1_addRule : ByteArray := prog_3_method_10_code
def yX1_addRule : MethodName := ⟨RX1, "addRule", "()V"⟩
def RX2 : String := "CupboardPoll$Campaign"
def TX2 : u_T := fun k => match k with
  | 0 => ("CupboardPoll$Campaign", "stack", "[I", true)
  | 1 => ("CupboardPoll$Campaign", "height", "I", false)
  | _ => ("CupboardPoll$Campaign", "acts", "I", false)
def tyX2 : Nat → FieldType := fun k => match k with
  | 0 => .array .int
  | 1 => .int
  | _ => .int
abbrev wsX20 : List Cond := u_ws RX2 TX2 3
theorem nmX2 : ∀ a, a < 3 → ∀ b, b < 3 → a ≠ b → (TX2 a).2.1 ≠ (TX2 b).2.1 := by decide +kernel
theorem tyX2_ok : ∀ k, k < 3 → parseFieldDescriptor (TX2 k).2.2.1 = some (tyX2 k) := by decide +kernel
abbrev cX2_init : ByteArray := prog_4_method_1_code
def yX2_init : MethodName := ⟨RX2, "<init>", "()V"⟩
abbrev cX2_spendDay : ByteArray := prog_4_method_2_code
def yX2_spendDay : MethodName := ⟨RX2, "spendDay", "(LCupboardPoll$Book;LCupboardPoll$Cupboard;)I"⟩
abbrev cX2_ruleFor : ByteArray := prog_4_method_3_code
def yX2_ruleFor : MethodName := ⟨RX2, "ruleFor", "(LCupboardPoll$Book;LCupboardPoll$Cupboard;I)I"⟩
abbrev cX2_run : ByteArray := prog_4_method_4_code
def yX2_run : MethodName := ⟨RX2, "run", "(LCupboardPoll$Book;LCupboardPoll$Cupboard;III)V"⟩
abbrev cX2_act : ByteArray := prog_4_method_5_code
def yX2_act : MethodName := ⟨RX2, "act", "(LCupboardPoll$Kind;ILCupboardPoll$Book;LCupboardPoll$Cupboard;I)V"⟩
abbrev cX2_look : ByteArray := prog_4_method_6_code
def yX2_look : MethodName := ⟨RX2, "look", "(LCupboardPoll$Kind;ILCupboardPoll$Cupboard;II)I"⟩
abbrev cX2_reckon : ByteArray := prog_4_method_7_code
def yX2_reckon : MethodName := ⟨RX2, "reckon", "(LCupboardPoll$Kind;II)I"⟩
abbrev cX2_push : ByteArray := prog_4_method_8_code
def yX2_push : MethodName := ⟨RX2, "push", "(I)V"⟩
abbrev cX2_pop : ByteArray := prog_4_method_9_code
def yX2_pop : MethodName := ⟨RX2, "pop", "()I"⟩
def RX3 : String := "CupboardPoll$Cupboard"
def TX3 : u_T := fun k => match k with
  | 0 => ("CupboardPoll$Cupboard", "jars", "[LCupboardPoll$Jar;", true)
  | 1 => ("CupboardPoll$Cupboard", "lidJars", "[I", true)
  | 2 => ("CupboardPoll$Cupboard", "follows", "[I", true)
  | 3 => ("CupboardPoll$Cupboard", "leaders", "[I", true)
  | _ => ("CupboardPoll$Cupboard", "day", "I", false)
def tyX3 : Nat → FieldType := fun k => match k with
  | 0 => .array (.object "CupboardPoll$Jar")
  | 1 => .array .int
  | 2 => .array .int
  | 3 => .array .int
  | _ => .int
abbrev wsX30 : List Cond := u_ws RX3 TX3 5
theorem nmX3 : ∀ a, a < 5 → ∀ b, b < 5 → a ≠ b → (TX3 a).2.1 ≠ (TX3 b).2.1 := by decide +kernel
theorem tyX3_ok : ∀ k, k < 5 → parseFieldDescriptor (TX3 k).2.2.1 = some (tyX3 k) := by decide +kernel
abbrev cX3_init : ByteArray := prog_5_method_1_code
def yX3_init : MethodName := ⟨RX3, "<init>", "()V"⟩
abbrev cX3_empty : ByteArray := prog_5_method_2_code
def yX3_empty : MethodName := ⟨RX3, "empty", "()V"⟩
abbrev cX3_becomeLike : ByteArray := prog_5_method_3_code
def yX3_becomeLike : MethodName := ⟨RX3, "becomeLike", "(LCupboardPoll$Cupboard;)V"⟩
abbrev cX3_counted : ByteArray := prog_5_method_4_code
def yX3_counted : MethodName := ⟨RX3, "counted", "(I)LCupboardPoll$Jar;"⟩
abbrev cX3_allSeats : ByteArray := prog_5_method_5_code
def yX3_allSeats : MethodName := ⟨RX3, "allSeats", "(I)I"⟩
abbrev cX3_governs : ByteArray := prog_5_method_6_code
def yX3_governs : MethodName := ⟨RX3, "governs", "(I)Z"⟩
abbrev cX3_mayFollow : ByteArray := prog_5_method_7_code
def yX3_mayFollow : MethodName := ⟨RX3, "mayFollow", "(II)Z"⟩
abbrev cX3_follow : ByteArray := prog_5_method_8_code
def yX3_follow : MethodName := ⟨RX3, "follow", "(II)V"⟩
def RX4 : String := "CupboardPoll$Jar"
def TX4 : u_T := fun k => match k with
  | 0 => ("CupboardPoll$Jar", "beans", "[I", true)
  | 1 => ("CupboardPoll$Jar", "pooled", "[I", true)
  | 2 => ("CupboardPoll$Jar", "won", "[I", true)
  | 3 => ("CupboardPoll$Jar", "left", "[I", true)
  | 4 => ("CupboardPoll$Jar", "seats", "I", false)
  | 5 => ("CupboardPoll$Jar", "way", "LCupboardPoll$Kind;", false)
  | 6 => ("CupboardPoll$Jar", "turnout", "I", false)
  | 7 => ("CupboardPoll$Jar", "first", "I", false)
  | 8 => ("CupboardPoll$Jar", "margin", "I", false)
  | _ => ("CupboardPoll$Jar", "isCounted", "Z", false)
def tyX4 : Nat → FieldType := fun k => match k with
  | 0 => .array .int
  | 1 => .array .int
  | 2 => .array .int
  | 3 => .array .int
  | 4 => .int
  | 5 => .object "CupboardPoll$Kind"
  | 6 => .int
  | 7 => .int
  | 8 => .int
  | _ => .boolean
abbrev wsX40 : List Cond := u_ws RX4 TX4 10
theorem nmX4 : ∀ a, a < 10 → ∀ b, b < 10 → a ≠ b → (TX4 a).2.1 ≠ (TX4 b).2.1 := by decide +kernel
theorem tyX4_ok : ∀ k, k < 10 → parseFieldDescriptor (TX4 k).2.2.1 = some (tyX4 k) := by decide +kernel
abbrev cX4_init : ByteArray := prog_6_method_1_code
def yX4_init : MethodName := ⟨RX4, "<init>", "()V"⟩
abbrev cX4_empty : ByteArray := prog_6_method_2_code
def yX4_empty : MethodName := ⟨RX4, "empty", "()V"⟩
abbrev cX4_becomeLike : ByteArray := prog_6_method_3_code
def yX4_becomeLike : MethodName := ⟨RX4, "becomeLike", "(LCupboardPoll$Jar;)V"⟩
abbrev cX4_move : ByteArray := prog_6_method_4_code
def yX4_move : MethodName := ⟨RX4, "move", "(III)I"⟩
abbrev cX4_stir : ByteArray := prog_6_method_5_code
def yX4_stir : MethodName := ⟨RX4, "stir", "(I)V"⟩
abbrev cX4_count : ByteArray := prog_6_method_6_code
def yX4_count : MethodName := ⟨RX4, "count", "([I)V"⟩
abbrev cX4_emptySeatsLeft : ByteArray := prog_6_method_7_code
def yX4_emptySeatsLeft : MethodName := ⟨RX4, "emptySeatsLeft", "()I"⟩
abbrev cX4_beansMissing : ByteArray := prog_6_method_8_code
def yX4_beansMissing : MethodName := ⟨RX4, "beansMissing", "(I)I"⟩
abbrev cX4_pool : ByteArray := prog_6_method_9_code
def yX4_pool : MethodName := ⟨RX4, "pool", "([I)V"⟩
abbrev cX4_findFirst : ByteArray := prog_6_method_10_code
def yX4_findFirst : MethodName := ⟨RX4, "findFirst", "()V"⟩
abbrev cX4_divideSeats : ByteArray := prog_6_method_11_code
def yX4_divideSeats : MethodName := ⟨RX4, "divideSeats", "()V"⟩
abbrev cX4_giveSeatsByQuota : ByteArray := prog_6_method_12_code
def yX4_giveSeatsByQuota : MethodName := ⟨RX4, "giveSeatsByQuota", "()V"⟩
def RX5 : String := "CupboardPoll$Kind"
def TX5 : u_T := fun k => match k with
  | _ => ("", "", "", false)
def tyX5 : Nat → FieldType := fun k => match k with
  | _ => .int
abbrev wsX50 : List Cond := u_ws RX5 TX5 0
theorem nmX5 : ∀ a, a < 0 → ∀ b, b < 0 → a ≠ b → (TX5 a).2.1 ≠ (TX5 b).2.1 := by decide +kernel
theorem tyX5_ok : ∀ k, k < 0 → parseFieldDescriptor (TX5 k).2.2.1 = some (tyX5 k) := by decide +kernel
def RX6 : String := "CupboardPoll$Reader"
def TX6 : u_T := fun k => match k with
  | 0 => ("CupboardPoll$Reader", "tokens", "LCupboardPoll$Tokens;", true)
  | 1 => ("CupboardPoll$Reader", "draft", "LCupboardPoll$Book;", false)
  | 2 => ("CupboardPoll$Reader", "next", "I", false)
  | 3 => ("CupboardPoll$Reader", "kind", "LCupboardPoll$Kind;", false)
  | 4 => ("CupboardPoll$Reader", "error", "I", false)
  | 5 => ("CupboardPoll$Reader", "errorToken", "I", false)
  | _ => ("CupboardPoll$Reader", "errorAt", "I", false)
def tyX6 : Nat → FieldType := fun k => match k with
  | 0 => .object "CupboardPoll$Tokens"
  | 1 => .object "CupboardPoll$Book"
  | 2 => .int
  | 3 => .object "CupboardPoll$Kind"
  | 4 => .int
  | 5 => .int
  | _ => .int
abbrev wsX60 : List Cond := u_ws RX6 TX6 7
theorem nmX6 : ∀ a, a < 7 → ∀ b, b < 7 → a ≠ b → (TX6 a).2.1 ≠ (TX6 b).2.1 := by decide +kernel
theorem tyX6_ok : ∀ k, k < 7 → parseFieldDescriptor (TX6 k).2.2.1 = some (tyX6 k) := by decide +kernel
abbrev cX6_init : ByteArray := prog_8_method_1_code
def yX6_init : MethodName := ⟨RX6, "<init>", "()V"⟩
abbrev cX6_read : ByteArray := prog_8_method_2_code
def yX6_read : MethodName := ⟨RX6, "read", "(LCupboardPoll$Tape;)I"⟩
abbrev cX6_handOver : ByteArray := prog_8_method_3_code
def yX6_handOver : MethodName := ⟨RX6, "handOver", "(LCupboardPoll$Book;)LCupboardPoll$Book;"⟩
abbrev cX6_labelLine : ByteArray := prog_8_method_4_code
def yX6_labelLine : MethodName := ⟨RX6, "labelLine", "()V"⟩
abbrev cX6_jarLine : ByteArray := prog_8_method_5_code
def yX6_jarLine : MethodName := ⟨RX6, "jarLine", "()V"⟩
abbrev cX6_hold : ByteArray := prog_8_method_6_code
def yX6_hold : MethodName := ⟨RX6, "hold", "(I)V"⟩
abbrev cX6_lidLine : ByteArray := prog_8_method_7_code
def yX6_lidLine : MethodName := ⟨RX6, "lidLine", "()V"⟩
abbrev cX6_ruleOfBook : ByteArray := prog_8_method_8_code
def yX6_ruleOfBook : MethodName := ⟨RX6, "ruleOfBook", "()V"⟩
abbrev cX6_act : ByteArray := prog_8_method_9_code
def yX6_act : MethodName := ⟨RX6, "act", "()V"⟩
abbrev cX6_test : ByteArray := prog_8_method_10_code
def yX6_test : MethodName := ⟨RX6, "test", "(I)V"⟩
abbrev cX6_both : ByteArray := prog_8_method_11_code
def yX6_both : MethodName := ⟨RX6, "both", "(I)V"⟩
abbrev cX6_single : ByteArray := prog_8_method_12_code
def yX6_single : MethodName := ⟨RX6, "single", "(I)V"⟩
abbrev cX6_kept : ByteArray := prog_8_method_13_code
def yX6_kept : MethodName := ⟨RX6, "kept", "(I)V"⟩
abbrev cX6_sum : ByteArray := prog_8_method_14_code
def yX6_sum : MethodName := ⟨RX6, "sum", "(I)V"⟩
abbrev cX6_product : ByteArray := prog_8_method_15_code
def yX6_product : MethodName := ⟨RX6, "product", "(I)V"⟩
abbrev cX6_atom : ByteArray := prog_8_method_16_code
def yX6_atom : MethodName := ⟨RX6, "atom", "(I)V"⟩
abbrev cX6_lookAtNewName : ByteArray := prog_8_method_17_code
def yX6_lookAtNewName : MethodName := ⟨RX6, "lookAtNewName", "(Z)V"⟩
abbrev cX6_labelHere : ByteArray := prog_8_method_18_code
def yX6_labelHere : MethodName := ⟨RX6, "labelHere", "()I"⟩
abbrev cX6_jarHere : ByteArray := prog_8_method_19_code
def yX6_jarHere : MethodName := ⟨RX6, "jarHere", "()I"⟩
abbrev cX6_step : ByteArray := prog_8_method_20_code
def yX6_step : MethodName := ⟨RX6, "step", "(LCupboardPoll$Kind;I)V"⟩
abbrev cX6_take : ByteArray := prog_8_method_21_code
def yX6_take : MethodName := ⟨RX6, "take", "(LCupboardPoll$Kind;)V"⟩
abbrev cX6_report : ByteArray := prog_8_method_22_code
def yX6_report : MethodName := ⟨RX6, "report", "(I)V"⟩
def RX7 : String := "CupboardPoll$Script"
def TX7 : u_T := fun k => match k with
  | 0 => ("CupboardPoll$Script", "kinds", "[LCupboardPoll$Kind;", true)
  | 1 => ("CupboardPoll$Script", "numbers", "[I", true)
  | 2 => ("CupboardPoll$Script", "tests", "[I", true)
  | 3 => ("CupboardPoll$Script", "testEnds", "[I", true)
  | 4 => ("CupboardPoll$Script", "actEnds", "[I", true)
  | 5 => ("CupboardPoll$Script", "steps", "I", false)
  | 6 => ("CupboardPoll$Script", "rules", "I", false)
  | _ => ("CupboardPoll$Script", "acts", "I", false)
def tyX7 : Nat → FieldType := fun k => match k with
  | 0 => .array (.object "CupboardPoll$Kind")
  | 1 => .array .int
  | 2 => .array .int
  | 3 => .array .int
  | 4 => .array .int
  | 5 => .int
  | 6 => .int
  | _ => .int
abbrev wsX70 : List Cond := u_ws RX7 TX7 8
theorem nmX7 : ∀ a, a < 8 → ∀ b, b < 8 → a ≠ b → (TX7 a).2.1 ≠ (TX7 b).2.1 := by decide +kernel
theorem tyX7_ok : ∀ k, k < 8 → parseFieldDescriptor (TX7 k).2.2.1 = some (tyX7 k) := by decide +kernel
abbrev cX7_init : ByteArray := prog_9_method_1_code
def yX7_init : MethodName := ⟨RX7, "<init>", "()V"⟩
abbrev cX7_empty : ByteArray := prog_9_method_2_code
def yX7_empty : MethodName := ⟨RX7, "empty", "()V"⟩
abbrev cX7_add : ByteArray := prog_9_method_3_code
def yX7_add : MethodName := ⟨RX7, "add", "(LCupboardPoll$Kind;I)V"⟩
abbrev cX7_beginRule : ByteArray := prog_9_method_4_code
def yX7_beginRule : MethodName := ⟨RX7, "beginRule", "()V"⟩
abbrev cX7_endTest : ByteArray := prog_9_method_5_code
def yX7_endTest : MethodName := ⟨RX7, "endTest", "()V"⟩
abbrev cX7_endActs : ByteArray := prog_9_method_6_code
def yX7_endActs : MethodName := ⟨RX7, "endActs", "()V"⟩
abbrev cX7_kindAt : ByteArray := prog_9_method_7_code
def yX7_kindAt : MethodName := ⟨RX7, "kindAt", "(I)LCupboardPoll$Kind;"⟩
abbrev cX7_numberAt : ByteArray := prog_9_method_8_code
def yX7_numberAt : MethodName := ⟨RX7, "numberAt", "(I)I"⟩
def RX8 : String := "CupboardPoll$Tape"
def TX8 : u_T := fun k => match k with
  | 0 => ("CupboardPoll$Tape", "bytes", "[B", true)
  | _ => ("CupboardPoll$Tape", "length", "I", false)
def tyX8 : Nat → FieldType := fun k => match k with
  | 0 => .array .byte
  | _ => .int
abbrev wsX80 : List Cond := u_ws RX8 TX8 2
theorem nmX8 : ∀ a, a < 2 → ∀ b, b < 2 → a ≠ b → (TX8 a).2.1 ≠ (TX8 b).2.1 := by decide +kernel
theorem tyX8_ok : ∀ k, k < 2 → parseFieldDescriptor (TX8 k).2.2.1 = some (tyX8 k) := by decide +kernel
abbrev cX8_init : ByteArray := prog_10_method_1_code
def yX8_init : MethodName := ⟨RX8, "<init>", "()V"⟩
abbrev cX8_hasRoomFor : ByteArray := prog_10_method_2_code
def yX8_hasRoomFor : MethodName := ⟨RX8, "hasRoomFor", "(I)Z"⟩
abbrev cX8_append : ByteArray := prog_10_method_3_code
def yX8_append : MethodName := ⟨RX8, "append", "(I)V"⟩
abbrev cX8_at : ByteArray := prog_10_method_4_code
def yX8_at : MethodName := ⟨RX8, "at", "(I)I"⟩
abbrev cX8_isLetter : ByteArray := prog_10_method_5_code
def yX8_isLetter : MethodName := ⟨RX8, "isLetter", "(I)Z"⟩
abbrev cX8_isDigit : ByteArray := prog_10_method_6_code
def yX8_isDigit : MethodName := ⟨RX8, "isDigit", "(I)Z"⟩
abbrev cX8_isBlank : ByteArray := prog_10_method_7_code
def yX8_isBlank : MethodName := ⟨RX8, "isBlank", "(I)Z"⟩
abbrev cX8_reads : ByteArray := prog_10_method_8_code
def yX8_reads : MethodName := ⟨RX8, "reads", "(Ljava/lang/String;II)Z"⟩
def RX9 : String := "CupboardPoll$Tokens"
def TX9 : u_T := fun k => match k with
  | 0 => ("CupboardPoll$Tokens", "kinds", "[LCupboardPoll$Kind;", true)
  | 1 => ("CupboardPoll$Tokens", "starts", "[I", true)
  | 2 => ("CupboardPoll$Tokens", "values", "[J", true)
  | _ => ("CupboardPoll$Tokens", "count", "I", false)
def tyX9 : Nat → FieldType := fun k => match k with
  | 0 => .array (.object "CupboardPoll$Kind")
  | 1 => .array .int
  | 2 => .array .long
  | _ => .int
abbrev wsX90 : List Cond := u_ws RX9 TX9 4
theorem nmX9 : ∀ a, a < 4 → ∀ b, b < 4 → a ≠ b → (TX9 a).2.1 ≠ (TX9 b).2.1 := by decide +kernel
theorem tyX9_ok : ∀ k, k < 4 → parseFieldDescriptor (TX9 k).2.2.1 = some (tyX9 k) := by decide +kernel
abbrev cX9_init : ByteArray := prog_11_method_1_code
def yX9_init : MethodName := ⟨RX9, "<init>", "()V"⟩
abbrev cX9_readFrom : ByteArray := prog_11_method_2_code
def yX9_readFrom : MethodName := ⟨RX9, "readFrom", "(LCupboardPoll$Tape;)V"⟩
abbrev cX9_kindAt : ByteArray := prog_11_method_3_code
def yX9_kindAt : MethodName := ⟨RX9, "kindAt", "(I)LCupboardPoll$Kind;"⟩
abbrev cX9_startAt : ByteArray := prog_11_method_4_code
def yX9_startAt : MethodName := ⟨RX9, "startAt", "(I)I"⟩
abbrev cX9_valueAt : ByteArray := prog_11_method_5_code
def yX9_valueAt : MethodName := ⟨RX9, "valueAt", "(I)J"⟩
abbrev cX9_behindBlanks : ByteArray := prog_11_method_6_code
def yX9_behindBlanks : MethodName := ⟨RX9, "behindBlanks", "(LCupboardPoll$Tape;I)I"⟩
abbrev cX9_behindToken : ByteArray := prog_11_method_7_code
def yX9_behindToken : MethodName := ⟨RX9, "behindToken", "(LCupboardPoll$Tape;I)I"⟩
abbrev cX9_kindOf : ByteArray := prog_11_method_8_code
def yX9_kindOf : MethodName := ⟨RX9, "kindOf", "(LCupboardPoll$Tape;II)LCupboardPoll$Kind;"⟩
abbrev cX9_valueOf : ByteArray := prog_11_method_9_code
def yX9_valueOf : MethodName := ⟨RX9, "valueOf", "(LCupboardPoll$Tape;LCupboardPoll$Kind;II)J"⟩
def RX10 : String := "CupboardPoll"
def TX10 : u_T := fun k => match k with
  | 0 => ("CupboardPoll", "tape", "LCupboardPoll$Tape;", true)
  | 1 => ("CupboardPoll", "reader", "LCupboardPoll$Reader;", true)
  | 2 => ("CupboardPoll", "now", "LCupboardPoll$Cupboard;", true)
  | 3 => ("CupboardPoll", "later", "LCupboardPoll$Cupboard;", true)
  | 4 => ("CupboardPoll", "campaign", "LCupboardPoll$Campaign;", true)
  | 5 => ("CupboardPoll", "book", "LCupboardPoll$Book;", false)
  | _ => ("CupboardPoll", "latestErrorAt", "I", false)
def tyX10 : Nat → FieldType := fun k => match k with
  | 0 => .object "CupboardPoll$Tape"
  | 1 => .object "CupboardPoll$Reader"
  | 2 => .object "CupboardPoll$Cupboard"
  | 3 => .object "CupboardPoll$Cupboard"
  | 4 => .object "CupboardPoll$Campaign"
  | 5 => .object "CupboardPoll$Book"
  | _ => .int
abbrev wsX100 : List Cond := u_ws RX10 TX10 7
theorem nmX10 : ∀ a, a < 7 → ∀ b, b < 7 → a ≠ b → (TX10 a).2.1 ≠ (TX10 b).2.1 := by decide +kernel
theorem tyX10_ok : ∀ k, k < 7 → parseFieldDescriptor (TX10 k).2.2.1 = some (tyX10 k) := by decide +kernel
abbrev cX10_init : ByteArray := prog_1_method_1_code
def yX10_init : MethodName := ⟨RX10, "<init>", "()V"⟩
abbrev cX10_feed : ByteArray := prog_1_method_2_code
def yX10_feed : MethodName := ⟨RX10, "feed", "(IIIII)I"⟩
abbrev cX10_trim : ByteArray := prog_1_method_3_code
def yX10_trim : MethodName := ⟨RX10, "trim", "(I)I"⟩
abbrev cX10_teach : ByteArray := prog_1_method_4_code
def yX10_teach : MethodName := ⟨RX10, "teach", "()I"⟩
abbrev cX10_labels : ByteArray := prog_1_method_6_code
def yX10_labels : MethodName := ⟨RX10, "labels", "()I"⟩
abbrev cX10_jars : ByteArray := prog_1_method_7_code
def yX10_jars : MethodName := ⟨RX10, "jars", "()I"⟩
abbrev cX10_lids : ByteArray := prog_1_method_8_code
def yX10_lids : MethodName := ⟨RX10, "lids", "()I"⟩
abbrev cX10_days : ByteArray := prog_1_method_9_code
def yX10_days : MethodName := ⟨RX10, "days", "()I"⟩
abbrev cX10_alliances : ByteArray := prog_1_method_10_code
def yX10_alliances : MethodName := ⟨RX10, "alliances", "()I"⟩
abbrev cX10_beansIn : ByteArray := prog_1_method_11_code
def yX10_beansIn : MethodName := ⟨RX10, "beansIn", "(II)I"⟩
abbrev cX10_beansOf : ByteArray := prog_1_method_12_code
def yX10_beansOf : MethodName := ⟨RX10, "beansOf", "(I)I"⟩
abbrev cX10_turnout : ByteArray := prog_1_method_13_code
def yX10_turnout : MethodName := ⟨RX10, "turnout", "(I)I"⟩
abbrev cX10_seatsOf : ByteArray := prog_1_method_14_code
def yX10_seatsOf : MethodName := ⟨RX10, "seatsOf", "(I)I"⟩
abbrev cX10_leaderOf : ByteArray := prog_1_method_15_code
def yX10_leaderOf : MethodName := ⟨RX10, "leaderOf", "(I)I"⟩
abbrev cX10_areAllied : ByteArray := prog_1_method_16_code
def yX10_areAllied : MethodName := ⟨RX10, "areAllied", "(II)Z"⟩
abbrev cX10_firstIn : ByteArray := prog_1_method_17_code
def yX10_firstIn : MethodName := ⟨RX10, "firstIn", "(I)I"⟩
abbrev cX10_marginIn : ByteArray := prog_1_method_18_code
def yX10_marginIn : MethodName := ⟨RX10, "marginIn", "(I)I"⟩
abbrev cX10_allianceBeans : ByteArray := prog_1_method_19_code
def yX10_allianceBeans : MethodName := ⟨RX10, "allianceBeans", "(II)I"⟩
abbrev cX10_seatsWon : ByteArray := prog_1_method_20_code
def yX10_seatsWon : MethodName := ⟨RX10, "seatsWon", "(II)I"⟩
abbrev cX10_emptySeats : ByteArray := prog_1_method_21_code
def yX10_emptySeats : MethodName := ⟨RX10, "emptySeats", "(I)I"⟩
abbrev cX10_seatsInAll : ByteArray := prog_1_method_22_code
def yX10_seatsInAll : MethodName := ⟨RX10, "seatsInAll", "(I)I"⟩
abbrev cX10_leading : ByteArray := prog_1_method_23_code
def yX10_leading : MethodName := ⟨RX10, "leading", "()I"⟩
abbrev cX10_hasMajority : ByteArray := prog_1_method_24_code
def yX10_hasMajority : MethodName := ⟨RX10, "hasMajority", "(I)Z"⟩
abbrev cX10_jarOfLid : ByteArray := prog_1_method_25_code
def yX10_jarOfLid : MethodName := ⟨RX10, "jarOfLid", "(I)I"⟩
abbrev cX10_labelOfLid : ByteArray := prog_1_method_26_code
def yX10_labelOfLid : MethodName := ⟨RX10, "labelOfLid", "(I)I"⟩
abbrev cX10_ruleOfLid : ByteArray := prog_1_method_27_code
def yX10_ruleOfLid : MethodName := ⟨RX10, "ruleOfLid", "(I)I"⟩
abbrev cX10_pour : ByteArray := prog_1_method_28_code
def yX10_pour : MethodName := ⟨RX10, "pour", "(IIII)I"⟩
abbrev cX10_shake : ByteArray := prog_1_method_29_code
def yX10_shake : MethodName := ⟨RX10, "shake", "(I)I"⟩
abbrev cX10_putLid : ByteArray := prog_1_method_30_code
def yX10_putLid : MethodName := ⟨RX10, "putLid", "(II)I"⟩
abbrev cX10_join : ByteArray := prog_1_method_31_code
def yX10_join : MethodName := ⟨RX10, "join", "(II)I"⟩
abbrev cX10_leave : ByteArray := prog_1_method_32_code
def yX10_leave : MethodName := ⟨RX10, "leave", "(I)I"⟩
abbrev cX10_pass : ByteArray := prog_1_method_33_code
def yX10_pass : MethodName := ⟨RX10, "pass", "(I)I"⟩
abbrev cX10_seatsAfter : ByteArray := prog_1_method_34_code
def yX10_seatsAfter : MethodName := ⟨RX10, "seatsAfter", "(II)I"⟩
abbrev cX10_daysUntilMajority : ByteArray := prog_1_method_35_code
def yX10_daysUntilMajority : MethodName := ⟨RX10, "daysUntilMajority", "(I)I"⟩
abbrev cX10_beansToWin : ByteArray := prog_1_method_36_code
def yX10_beansToWin : MethodName := ⟨RX10, "beansToWin", "(II)I"⟩
abbrev cX10_bestJarFor : ByteArray := prog_1_method_37_code
def yX10_bestJarFor : MethodName := ⟨RX10, "bestJarFor", "(I)I"⟩
abbrev cX10_firstShaken : ByteArray := prog_1_method_38_code
def yX10_firstShaken : MethodName := ⟨RX10, "firstShaken", "(I)I"⟩
abbrev cX10_meanMargin : ByteArray := prog_1_method_39_code
def yX10_meanMargin : MethodName := ⟨RX10, "meanMargin", "()D"⟩
abbrev cX10_digest : ByteArray := prog_1_method_40_code
def yX10_digest : MethodName := ⟨RX10, "digest", "()J"⟩
abbrev cX10_withLabel : ByteArray := prog_1_method_41_code
def yX10_withLabel : MethodName := ⟨RX10, "withLabel", "(JI)J"⟩
abbrev cX10_withJar : ByteArray := prog_1_method_42_code
def yX10_withJar : MethodName := ⟨RX10, "withJar", "(JI)J"⟩
abbrev cX10_checkJar : ByteArray := prog_1_method_43_code
def yX10_checkJar : MethodName := ⟨RX10, "checkJar", "(I)V"⟩
abbrev cX10_checkLabel : ByteArray := prog_1_method_44_code
def yX10_checkLabel : MethodName := ⟨RX10, "checkLabel", "(I)V"⟩
abbrev cX10_checkLid : ByteArray := prog_1_method_45_code
def yX10_checkLid : MethodName := ⟨RX10, "checkLid", "(I)V"⟩
abbrev cX10_checkDays : ByteArray := prog_1_method_46_code
def yX10_checkDays : MethodName := ⟨RX10, "checkDays", "(I)V"⟩
def RX11 : String := "CupboardPollLaw$Act"
def TX11 : u_T := fun k => match k with
  | 0 => ("CupboardPollLaw$Act", "does", "I", true)
  | 1 => ("CupboardPollLaw$Act", "whom", "I", true)
  | _ => ("CupboardPollLaw$Act", "value", "LCupboardPollLaw$Node;", true)
def tyX11 : Nat → FieldType := fun k => match k with
  | 0 => .int
  | 1 => .int
  | _ => .object "CupboardPollLaw$Node"
abbrev wsX110 : List Cond := u_ws RX11 TX11 3
theorem nmX11 : ∀ a, a < 3 → ∀ b, b < 3 → a ≠ b → (TX11 a).2.1 ≠ (TX11 b).2.1 := by decide +kernel
theorem tyX11_ok : ∀ k, k < 3 → parseFieldDescriptor (TX11 k).2.2.1 = some (tyX11 k) := by decide +kernel
abbrev cX11_init : ByteArray := prog_13_method_1_code
def yX11_init : MethodName := ⟨RX11, "<init>", "(LCupboardPollLaw$Dice;II)V"⟩
abbrev cX11_text : ByteArray := prog_13_method_2_code
def yX11_text : MethodName := ⟨RX11, "text", "()Ljava/lang/String;"⟩
abbrev cX11_carryOut : ByteArray := prog_13_method_3_code
def yX11_carryOut : MethodName := ⟨RX11, "carryOut", "(LCupboardPollLaw$Cupboard;LCupboardPollLaw$Lid;)V"⟩
def RX12 : String := "CupboardPollLaw$Cupboard"
def TX12 : u_T := fun k => match k with
  | 0 => ("CupboardPollLaw$Cupboard", "follows", "[I", false)
  | 1 => ("CupboardPollLaw$Cupboard", "jars", "[LCupboardPollLaw$Jar;", false)
  | 2 => ("CupboardPollLaw$Cupboard", "lids", "[LCupboardPollLaw$Lid;", false)
  | _ => ("CupboardPollLaw$Cupboard", "day", "I", false)
def tyX12 : Nat → FieldType := fun k => match k with
  | 0 => .array .int
  | 1 => .array (.object "CupboardPollLaw$Jar")
  | 2 => .array (.object "CupboardPollLaw$Lid")
  | _ => .int
abbrev wsX120 : List Cond := u_ws RX12 TX12 4
theorem nmX12 : ∀ a, a < 4 → ∀ b, b < 4 → a ≠ b → (TX12 a).2.1 ≠ (TX12 b).2.1 := by decide +kernel
theorem tyX12_ok : ∀ k, k < 4 → parseFieldDescriptor (TX12 k).2.2.1 = some (tyX12 k) := by decide +kernel
abbrev cX12_init : ByteArray := prog_14_method_1_code
def yX12_init : MethodName := ⟨RX12, "<init>", "()V"⟩
abbrev cX12_leader : ByteArray := prog_14_method_3_code
def yX12_leader : MethodName := ⟨RX12, "leader", "(I)I"⟩
abbrev cX12_turnout : ByteArray := prog_14_method_4_code
def yX12_turnout : MethodName := ⟨RX12, "turnout", "(LCupboardPollLaw$Jar;)I"⟩
abbrev cX12_blocs : ByteArray := prog_14_method_5_code
def yX12_blocs : MethodName := ⟨RX12, "blocs", "(LCupboardPollLaw$Jar;)[I"⟩
abbrev cX12_first : ByteArray := prog_14_method_6_code
def yX12_first : MethodName := ⟨RX12, "first", "([I)I"⟩
abbrev cX12_margin : ByteArray := prog_14_method_7_code
def yX12_margin : MethodName := ⟨RX12, "margin", "(LCupboardPollLaw$Jar;)I"⟩
abbrev cX12_won : ByteArray := prog_14_method_8_code
def yX12_won : MethodName := ⟨RX12, "won", "(LCupboardPollLaw$Jar;)[I"⟩
abbrev cX12_seats : ByteArray := prog_14_method_9_code
def yX12_seats : MethodName := ⟨RX12, "seats", "(I)I"⟩
abbrev cX12_shake : ByteArray := prog_14_method_11_code
def yX12_shake : MethodName := ⟨RX12, "shake", "(LCupboardPollLaw$Jar;)V"⟩
abbrev cX12_pour : ByteArray := prog_14_method_12_code
def yX12_pour : MethodName := ⟨RX12, "pour", "(LCupboardPollLaw$Jar;III)I"⟩
abbrev cX12_isUnder : ByteArray := prog_14_method_13_code
def yX12_isUnder : MethodName := ⟨RX12, "isUnder", "(II)Z"⟩
abbrev cX12_pass : ByteArray := prog_14_method_14_code
def yX12_pass : MethodName := ⟨RX12, "pass", "()I"⟩
abbrev cX12_pass_ : ByteArray := prog_14_method_15_code
def yX12_pass_ : MethodName := ⟨RX12, "pass", "(I)I"⟩
abbrev cX12_isSame : ByteArray := prog_14_method_17_code
def yX12_isSame : MethodName := ⟨RX12, "isSame", "(LCupboardPoll;)Z"⟩
def RX13 : String := "CupboardPollLaw$Dice"
def TX13 : u_T := fun k => match k with
  | _ => ("CupboardPollLaw$Dice", "state", "I", false)
def tyX13 : Nat → FieldType := fun k => match k with
  | _ => .int
abbrev wsX130 : List Cond := u_ws RX13 TX13 1
theorem nmX13 : ∀ a, a < 1 → ∀ b, b < 1 → a ≠ b → (TX13 a).2.1 ≠ (TX13 b).2.1 := by decide +kernel
theorem tyX13_ok : ∀ k, k < 1 → parseFieldDescriptor (TX13 k).2.2.1 = some (tyX13 k) := by decide +kernel
abbrev cX13_init : ByteArray := prog_15_method_1_code
def yX13_init : MethodName := ⟨RX13, "<init>", "(I)V"⟩
abbrev cX13_next : ByteArray := prog_15_method_2_code
def yX13_next : MethodName := ⟨RX13, "next", "(I)I"⟩
def RX14 : String := "CupboardPollLaw$Jar"
def TX14 : u_T := fun k => match k with
  | 0 => ("CupboardPollLaw$Jar", "seats", "I", false)
  | 1 => ("CupboardPollLaw$Jar", "way", "I", false)
  | _ => ("CupboardPollLaw$Jar", "beans", "[I", false)
def tyX14 : Nat → FieldType := fun k => match k with
  | 0 => .int
  | 1 => .int
  | _ => .array .int
abbrev wsX140 : List Cond := u_ws RX14 TX14 3
theorem nmX14 : ∀ a, a < 3 → ∀ b, b < 3 → a ≠ b → (TX14 a).2.1 ≠ (TX14 b).2.1 := by decide +kernel
theorem tyX14_ok : ∀ k, k < 3 → parseFieldDescriptor (TX14 k).2.2.1 = some (tyX14 k) := by decide +kernel
abbrev cX14_init : ByteArray := prog_16_method_1_code
def yX14_init : MethodName := ⟨RX14, "<init>", "()V"⟩
def RX15 : String := "CupboardPollLaw$Lid"
def TX15 : u_T := fun k => match k with
  | 0 => ("CupboardPollLaw$Lid", "jar", "I", false)
  | 1 => ("CupboardPollLaw$Lid", "label", "I", false)
  | _ => ("CupboardPollLaw$Lid", "rules", "[LCupboardPollLaw$Rule;", false)
def tyX15 : Nat → FieldType := fun k => match k with
  | 0 => .int
  | 1 => .int
  | _ => .array (.object "CupboardPollLaw$Rule")
abbrev wsX150 : List Cond := u_ws RX15 TX15 3
theorem nmX15 : ∀ a, a < 3 → ∀ b, b < 3 → a ≠ b → (TX15 a).2.1 ≠ (TX15 b).2.1 := by decide +kernel
theorem tyX15_ok : ∀ k, k < 3 → parseFieldDescriptor (TX15 k).2.2.1 = some (tyX15 k) := by decide +kernel
abbrev cX15_init : ByteArray := prog_17_method_1_code
def yX15_init : MethodName := ⟨RX15, "<init>", "()V"⟩
def RX16 : String := "CupboardPollLaw$Node"
def TX16 : u_T := fun k => match k with
  | 0 => ("CupboardPollLaw$Node", "sort", "I", true)
  | 1 => ("CupboardPollLaw$Node", "n", "I", true)
  | 2 => ("CupboardPollLaw$Node", "a", "LCupboardPollLaw$Node;", true)
  | _ => ("CupboardPollLaw$Node", "b", "LCupboardPollLaw$Node;", true)
def tyX16 : Nat → FieldType := fun k => match k with
  | 0 => .int
  | 1 => .int
  | 2 => .object "CupboardPollLaw$Node"
  | _ => .object "CupboardPollLaw$Node"
abbrev wsX160 : List Cond := u_ws RX16 TX16 4
theorem nmX16 : ∀ a, a < 4 → ∀ b, b < 4 → a ≠ b → (TX16 a).2.1 ≠ (TX16 b).2.1 := by decide +kernel
theorem tyX16_ok : ∀ k, k < 4 → parseFieldDescriptor (TX16 k).2.2.1 = some (tyX16 k) := by decide +kernel
abbrev cX16_init : ByteArray := prog_18_method_1_code
def yX16_init : MethodName := ⟨RX16, "<init>", "(IILCupboardPollLaw$Node;LCupboardPollLaw$Node;)V"⟩
abbrev cX16_value : ByteArray := prog_18_method_2_code
def yX16_value : MethodName := ⟨RX16, "value", "(LCupboardPollLaw$Dice;II)LCupboardPollLaw$Node;"⟩
abbrev cX16_test : ByteArray := prog_18_method_3_code
def yX16_test : MethodName := ⟨RX16, "test", "(LCupboardPollLaw$Dice;II)LCupboardPollLaw$Node;"⟩
abbrev cX16_text : ByteArray := prog_18_method_4_code
def yX16_text : MethodName := ⟨RX16, "text", "()Ljava/lang/String;"⟩
abbrev cX16_value_ : ByteArray := prog_18_method_5_code
def yX16_value_ : MethodName := ⟨RX16, "value", "(LCupboardPollLaw$Cupboard;LCupboardPollLaw$Lid;)I"⟩
abbrev cX16_both : ByteArray := prog_18_method_6_code
def yX16_both : MethodName := ⟨RX16, "both", "(III)I"⟩
def RX17 : String := "CupboardPollLaw$Rule"
def TX17 : u_T := fun k => match k with
  | 0 => ("CupboardPollLaw$Rule", "test", "LCupboardPollLaw$Node;", true)
  | _ => ("CupboardPollLaw$Rule", "acts", "[LCupboardPollLaw$Act;", true)
def tyX17 : Nat → FieldType := fun k => match k with
  | 0 => .object "CupboardPollLaw$Node"
  | _ => .array (.object "CupboardPollLaw$Act")
abbrev wsX170 : List Cond := u_ws RX17 TX17 2
theorem nmX17 : ∀ a, a < 2 → ∀ b, b < 2 → a ≠ b → (TX17 a).2.1 ≠ (TX17 b).2.1 := by decide +kernel
theorem tyX17_ok : ∀ k, k < 2 → parseFieldDescriptor (TX17 k).2.2.1 = some (tyX17 k) := by decide +kernel
abbrev cX17_init : ByteArray := prog_19_method_1_code
def yX17_init : MethodName := ⟨RX17, "<init>", "(LCupboardPollLaw$Dice;II)V"⟩
abbrev cX17_text : ByteArray := prog_19_method_2_code
def yX17_text : MethodName := ⟨RX17, "text", "()Ljava/lang/String;"⟩
def RX18 : String := "CupboardPollModel$Book"
def TX18 : u_T := fun k => match k with
  | _ => ("", "", "", false)
def tyX18 : Nat → FieldType := fun k => match k with
  | _ => .int
abbrev wsX180 : List Cond := u_ws RX18 TX18 0
theorem nmX18 : ∀ a, a < 0 → ∀ b, b < 0 → a ≠ b → (TX18 a).2.1 ≠ (TX18 b).2.1 := by decide +kernel
theorem tyX18_ok : ∀ k, k < 0 → parseFieldDescriptor (TX18 k).2.2.1 = some (tyX18 k) := by decide +kernel
def RX19 : String := "CupboardPollModel"
def TX19 : u_T := fun k => match k with
  | _ => ("", "", "", false)
def tyX19 : Nat → FieldType := fun k => match k with
  | _ => .int
abbrev wsX190 : List Cond := u_ws RX19 TX19 0
theorem nmX19 : ∀ a, a < 0 → ∀ b, b < 0 → a ≠ b → (TX19 a).2.1 ≠ (TX19 b).2.1 := by decide +kernel
theorem tyX19_ok : ∀ k, k < 0 → parseFieldDescriptor (TX19 k).2.2.1 = some (tyX19 k) := by decide +kernel
def RJ5 : String := "java/lang/AbstractStringBuilder"
def TJ5 : u_T := fun k => match k with
  | _ => ("", "", "", false)
def tyJ5 : Nat → FieldType := fun k => match k with
  | _ => .int
abbrev wsJ50 : List Cond := u_ws RJ5 TJ5 0
theorem nmJ5 : ∀ a, a < 0 → ∀ b, b < 0 → a ≠ b → (TJ5 a).2.1 ≠ (TJ5 b).2.1 := by decide +kernel
theorem tyJ5_ok : ∀ k, k < 0 → parseFieldDescriptor (TJ5 k).2.2.1 = some (tyJ5 k) := by decide +kernel
abbrev cJ5_init_d00df : ByteArray := prog_22_method_2_code
def yJ5_init_d00df : MethodName := ⟨RJ5, "<init>", "(I)V"⟩
abbrev cJ5_init_a7421 : ByteArray := prog_22_method_3_code
def yJ5_init_a7421 : MethodName := ⟨RJ5, "<init>", "(Ljava/lang/String;)V"⟩
abbrev cJ5_length_8abf5 : ByteArray := prog_22_method_6_code
def yJ5_length_8abf5 : MethodName := ⟨RJ5, "length", "()I"⟩
abbrev cJ5_ensureCapacityInternal_d00df : ByteArray := prog_22_method_9_code
def yJ5_ensureCapacityInternal_d00df : MethodName := ⟨RJ5, "ensureCapacityInternal", "(I)V"⟩
abbrev cJ5_newCapacity_0f7a4 : ByteArray := prog_22_method_10_code
def yJ5_newCapacity_0f7a4 : MethodName := ⟨RJ5, "newCapacity", "(I)I"⟩
abbrev cJ5_inflate_da8c8 : ByteArray := prog_22_method_11_code
def yJ5_inflate_da8c8 : MethodName := ⟨RJ5, "inflate", "()V"⟩
abbrev cJ5_append_cf1ce : ByteArray := prog_22_method_22_code
def yJ5_append_cf1ce : MethodName := ⟨RJ5, "append", "(Ljava/lang/String;)Ljava/lang/AbstractStringBuilder;"⟩
abbrev cJ5_appendNull_278bc : ByteArray := prog_22_method_26_code
def yJ5_appendNull_278bc : MethodName := ⟨RJ5, "appendNull", "()Ljava/lang/AbstractStringBuilder;"⟩
abbrev cJ5_append_3fe6f : ByteArray := prog_22_method_31_code
def yJ5_append_3fe6f : MethodName := ⟨RJ5, "append", "(C)Ljava/lang/AbstractStringBuilder;"⟩
abbrev cJ5_append_c97b9 : ByteArray := prog_22_method_32_code
def yJ5_append_c97b9 : MethodName := ⟨RJ5, "append", "(I)Ljava/lang/AbstractStringBuilder;"⟩
abbrev cJ5_getValue_6d5f1 : ByteArray := prog_22_method_64_code
def yJ5_getValue_6d5f1 : MethodName := ⟨RJ5, "getValue", "()[B"⟩
abbrev cJ5_isLatin1_aae02 : ByteArray := prog_22_method_68_code
def yJ5_isLatin1_aae02 : MethodName := ⟨RJ5, "isLatin1", "()Z"⟩
abbrev cJ5_inflateIfNeededFor_a7421 : ByteArray := prog_22_method_71_code
def yJ5_inflateIfNeededFor_a7421 : MethodName := ⟨RJ5, "inflateIfNeededFor", "(Ljava/lang/String;)V"⟩
abbrev cJ5_putStringAt_47b60 : ByteArray := prog_22_method_73_code
def yJ5_putStringAt_47b60 : MethodName := ⟨RJ5, "putStringAt", "(ILjava/lang/String;)V"⟩
def RJ6 : String := "java/lang/Integer"
def TJ6 : u_T := fun k => match k with
  | _ => ("", "", "", false)
def tyJ6 : Nat → FieldType := fun k => match k with
  | _ => .int
abbrev wsJ60 : List Cond := u_ws RJ6 TJ6 0
theorem nmJ6 : ∀ a, a < 0 → ∀ b, b < 0 → a ≠ b → (TJ6 a).2.1 ≠ (TJ6 b).2.1 := by decide +kernel
theorem tyJ6_ok : ∀ k, k < 0 → parseFieldDescriptor (TJ6 k).2.2.1 = some (tyJ6 k) := by decide +kernel
abbrev cJ6_getChars_ba4f3 : ByteArray := prog_29_method_12_code
def yJ6_getChars_ba4f3 : MethodName := ⟨RJ6, "getChars", "(II[B)I"⟩
abbrev cJ6_stringSize_0f7a4 : ByteArray := prog_29_method_13_code
def yJ6_stringSize_0f7a4 : MethodName := ⟨RJ6, "stringSize", "(I)I"⟩
def RJ9 : String := "java/lang/Math"
def TJ9 : u_T := fun k => match k with
  | _ => ("", "", "", false)
def tyJ9 : Nat → FieldType := fun k => match k with
  | _ => .int
abbrev wsJ90 : List Cond := u_ws RJ9 TJ9 0
theorem nmJ9 : ∀ a, a < 0 → ∀ b, b < 0 → a ≠ b → (TJ9 a).2.1 ≠ (TJ9 b).2.1 := by decide +kernel
theorem tyJ9_ok : ∀ k, k < 0 → parseFieldDescriptor (TJ9 k).2.2.1 = some (tyJ9 k) := by decide +kernel
abbrev cJ9_max_7cf53 : ByteArray := prog_30_method_65_code
def yJ9_max_7cf53 : MethodName := ⟨RJ9, "max", "(II)I"⟩
abbrev cJ9_min_7cf53 : ByteArray := prog_30_method_69_code
def yJ9_min_7cf53 : MethodName := ⟨RJ9, "min", "(II)I"⟩
def RJ0 : String := "java/lang/String"
def TJ0 : u_T := fun k => match k with
  | 0 => ("java/lang/String", "value", "[B", true)
  | 1 => ("java/lang/String", "coder", "B", true)
  | 2 => ("java/lang/String", "hash", "I", false)
  | _ => ("java/lang/String", "hashIsZero", "Z", false)
def tyJ0 : Nat → FieldType := fun k => match k with
  | 0 => .array .byte
  | 1 => .byte
  | 2 => .int
  | _ => .boolean
abbrev wsJ00 : List Cond := u_ws RJ0 TJ0 4
theorem nmJ0 : ∀ a, a < 4 → ∀ b, b < 4 → a ≠ b → (TJ0 a).2.1 ≠ (TJ0 b).2.1 := by decide +kernel
theorem tyJ0_ok : ∀ k, k < 4 → parseFieldDescriptor (TJ0 k).2.2.1 = some (tyJ0 k) := by decide +kernel
abbrev cJ0_init_81219 : ByteArray := prog_32_method_53_code
def yJ0_init_81219 : MethodName := ⟨RJ0, "<init>", "(Ljava/lang/StringBuilder;)V"⟩
abbrev cJ0_length_8abf5 : ByteArray := prog_32_method_54_code
def yJ0_length_8abf5 : MethodName := ⟨RJ0, "length", "()I"⟩
abbrev cJ0_charAt_5068e : ByteArray := prog_32_method_56_code
def yJ0_charAt_5068e : MethodName := ⟨RJ0, "charAt", "(I)C"⟩
abbrev cJ0_getBytes_840e7 : ByteArray := prog_32_method_147_code
def yJ0_getBytes_840e7 : MethodName := ⟨RJ0, "getBytes", "([BIB)V"⟩
abbrev cJ0_init_db425 : ByteArray := prog_32_method_150_code
def yJ0_init_db425 : MethodName := ⟨RJ0, "<init>", "(Ljava/lang/AbstractStringBuilder;Ljava/lang/Void;)V"⟩
abbrev cJ0_coder_7d493 : ByteArray := prog_32_method_152_code
def yJ0_coder_7d493 : MethodName := ⟨RJ0, "coder", "()B"⟩
abbrev cJ0_isLatin1_aae02 : ByteArray := prog_32_method_154_code
def yJ0_isLatin1_aae02 : MethodName := ⟨RJ0, "isLatin1", "()Z"⟩
abbrev cJ0_checkIndex_df160 : ByteArray := prog_32_method_155_code
def yJ0_checkIndex_df160 : MethodName := ⟨RJ0, "checkIndex", "(II)V"⟩
abbrev cJ0_checkBoundsOffCount_cabcc : ByteArray := prog_32_method_157_code
def yJ0_checkBoundsOffCount_cabcc : MethodName := ⟨RJ0, "checkBoundsOffCount", "(III)I"⟩
abbrev cJ0_checkBoundsBeginEnd_23922 : ByteArray := prog_32_method_158_code
def yJ0_checkBoundsBeginEnd_23922 : MethodName := ⟨RJ0, "checkBoundsBeginEnd", "(III)V"⟩
def RJ4 : String := "java/lang/StringBuilder"
def TJ4 : u_T := fun k => match k with
  | 0 => ("java/lang/AbstractStringBuilder", "value", "[B", false)
  | 1 => ("java/lang/AbstractStringBuilder", "coder", "B", false)
  | 2 => ("java/lang/AbstractStringBuilder", "maybeLatin1", "Z", false)
  | _ => ("java/lang/AbstractStringBuilder", "count", "I", false)
def tyJ4 : Nat → FieldType := fun k => match k with
  | 0 => .array .byte
  | 1 => .byte
  | 2 => .boolean
  | _ => .int
abbrev wsJ40 : List Cond := u_ws RJ4 TJ4 4
theorem nmJ4 : ∀ a, a < 4 → ∀ b, b < 4 → a ≠ b → (TJ4 a).2.1 ≠ (TJ4 b).2.1 := by decide +kernel
theorem tyJ4_ok : ∀ k, k < 4 → parseFieldDescriptor (TJ4 k).2.2.1 = some (tyJ4 k) := by decide +kernel
abbrev cJ4_init_da8c8 : ByteArray := prog_33_method_1_code
def yJ4_init_da8c8 : MethodName := ⟨RJ4, "<init>", "()V"⟩
abbrev cJ4_init_a7421 : ByteArray := prog_33_method_3_code
def yJ4_init_a7421 : MethodName := ⟨RJ4, "<init>", "(Ljava/lang/String;)V"⟩
abbrev cJ4_append_15ec4 : ByteArray := prog_33_method_7_code
def yJ4_append_15ec4 : MethodName := ⟨RJ4, "append", "(Ljava/lang/String;)Ljava/lang/StringBuilder;"⟩
abbrev cJ4_append_cf468 : ByteArray := prog_33_method_14_code
def yJ4_append_cf468 : MethodName := ⟨RJ4, "append", "(C)Ljava/lang/StringBuilder;"⟩
abbrev cJ4_append_bf812 : ByteArray := prog_33_method_15_code
def yJ4_append_bf812 : MethodName := ⟨RJ4, "append", "(I)Ljava/lang/StringBuilder;"⟩
abbrev cJ4_toString_0e30d : ByteArray := prog_33_method_42_code
def yJ4_toString_0e30d : MethodName := ⟨RJ4, "toString", "()Ljava/lang/String;"⟩
abbrev cJ4_append_cf1ce : ByteArray := prog_33_method_80_code
def yJ4_append_cf1ce : MethodName := ⟨RJ4, "append", "(Ljava/lang/String;)Ljava/lang/AbstractStringBuilder;"⟩
abbrev cJ4_length_8abf5 : ByteArray := prog_33_method_93_code
def yJ4_length_8abf5 : MethodName := ⟨RJ4, "length", "()I"⟩
def RJ1 : String := "java/lang/StringLatin1"
def TJ1 : u_T := fun k => match k with
  | _ => ("", "", "", false)
def tyJ1 : Nat → FieldType := fun k => match k with
  | _ => .int
abbrev wsJ10 : List Cond := u_ws RJ1 TJ1 0
theorem nmJ1 : ∀ a, a < 0 → ∀ b, b < 0 → a ≠ b → (TJ1 a).2.1 ≠ (TJ1 b).2.1 := by decide +kernel
theorem tyJ1_ok : ∀ k, k < 0 → parseFieldDescriptor (TJ1 k).2.2.1 = some (tyJ1 k) := by decide +kernel
abbrev cJ1_charAt_3b067 : ByteArray := prog_34_method_2_code
def yJ1_charAt_3b067 : MethodName := ⟨RJ1, "charAt", "([BI)C"⟩
abbrev cJ1_canEncode_fc78d : ByteArray := prog_34_method_3_code
def yJ1_canEncode_fc78d : MethodName := ⟨RJ1, "canEncode", "(C)Z"⟩
abbrev cJ1_inflate_0e8fd : ByteArray := prog_34_method_50_code
def yJ1_inflate_0e8fd : MethodName := ⟨RJ1, "inflate", "([BI[BII)V"⟩
def RJ2 : String := "java/lang/StringUTF16"
def TJ2 : u_T := fun k => match k with
  | _ => ("", "", "", false)
def tyJ2 : Nat → FieldType := fun k => match k with
  | _ => .int
abbrev wsJ20 : List Cond := u_ws RJ2 TJ2 0
theorem nmJ2 : ∀ a, a < 0 → ∀ b, b < 0 → a ≠ b → (TJ2 a).2.1 ≠ (TJ2 b).2.1 := by decide +kernel
theorem tyJ2_ok : ∀ k, k < 0 → parseFieldDescriptor (TJ2 k).2.2.1 = some (tyJ2 k) := by decide +kernel
abbrev cJ2_newBytesFor_77867 : ByteArray := prog_35_method_2_code
def yJ2_newBytesFor_77867 : MethodName := ⟨RJ2, "newBytesFor", "(I)[B"⟩
abbrev cJ2_newBytesLength_0f7a4 : ByteArray := prog_35_method_3_code
def yJ2_newBytesLength_0f7a4 : MethodName := ⟨RJ2, "newBytesLength", "(I)I"⟩
abbrev cJ2_putChar_b72d1 : ByteArray := prog_35_method_4_code
def yJ2_putChar_b72d1 : MethodName := ⟨RJ2, "putChar", "([BII)V"⟩
abbrev cJ2_getChar_3b067 : ByteArray := prog_35_method_5_code
def yJ2_getChar_3b067 : MethodName := ⟨RJ2, "getChar", "([BI)C"⟩
abbrev cJ2_length_9d52b : ByteArray := prog_35_method_6_code
def yJ2_length_9d52b : MethodName := ⟨RJ2, "length", "([B)I"⟩
abbrev cJ2_coderFromArrayLen_85cad : ByteArray := prog_35_method_15_code
def yJ2_coderFromArrayLen_85cad : MethodName := ⟨RJ2, "coderFromArrayLen", "([BI)B"⟩
abbrev cJ2_compress_39247 : ByteArray := prog_35_method_17_code
def yJ2_compress_39247 : MethodName := ⟨RJ2, "compress", "([BII)[B"⟩
abbrev cJ2_compress_5af95 : ByteArray := prog_35_method_22_code
def yJ2_compress_5af95 : MethodName := ⟨RJ2, "compress", "([BI[BII)I"⟩
abbrev cJ2_putCharSB_b72d1 : ByteArray := prog_35_method_71_code
def yJ2_putCharSB_b72d1 : MethodName := ⟨RJ2, "putCharSB", "([BII)V"⟩
abbrev cJ2_getChars_46870 : ByteArray := prog_35_method_77_code
def yJ2_getChars_46870 : MethodName := ⟨RJ2, "getChars", "(III[B)I"⟩
abbrev cJ2_putCharsAt_cd4e5 : ByteArray := prog_35_method_81_code
def yJ2_putCharsAt_cd4e5 : MethodName := ⟨RJ2, "putCharsAt", "([BICCCC)I"⟩
abbrev cJ2_charAt_3b067 : ByteArray := prog_35_method_83_code
def yJ2_charAt_3b067 : MethodName := ⟨RJ2, "charAt", "([BI)C"⟩
abbrev cJ2_inflate_0e8fd : ByteArray := prog_35_method_86_code
def yJ2_inflate_0e8fd : MethodName := ⟨RJ2, "inflate", "([BI[BII)V"⟩
abbrev cJ2_getChars_ba4f3 : ByteArray := prog_35_method_89_code
def yJ2_getChars_ba4f3 : MethodName := ⟨RJ2, "getChars", "(II[B)I"⟩
abbrev cJ2_checkIndex_2214a : ByteArray := prog_35_method_91_code
def yJ2_checkIndex_2214a : MethodName := ⟨RJ2, "checkIndex", "(I[B)V"⟩
abbrev cJ2_checkBoundsBeginEnd_d044e : ByteArray := prog_35_method_93_code
def yJ2_checkBoundsBeginEnd_d044e : MethodName := ⟨RJ2, "checkBoundsBeginEnd", "(II[B)V"⟩
abbrev cJ2_checkBoundsOffCount_d044e : ByteArray := prog_35_method_94_code
def yJ2_checkBoundsOffCount_d044e : MethodName := ⟨RJ2, "checkBoundsOffCount", "(II[B)V"⟩
def RJ10 : String := "java/lang/System"
def TJ10 : u_T := fun k => match k with
  | _ => ("", "", "", false)
def tyJ10 : Nat → FieldType := fun k => match k with
  | _ => .int
abbrev wsJ100 : List Cond := u_ws RJ10 TJ10 0
theorem nmJ10 : ∀ a, a < 0 → ∀ b, b < 0 → a ≠ b → (TJ10 a).2.1 ≠ (TJ10 b).2.1 := by decide +kernel
theorem tyJ10_ok : ∀ k, k < 0 → parseFieldDescriptor (TJ10 k).2.2.1 = some (tyJ10 k) := by decide +kernel
def RJ7 : String := "java/util/Arrays"
def TJ7 : u_T := fun k => match k with
  | _ => ("", "", "", false)
def tyJ7 : Nat → FieldType := fun k => match k with
  | _ => .int
abbrev wsJ70 : List Cond := u_ws RJ7 TJ7 0
theorem nmJ7 : ∀ a, a < 0 → ∀ b, b < 0 → a ≠ b → (TJ7 a).2.1 ≠ (TJ7 b).2.1 := by decide +kernel
theorem tyJ7_ok : ∀ k, k < 0 → parseFieldDescriptor (TJ7 k).2.2.1 = some (tyJ7 k) := by decide +kernel
abbrev cJ7_copyOf_9075b : ByteArray := prog_38_method_121_code
def yJ7_copyOf_9075b : MethodName := ⟨RJ7, "copyOf", "([BI)[B"⟩
abbrev cJ7_checkLength_df160 : ByteArray := prog_38_method_131_code
def yJ7_checkLength_df160 : MethodName := ⟨RJ7, "checkLength", "(II)V"⟩
abbrev cJ7_copyOfRange_39247 : ByteArray := prog_38_method_132_code
def yJ7_copyOfRange_39247 : MethodName := ⟨RJ7, "copyOfRange", "([BII)[B"⟩
abbrev cJ7_copyOfRangeByte_39247 : ByteArray := prog_38_method_133_code
def yJ7_copyOfRangeByte_39247 : MethodName := ⟨RJ7, "copyOfRangeByte", "([BII)[B"⟩
def RJ8 : String := "jdk/internal/util/ArraysSupport"
def TJ8 : u_T := fun k => match k with
  | _ => ("", "", "", false)
def tyJ8 : Nat → FieldType := fun k => match k with
  | _ => .int
abbrev wsJ80 : List Cond := u_ws RJ8 TJ8 0
theorem nmJ8 : ∀ a, a < 0 → ∀ b, b < 0 → a ≠ b → (TJ8 a).2.1 ≠ (TJ8 b).2.1 := by decide +kernel
theorem tyJ8_ok : ∀ k, k < 0 → parseFieldDescriptor (TJ8 k).2.2.1 = some (tyJ8 k) := by decide +kernel
abbrev cJ8_newLength_cabcc : ByteArray := prog_39_method_27_code
def yJ8_newLength_cabcc : MethodName := ⟨RJ8, "newLength", "(III)I"⟩
abbrev cJ8_hugeLength_7cf53 : ByteArray := prog_39_method_28_code
def yJ8_hugeLength_7cf53 : MethodName := ⟨RJ8, "hugeLength", "(II)I"⟩
def RJ3 : String := "jdk/internal/util/Preconditions"
def TJ3 : u_T := fun k => match k with
  | _ => ("", "", "", false)
def tyJ3 : Nat → FieldType := fun k => match k with
  | _ => .int
abbrev wsJ30 : List Cond := u_ws RJ3 TJ3 0
theorem nmJ3 : ∀ a, a < 0 → ∀ b, b < 0 → a ≠ b → (TJ3 a).2.1 ≠ (TJ3 b).2.1 := by decide +kernel
theorem tyJ3_ok : ∀ k, k < 0 → parseFieldDescriptor (TJ3 k).2.2.1 = some (tyJ3 k) := by decide +kernel
abbrev cJ3_checkIndex_8e157 : ByteArray := prog_40_method_11_code
def yJ3_checkIndex_8e157 : MethodName := ⟨RJ3, "checkIndex", "(IILjava/util/function/BiFunction;)I"⟩
abbrev cJ3_checkFromToIndex_8c36e : ByteArray := prog_40_method_12_code
def yJ3_checkFromToIndex_8c36e : MethodName := ⟨RJ3, "checkFromToIndex", "(IIILjava/util/function/BiFunction;)I"⟩
abbrev cJ3_checkFromIndexSize_8c36e : ByteArray := prog_40_method_13_code
def yJ3_checkFromIndexSize_8c36e : MethodName := ⟨RJ3, "checkFromIndexSize", "(IIILjava/util/function/BiFunction;)I"⟩
def RL : String := "CupboardPollLaw"
abbrev cL_below : ByteArray := method_2_code
def yL_below : MethodName := ⟨RL, "below", "(II)I"⟩
abbrev cL_cell : ByteArray := method_3_code
def yL_cell : MethodName := ⟨RL, "cell", "([II)I"⟩
abbrev cL_taught : ByteArray := method_4_code
def yL_taught : MethodName := ⟨RL, "taught", "(LCupboardPoll;Ljava/lang/String;)I"⟩
abbrev cL_name : ByteArray := method_5_code
def yL_name : MethodName := ⟨RL, "name", "(I)Ljava/lang/String;"⟩
abbrev cL_drawn : ByteArray := method_6_code
def yL_drawn : MethodName := ⟨RL, "drawn", "(LCupboardPollLaw$Dice;Ljava/lang/StringBuilder;)LCupboardPollLaw$Cupboard;"⟩
abbrev cL_act : ByteArray := method_7_code
def yL_act : MethodName := ⟨RL, "act", "(LCupboardPoll;LCupboardPollLaw$Cupboard;LCupboardPollLaw$Dice;)Z"⟩
abbrev cL_law : ByteArray := code
def yL_law : MethodName := ⟨RL, "law", "([I)Z"⟩
abbrev vwCl : List vw_C := [(RJ0, TJ0, 4), (RJ4, TJ4, 4), (RX1, TX1, 11), (RX2, TX2, 3), (RX3, TX3, 5), (RX4, TX4, 10), (RX6, TX6, 7), (RX7, TX7, 8), (RX8, TX8, 2), (RX9, TX9, 4), (RX10, TX10, 7), (RX11, TX11, 3), (RX12, TX12, 4), (RX13, TX13, 1), (RX14, TX14, 3), (RX15, TX15, 3), (RX16, TX16, 4), (RX17, TX17, 2)]
