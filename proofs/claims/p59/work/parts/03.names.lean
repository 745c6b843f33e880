def RX0 : String := "CrowMail$1"
def TX0 : u_T := fun k => match k with
  | _ => ("", "", "", false)
def tyX0 : Nat → FieldType := fun k => match k with
  | _ => .int
theorem nmX0 : ∀ a, a < 0 → ∀ b, b < 0 → a ≠ b → (TX0 a).2.1 ≠ (TX0 b).2.1 := by decide +kernel
theorem tyX0_ok : ∀ k, k < 0 → parseFieldDescriptor (TX0 k).2.2.1 = some (tyX0 k) := by decide +kernel
def RX1 : String := "CrowMail$Command"
def TX1 : u_T := fun k => match k with
  | 0 => ("CrowMail$Command", "form", "LCrowMail$Form;", false)
  | 1 => ("CrowMail$Command", "first", "I", false)
  | _ => ("CrowMail$Command", "second", "I", false)
def tyX1 : Nat → FieldType := fun k => match k with
  | 0 => .object "CrowMail$Form"
  | 1 => .int
  | _ => .int
theorem nmX1 : ∀ a, a < 3 → ∀ b, b < 3 → a ≠ b → (TX1 a).2.1 ≠ (TX1 b).2.1 := by decide +kernel
theorem tyX1_ok : ∀ k, k < 3 → parseFieldDescriptor (TX1 k).2.2.1 = some (tyX1 k) := by decide +kernel
abbrev cX1_init : ByteArray := prog_3_method_1_code
def yX1_init : MethodName := ⟨RX1, "<init>", "()V"⟩
def RX2 : String := "CrowMail$Crow"
def TX2 : u_T := fun k => match k with
  | 0 => ("CrowMail$Crow", "flying", "Z", false)
  | 1 => ("CrowMail$Crow", "message", "I", false)
  | _ => ("CrowMail$Crow", "landsAt", "I", false)
def tyX2 : Nat → FieldType := fun k => match k with
  | 0 => .boolean
  | 1 => .int
  | _ => .int
theorem nmX2 : ∀ a, a < 3 → ∀ b, b < 3 → a ≠ b → (TX2 a).2.1 ≠ (TX2 b).2.1 := by decide +kernel
theorem tyX2_ok : ∀ k, k < 3 → parseFieldDescriptor (TX2 k).2.2.1 = some (tyX2 k) := by decide +kernel
abbrev cX2_init : ByteArray := prog_4_method_1_code
def yX2_init : MethodName := ⟨RX2, "<init>", "()V"⟩
abbrev cX2_copyFrom : ByteArray := prog_4_method_2_code
def yX2_copyFrom : MethodName := ⟨RX2, "copyFrom", "(LCrowMail$Crow;)V"⟩
def RX3 : String := "CrowMail$Form"
def TX3 : u_T := fun k => match k with
  | _ => ("", "", "", false)
def tyX3 : Nat → FieldType := fun k => match k with
  | _ => .int
theorem nmX3 : ∀ a, a < 0 → ∀ b, b < 0 → a ≠ b → (TX3 a).2.1 ≠ (TX3 b).2.1 := by decide +kernel
theorem tyX3_ok : ∀ k, k < 0 → parseFieldDescriptor (TX3 k).2.2.1 = some (tyX3 k) := by decide +kernel
def RX4 : String := "CrowMail$History"
def TX4 : u_T := fun k => match k with
  | 0 => ("CrowMail$History", "ring", "[LCrowMail$State;", true)
  | 1 => ("CrowMail$History", "next", "I", false)
  | _ => ("CrowMail$History", "count", "I", false)
def tyX4 : Nat → FieldType := fun k => match k with
  | 0 => .array (.object "CrowMail$State")
  | 1 => .int
  | _ => .int
theorem nmX4 : ∀ a, a < 3 → ∀ b, b < 3 → a ≠ b → (TX4 a).2.1 ≠ (TX4 b).2.1 := by decide +kernel
theorem tyX4_ok : ∀ k, k < 3 → parseFieldDescriptor (TX4 k).2.2.1 = some (tyX4 k) := by decide +kernel
abbrev cX4_init : ByteArray := prog_6_method_1_code
def yX4_init : MethodName := ⟨RX4, "<init>", "()V"⟩
abbrev cX4_remember : ByteArray := prog_6_method_2_code
def yX4_remember : MethodName := ⟨RX4, "remember", "(LCrowMail$State;)V"⟩
abbrev cX4_takeBackInto : ByteArray := prog_6_method_3_code
def yX4_takeBackInto : MethodName := ⟨RX4, "takeBackInto", "(LCrowMail$State;)V"⟩
def RX5 : String := "CrowMail$Message"
def TX5 : u_T := fun k => match k with
  | 0 => ("CrowMail$Message", "id", "I", false)
  | 1 => ("CrowMail$Message", "nest", "I", false)
  | 2 => ("CrowMail$Message", "key", "I", false)
  | 3 => ("CrowMail$Message", "attempts", "I", false)
  | 4 => ("CrowMail$Message", "status", "C", false)
  | _ => ("CrowMail$Message", "wakesAt", "I", false)
def tyX5 : Nat → FieldType := fun k => match k with
  | 0 => .int
  | 1 => .int
  | 2 => .int
  | 3 => .int
  | 4 => .char
  | _ => .int
theorem nmX5 : ∀ a, a < 6 → ∀ b, b < 6 → a ≠ b → (TX5 a).2.1 ≠ (TX5 b).2.1 := by decide +kernel
theorem tyX5_ok : ∀ k, k < 6 → parseFieldDescriptor (TX5 k).2.2.1 = some (tyX5 k) := by decide +kernel
abbrev cX5_init : ByteArray := prog_7_method_1_code
def yX5_init : MethodName := ⟨RX5, "<init>", "()V"⟩
abbrev cX5_write : ByteArray := prog_7_method_2_code
def yX5_write : MethodName := ⟨RX5, "write", "(III)V"⟩
abbrev cX5_copyFrom : ByteArray := prog_7_method_3_code
def yX5_copyFrom : MethodName := ⟨RX5, "copyFrom", "(LCrowMail$Message;)V"⟩
def RX6 : String := "CrowMail$Nest"
def TX6 : u_T := fun k => match k with
  | 0 => ("CrowMail$Nest", "inbox", "[I", true)
  | 1 => ("CrowMail$Nest", "keys", "[I", true)
  | 2 => ("CrowMail$Nest", "distance", "I", false)
  | 3 => ("CrowMail$Nest", "loss", "I", false)
  | 4 => ("CrowMail$Nest", "deliveries", "I", false)
  | 5 => ("CrowMail$Nest", "inboxSize", "I", false)
  | _ => ("CrowMail$Nest", "keyCount", "I", false)
def tyX6 : Nat → FieldType := fun k => match k with
  | 0 => .array .int
  | 1 => .array .int
  | 2 => .int
  | 3 => .int
  | 4 => .int
  | 5 => .int
  | _ => .int
theorem nmX6 : ∀ a, a < 7 → ∀ b, b < 7 → a ≠ b → (TX6 a).2.1 ≠ (TX6 b).2.1 := by decide +kernel
theorem tyX6_ok : ∀ k, k < 7 → parseFieldDescriptor (TX6 k).2.2.1 = some (tyX6 k) := by decide +kernel
abbrev cX6_init : ByteArray := prog_8_method_1_code
def yX6_init : MethodName := ⟨RX6, "<init>", "()V"⟩
abbrev cX6_open : ByteArray := prog_8_method_2_code
def yX6_open : MethodName := ⟨RX6, "open", "(II)V"⟩
abbrev cX6_copyFrom : ByteArray := prog_8_method_3_code
def yX6_copyFrom : MethodName := ⟨RX6, "copyFrom", "(LCrowMail$Nest;)V"⟩
abbrev cX6_hasRoom : ByteArray := prog_8_method_4_code
def yX6_hasRoom : MethodName := ⟨RX6, "hasRoom", "()Z"⟩
abbrev cX6_knows : ByteArray := prog_8_method_5_code
def yX6_knows : MethodName := ⟨RX6, "knows", "(I)Z"⟩
abbrev cX6_accept : ByteArray := prog_8_method_6_code
def yX6_accept : MethodName := ⟨RX6, "accept", "(II)V"⟩
abbrev cX6_learn : ByteArray := prog_8_method_7_code
def yX6_learn : MethodName := ⟨RX6, "learn", "(I)V"⟩
abbrev cX6_takeFirst : ByteArray := prog_8_method_8_code
def yX6_takeFirst : MethodName := ⟨RX6, "takeFirst", "()I"⟩
def RX7 : String := "CrowMail$Script"
def TX7 : u_T := fun k => match k with
  | 0 => ("CrowMail$Script", "text", "[C", true)
  | 1 => ("CrowMail$Script", "commands", "[LCrowMail$Command;", true)
  | 2 => ("CrowMail$Script", "length", "I", false)
  | 3 => ("CrowMail$Script", "commandCount", "I", false)
  | 4 => ("CrowMail$Script", "reached", "I", false)
  | 5 => ("CrowMail$Script", "numbersRead", "I", false)
  | 6 => ("CrowMail$Script", "firstNumber", "I", false)
  | 7 => ("CrowMail$Script", "secondNumber", "I", false)
  | _ => ("CrowMail$Script", "matched", "Z", false)
def tyX7 : Nat → FieldType := fun k => match k with
  | 0 => .array .char
  | 1 => .array (.object "CrowMail$Command")
  | 2 => .int
  | 3 => .int
  | 4 => .int
  | 5 => .int
  | 6 => .int
  | 7 => .int
  | _ => .boolean
theorem nmX7 : ∀ a, a < 9 → ∀ b, b < 9 → a ≠ b → (TX7 a).2.1 ≠ (TX7 b).2.1 := by decide +kernel
theorem tyX7_ok : ∀ k, k < 9 → parseFieldDescriptor (TX7 k).2.2.1 = some (tyX7 k) := by decide +kernel
abbrev cX7_init : ByteArray := prog_9_method_1_code
def yX7_init : MethodName := ⟨RX7, "<init>", "()V"⟩
abbrev cX7_append : ByteArray := prog_9_method_2_code
def yX7_append : MethodName := ⟨RX7, "append", "(C)I"⟩
abbrev cX7_split : ByteArray := prog_9_method_3_code
def yX7_split : MethodName := ⟨RX7, "split", "()Z"⟩
abbrev cX7_readCommand : ByteArray := prog_9_method_4_code
def yX7_readCommand : MethodName := ⟨RX7, "readCommand", "(LCrowMail$Command;I)Z"⟩
abbrev cX7_match : ByteArray := prog_9_method_5_code
def yX7_match : MethodName := ⟨RX7, "match", "(Ljava/lang/String;I)I"⟩
abbrev cX7_widthOf : ByteArray := prog_9_method_6_code
def yX7_widthOf : MethodName := ⟨RX7, "widthOf", "(CI)I"⟩
abbrev cX7_readNumber : ByteArray := prog_9_method_7_code
def yX7_readNumber : MethodName := ⟨RX7, "readNumber", "(II)I"⟩
abbrev cX7_isDigitAt : ByteArray := prog_9_method_8_code
def yX7_isDigitAt : MethodName := ⟨RX7, "isDigitAt", "(I)Z"⟩
def RX8 : String := "CrowMail$State"
def TX8 : u_T := fun k => match k with
  | 0 => ("CrowMail$State", "nests", "[LCrowMail$Nest;", true)
  | 1 => ("CrowMail$State", "crows", "[LCrowMail$Crow;", true)
  | 2 => ("CrowMail$State", "messages", "[LCrowMail$Message;", true)
  | 3 => ("CrowMail$State", "totals", "LCrowMail$Totals;", true)
  | 4 => ("CrowMail$State", "nestCount", "I", false)
  | 5 => ("CrowMail$State", "crowCount", "I", false)
  | 6 => ("CrowMail$State", "messageCount", "I", false)
  | 7 => ("CrowMail$State", "time", "I", false)
  | _ => ("CrowMail$State", "wind", "I", false)
def tyX8 : Nat → FieldType := fun k => match k with
  | 0 => .array (.object "CrowMail$Nest")
  | 1 => .array (.object "CrowMail$Crow")
  | 2 => .array (.object "CrowMail$Message")
  | 3 => .object "CrowMail$Totals"
  | 4 => .int
  | 5 => .int
  | 6 => .int
  | 7 => .int
  | _ => .int
theorem nmX8 : ∀ a, a < 9 → ∀ b, b < 9 → a ≠ b → (TX8 a).2.1 ≠ (TX8 b).2.1 := by decide +kernel
theorem tyX8_ok : ∀ k, k < 9 → parseFieldDescriptor (TX8 k).2.2.1 = some (tyX8 k) := by decide +kernel
abbrev cX8_init : ByteArray := prog_10_method_1_code
def yX8_init : MethodName := ⟨RX8, "<init>", "()V"⟩
abbrev cX8_copyFrom : ByteArray := prog_10_method_2_code
def yX8_copyFrom : MethodName := ⟨RX8, "copyFrom", "(LCrowMail$State;)V"⟩
abbrev cX8_perform : ByteArray := prog_10_method_3_code
def yX8_perform : MethodName := ⟨RX8, "perform", "(LCrowMail$Command;)I"⟩
abbrev cX8_openNest : ByteArray := prog_10_method_4_code
def yX8_openNest : MethodName := ⟨RX8, "openNest", "(II)I"⟩
abbrev cX8_hireCrow : ByteArray := prog_10_method_5_code
def yX8_hireCrow : MethodName := ⟨RX8, "hireCrow", "()I"⟩
abbrev cX8_post : ByteArray := prog_10_method_6_code
def yX8_post : MethodName := ⟨RX8, "post", "(II)I"⟩
abbrev cX8_handOver : ByteArray := prog_10_method_7_code
def yX8_handOver : MethodName := ⟨RX8, "handOver", "(I)I"⟩
abbrev cX8_withdraw : ByteArray := prog_10_method_8_code
def yX8_withdraw : MethodName := ⟨RX8, "withdraw", "(I)I"⟩
abbrev cX8_turnWind : ByteArray := prog_10_method_9_code
def yX8_turnWind : MethodName := ⟨RX8, "turnWind", "(I)I"⟩
abbrev cX8_clearKeys : ByteArray := prog_10_method_10_code
def yX8_clearKeys : MethodName := ⟨RX8, "clearKeys", "(I)I"⟩
abbrev cX8_pass : ByteArray := prog_10_method_11_code
def yX8_pass : MethodName := ⟨RX8, "pass", "(I)I"⟩
abbrev cX8_landCrows : ByteArray := prog_10_method_12_code
def yX8_landCrows : MethodName := ⟨RX8, "landCrows", "()V"⟩
abbrev cX8_wakeMessages : ByteArray := prog_10_method_13_code
def yX8_wakeMessages : MethodName := ⟨RX8, "wakeMessages", "()V"⟩
abbrev cX8_sendCrows : ByteArray := prog_10_method_14_code
def yX8_sendCrows : MethodName := ⟨RX8, "sendCrows", "()V"⟩
abbrev cX8_flightLength : ByteArray := prog_10_method_15_code
def yX8_flightLength : MethodName := ⟨RX8, "flightLength", "(LCrowMail$Message;)I"⟩
abbrev cX8_arrive : ByteArray := prog_10_method_16_code
def yX8_arrive : MethodName := ⟨RX8, "arrive", "(I)V"⟩
abbrev cX8_isLost : ByteArray := prog_10_method_17_code
def yX8_isLost : MethodName := ⟨RX8, "isLost", "(LCrowMail$Message;I)Z"⟩
abbrev cX8_remove : ByteArray := prog_10_method_18_code
def yX8_remove : MethodName := ⟨RX8, "remove", "(I)V"⟩
abbrev cX8_rowOf : ByteArray := prog_10_method_19_code
def yX8_rowOf : MethodName := ⟨RX8, "rowOf", "(I)I"⟩
abbrev cX8_nestAt : ByteArray := prog_10_method_20_code
def yX8_nestAt : MethodName := ⟨RX8, "nestAt", "(I)LCrowMail$Nest;"⟩
abbrev cX8_crowAt : ByteArray := prog_10_method_21_code
def yX8_crowAt : MethodName := ⟨RX8, "crowAt", "(I)LCrowMail$Crow;"⟩
abbrev cX8_messageWith : ByteArray := prog_10_method_22_code
def yX8_messageWith : MethodName := ⟨RX8, "messageWith", "(I)LCrowMail$Message;"⟩
abbrev cX8_waitingAtRank : ByteArray := prog_10_method_23_code
def yX8_waitingAtRank : MethodName := ⟨RX8, "waitingAtRank", "(I)LCrowMail$Message;"⟩
abbrev cX8_nestAtRank : ByteArray := prog_10_method_24_code
def yX8_nestAtRank : MethodName := ⟨RX8, "nestAtRank", "(I)I"⟩
abbrev cX8_ranksBefore : ByteArray := prog_10_method_25_code
def yX8_ranksBefore : MethodName := ⟨RX8, "ranksBefore", "(II)Z"⟩
abbrev cX8_sumOfAttempts : ByteArray := prog_10_method_26_code
def yX8_sumOfAttempts : MethodName := ⟨RX8, "sumOfAttempts", "()I"⟩
abbrev cX8_messagesWithStatus : ByteArray := prog_10_method_27_code
def yX8_messagesWithStatus : MethodName := ⟨RX8, "messagesWithStatus", "(C)I"⟩
abbrev cX8_flyingCrows : ByteArray := prog_10_method_28_code
def yX8_flyingCrows : MethodName := ⟨RX8, "flyingCrows", "()I"⟩
abbrev cX8_messagesInInboxes : ByteArray := prog_10_method_29_code
def yX8_messagesInInboxes : MethodName := ⟨RX8, "messagesInInboxes", "()I"⟩
def RX9 : String := "CrowMail$Totals"
def TX9 : u_T := fun k => match k with
  | 0 => ("CrowMail$Totals", "published", "I", false)
  | 1 => ("CrowMail$Totals", "delivered", "I", false)
  | 2 => ("CrowMail$Totals", "read", "I", false)
  | 3 => ("CrowMail$Totals", "duplicates", "I", false)
  | 4 => ("CrowMail$Totals", "failed", "I", false)
  | 5 => ("CrowMail$Totals", "cancelled", "I", false)
  | _ => ("CrowMail$Totals", "arrivals", "I", false)
def tyX9 : Nat → FieldType := fun k => match k with
  | 0 => .int
  | 1 => .int
  | 2 => .int
  | 3 => .int
  | 4 => .int
  | 5 => .int
  | _ => .int
theorem nmX9 : ∀ a, a < 7 → ∀ b, b < 7 → a ≠ b → (TX9 a).2.1 ≠ (TX9 b).2.1 := by decide +kernel
theorem tyX9_ok : ∀ k, k < 7 → parseFieldDescriptor (TX9 k).2.2.1 = some (tyX9 k) := by decide +kernel
abbrev cX9_init : ByteArray := prog_11_method_1_code
def yX9_init : MethodName := ⟨RX9, "<init>", "()V"⟩
abbrev cX9_existing : ByteArray := prog_11_method_2_code
def yX9_existing : MethodName := ⟨RX9, "existing", "()I"⟩
abbrev cX9_copyFrom : ByteArray := prog_11_method_3_code
def yX9_copyFrom : MethodName := ⟨RX9, "copyFrom", "(LCrowMail$Totals;)V"⟩
def RX10 : String := "CrowMail"
def TX10 : u_T := fun k => match k with
  | 0 => ("CrowMail", "state", "LCrowMail$State;", true)
  | 1 => ("CrowMail", "before", "LCrowMail$State;", true)
  | 2 => ("CrowMail", "foreseen", "LCrowMail$State;", true)
  | 3 => ("CrowMail", "snapshot", "LCrowMail$State;", true)
  | 4 => ("CrowMail", "history", "LCrowMail$History;", true)
  | 5 => ("CrowMail", "script", "LCrowMail$Script;", true)
  | 6 => ("CrowMail", "output", "Ljava/lang/StringBuilder;", true)
  | 7 => ("CrowMail", "hasSnapshot", "Z", false)
  | 8 => ("CrowMail", "latestErrorPosition", "I", false)
  | _ => ("CrowMail", "latestFailedCommand", "I", false)
def tyX10 : Nat → FieldType := fun k => match k with
  | 0 => .object "CrowMail$State"
  | 1 => .object "CrowMail$State"
  | 2 => .object "CrowMail$State"
  | 3 => .object "CrowMail$State"
  | 4 => .object "CrowMail$History"
  | 5 => .object "CrowMail$Script"
  | 6 => .object "java/lang/StringBuilder"
  | 7 => .boolean
  | 8 => .int
  | _ => .int
theorem nmX10 : ∀ a, a < 10 → ∀ b, b < 10 → a ≠ b → (TX10 a).2.1 ≠ (TX10 b).2.1 := by decide +kernel
theorem tyX10_ok : ∀ k, k < 10 → parseFieldDescriptor (TX10 k).2.2.1 = some (tyX10 k) := by decide +kernel
abbrev cX10_init : ByteArray := prog_1_method_1_code
def yX10_init : MethodName := ⟨RX10, "<init>", "()V"⟩
abbrev cX10_addNest : ByteArray := prog_1_method_2_code
def yX10_addNest : MethodName := ⟨RX10, "addNest", "(II)I"⟩
abbrev cX10_addCrow : ByteArray := prog_1_method_3_code
def yX10_addCrow : MethodName := ⟨RX10, "addCrow", "()I"⟩
abbrev cX10_publish : ByteArray := prog_1_method_4_code
def yX10_publish : MethodName := ⟨RX10, "publish", "(II)I"⟩
abbrev cX10_read : ByteArray := prog_1_method_5_code
def yX10_read : MethodName := ⟨RX10, "read", "(I)I"⟩
abbrev cX10_cancel : ByteArray := prog_1_method_6_code
def yX10_cancel : MethodName := ⟨RX10, "cancel", "(I)I"⟩
abbrev cX10_setWind : ByteArray := prog_1_method_7_code
def yX10_setWind : MethodName := ⟨RX10, "setWind", "(I)I"⟩
abbrev cX10_forget : ByteArray := prog_1_method_8_code
def yX10_forget : MethodName := ⟨RX10, "forget", "(I)I"⟩
abbrev cX10_advance : ByteArray := prog_1_method_9_code
def yX10_advance : MethodName := ⟨RX10, "advance", "(I)I"⟩
abbrev cX10_settle : ByteArray := prog_1_method_10_code
def yX10_settle : MethodName := ⟨RX10, "settle", "(I)I"⟩
abbrev cX10_nestCount : ByteArray := prog_1_method_11_code
def yX10_nestCount : MethodName := ⟨RX10, "nestCount", "()I"⟩
abbrev cX10_distance : ByteArray := prog_1_method_12_code
def yX10_distance : MethodName := ⟨RX10, "distance", "(I)I"⟩
abbrev cX10_loss : ByteArray := prog_1_method_13_code
def yX10_loss : MethodName := ⟨RX10, "loss", "(I)I"⟩
abbrev cX10_inboxSize : ByteArray := prog_1_method_14_code
def yX10_inboxSize : MethodName := ⟨RX10, "inboxSize", "(I)I"⟩
abbrev cX10_inboxMessage : ByteArray := prog_1_method_15_code
def yX10_inboxMessage : MethodName := ⟨RX10, "inboxMessage", "(II)I"⟩
abbrev cX10_remembers : ByteArray := prog_1_method_16_code
def yX10_remembers : MethodName := ⟨RX10, "remembers", "(II)Z"⟩
abbrev cX10_rememberedCount : ByteArray := prog_1_method_17_code
def yX10_rememberedCount : MethodName := ⟨RX10, "rememberedCount", "(I)I"⟩
abbrev cX10_nestByDeliveries : ByteArray := prog_1_method_18_code
def yX10_nestByDeliveries : MethodName := ⟨RX10, "nestByDeliveries", "(I)I"⟩
abbrev cX10_existingNest : ByteArray := prog_1_method_19_code
def yX10_existingNest : MethodName := ⟨RX10, "existingNest", "(I)LCrowMail$Nest;"⟩
abbrev cX10_crowCount : ByteArray := prog_1_method_20_code
def yX10_crowCount : MethodName := ⟨RX10, "crowCount", "()I"⟩
abbrev cX10_isFlying : ByteArray := prog_1_method_21_code
def yX10_isFlying : MethodName := ⟨RX10, "isFlying", "(I)Z"⟩
abbrev cX10_carriedMessage : ByteArray := prog_1_method_22_code
def yX10_carriedMessage : MethodName := ⟨RX10, "carriedMessage", "(I)I"⟩
abbrev cX10_flightMinutes : ByteArray := prog_1_method_23_code
def yX10_flightMinutes : MethodName := ⟨RX10, "flightMinutes", "(I)I"⟩
abbrev cX10_existingCrow : ByteArray := prog_1_method_24_code
def yX10_existingCrow : MethodName := ⟨RX10, "existingCrow", "(I)LCrowMail$Crow;"⟩
abbrev cX10_messageCount : ByteArray := prog_1_method_25_code
def yX10_messageCount : MethodName := ⟨RX10, "messageCount", "()I"⟩
abbrev cX10_messageAt : ByteArray := prog_1_method_26_code
def yX10_messageAt : MethodName := ⟨RX10, "messageAt", "(I)I"⟩
abbrev cX10_nestOf : ByteArray := prog_1_method_27_code
def yX10_nestOf : MethodName := ⟨RX10, "nestOf", "(I)I"⟩
abbrev cX10_keyOf : ByteArray := prog_1_method_28_code
def yX10_keyOf : MethodName := ⟨RX10, "keyOf", "(I)I"⟩
abbrev cX10_attempts : ByteArray := prog_1_method_29_code
def yX10_attempts : MethodName := ⟨RX10, "attempts", "(I)I"⟩
abbrev cX10_status : ByteArray := prog_1_method_30_code
def yX10_status : MethodName := ⟨RX10, "status", "(I)C"⟩
abbrev cX10_napMinutes : ByteArray := prog_1_method_31_code
def yX10_napMinutes : MethodName := ⟨RX10, "napMinutes", "(I)I"⟩
abbrev cX10_waitingMessage : ByteArray := prog_1_method_32_code
def yX10_waitingMessage : MethodName := ⟨RX10, "waitingMessage", "(I)I"⟩
abbrev cX10_wouldBeLost : ByteArray := prog_1_method_33_code
def yX10_wouldBeLost : MethodName := ⟨RX10, "wouldBeLost", "(I)Z"⟩
abbrev cX10_napLength : ByteArray := prog_1_method_34_code
def yX10_napLength : MethodName := ⟨RX10, "napLength", "(I)J"⟩
abbrev cX10_napLengthByDoubling : ByteArray := prog_1_method_35_code
def yX10_napLengthByDoubling : MethodName := ⟨RX10, "napLengthByDoubling", "(I)J"⟩
abbrev cX10_minutesUntilDelivered : ByteArray := prog_1_method_36_code
def yX10_minutesUntilDelivered : MethodName := ⟨RX10, "minutesUntilDelivered", "(I)I"⟩
abbrev cX10_existingMessage : ByteArray := prog_1_method_37_code
def yX10_existingMessage : MethodName := ⟨RX10, "existingMessage", "(I)LCrowMail$Message;"⟩
abbrev cX10_foreseenMinutes : ByteArray := prog_1_method_38_code
def yX10_foreseenMinutes : MethodName := ⟨RX10, "foreseenMinutes", "(I)I"⟩
abbrev cX10_shiftedNap : ByteArray := prog_1_method_39_code
def yX10_shiftedNap : MethodName := ⟨RX10, "shiftedNap", "(I)J"⟩
abbrev cX10_doubledNap : ByteArray := prog_1_method_40_code
def yX10_doubledNap : MethodName := ⟨RX10, "doubledNap", "(I)J"⟩
abbrev cX10_time : ByteArray := prog_1_method_41_code
def yX10_time : MethodName := ⟨RX10, "time", "()I"⟩
abbrev cX10_wind : ByteArray := prog_1_method_42_code
def yX10_wind : MethodName := ⟨RX10, "wind", "()I"⟩
abbrev cX10_publishedTotal : ByteArray := prog_1_method_43_code
def yX10_publishedTotal : MethodName := ⟨RX10, "publishedTotal", "()I"⟩
abbrev cX10_deliveredTotal : ByteArray := prog_1_method_44_code
def yX10_deliveredTotal : MethodName := ⟨RX10, "deliveredTotal", "()I"⟩
abbrev cX10_readTotal : ByteArray := prog_1_method_45_code
def yX10_readTotal : MethodName := ⟨RX10, "readTotal", "()I"⟩
abbrev cX10_duplicateTotal : ByteArray := prog_1_method_46_code
def yX10_duplicateTotal : MethodName := ⟨RX10, "duplicateTotal", "()I"⟩
abbrev cX10_failedTotal : ByteArray := prog_1_method_47_code
def yX10_failedTotal : MethodName := ⟨RX10, "failedTotal", "()I"⟩
abbrev cX10_arrivalTotal : ByteArray := prog_1_method_48_code
def yX10_arrivalTotal : MethodName := ⟨RX10, "arrivalTotal", "()I"⟩
abbrev cX10_messageCountByTotals : ByteArray := prog_1_method_49_code
def yX10_messageCountByTotals : MethodName := ⟨RX10, "messageCountByTotals", "()I"⟩
abbrev cX10_meanAttempts : ByteArray := prog_1_method_50_code
def yX10_meanAttempts : MethodName := ⟨RX10, "meanAttempts", "()D"⟩
abbrev cX10_meanAttemptsBits : ByteArray := prog_1_method_51_code
def yX10_meanAttemptsBits : MethodName := ⟨RX10, "meanAttemptsBits", "()J"⟩
abbrev cX10_deliveryRate : ByteArray := prog_1_method_52_code
def yX10_deliveryRate : MethodName := ⟨RX10, "deliveryRate", "()F"⟩
abbrev cX10_deliveryRateBits : ByteArray := prog_1_method_53_code
def yX10_deliveryRateBits : MethodName := ⟨RX10, "deliveryRateBits", "()I"⟩
abbrev cX10_isConsistent : ByteArray := prog_1_method_54_code
def yX10_isConsistent : MethodName := ⟨RX10, "isConsistent", "()Z"⟩
abbrev cX10_meanOfAttempts : ByteArray := prog_1_method_55_code
def yX10_meanOfAttempts : MethodName := ⟨RX10, "meanOfAttempts", "()D"⟩
abbrev cX10_rateOfDeliveries : ByteArray := prog_1_method_56_code
def yX10_rateOfDeliveries : MethodName := ⟨RX10, "rateOfDeliveries", "()F"⟩
abbrev cX10_bitsOf : ByteArray := prog_1_method_57_code
def yX10_bitsOf : MethodName := ⟨RX10, "bitsOf", "(DII)J"⟩
abbrev cX10_napLengthsAgree : ByteArray := prog_1_method_58_code
def yX10_napLengthsAgree : MethodName := ⟨RX10, "napLengthsAgree", "()Z"⟩
abbrev cX10_type : ByteArray := prog_1_method_62_code
def yX10_type : MethodName := ⟨RX10, "type", "(C)I"⟩
abbrev cX10_runScript : ByteArray := prog_1_method_63_code
def yX10_runScript : MethodName := ⟨RX10, "runScript", "()I"⟩
abbrev cX10_undo : ByteArray := prog_1_method_66_code
def yX10_undo : MethodName := ⟨RX10, "undo", "()I"⟩
abbrev cX10_save : ByteArray := prog_1_method_67_code
def yX10_save : MethodName := ⟨RX10, "save", "()I"⟩
abbrev cX10_restore : ByteArray := prog_1_method_68_code
def yX10_restore : MethodName := ⟨RX10, "restore", "()I"⟩
def RX11 : String := "CrowMailModel"
def TX11 : u_T := fun k => match k with
  | _ => ("", "", "", false)
def tyX11 : Nat → FieldType := fun k => match k with
  | _ => .int
theorem nmX11 : ∀ a, a < 0 → ∀ b, b < 0 → a ≠ b → (TX11 a).2.1 ≠ (TX11 b).2.1 := by decide +kernel
theorem tyX11_ok : ∀ k, k < 0 → parseFieldDescriptor (TX11 k).2.2.1 = some (tyX11 k) := by decide +kernel
def RJx145de : String := "java/io/Serializable"
def TJx145de : u_T := fun k => match k with
  | _ => ("", "", "", false)
def tyJx145de : Nat → FieldType := fun k => match k with
  | _ => .int
theorem nmJx145de : ∀ a, a < 0 → ∀ b, b < 0 → a ≠ b → (TJx145de a).2.1 ≠ (TJx145de b).2.1 := by decide +kernel
theorem tyJx145de_ok : ∀ k, k < 0 → parseFieldDescriptor (TJx145de k).2.2.1 = some (tyJx145de k) := by decide +kernel
def RJ5 : String := "java/lang/AbstractStringBuilder"
def TJ5 : u_T := fun k => match k with
  | _ => ("", "", "", false)
def tyJ5 : Nat → FieldType := fun k => match k with
  | _ => .int
theorem nmJ5 : ∀ a, a < 0 → ∀ b, b < 0 → a ≠ b → (TJ5 a).2.1 ≠ (TJ5 b).2.1 := by decide +kernel
theorem tyJ5_ok : ∀ k, k < 0 → parseFieldDescriptor (TJ5 k).2.2.1 = some (tyJ5 k) := by decide +kernel
abbrev cJ5_init_d00df : ByteArray := prog_15_method_2_code
def yJ5_init_d00df : MethodName := ⟨RJ5, "<init>", "(I)V"⟩
abbrev cJ5_length_8abf5 : ByteArray := prog_15_method_6_code
def yJ5_length_8abf5 : MethodName := ⟨RJ5, "length", "()I"⟩
abbrev cJ5_ensureCapacityInternal_d00df : ByteArray := prog_15_method_9_code
def yJ5_ensureCapacityInternal_d00df : MethodName := ⟨RJ5, "ensureCapacityInternal", "(I)V"⟩
abbrev cJ5_newCapacity_0f7a4 : ByteArray := prog_15_method_10_code
def yJ5_newCapacity_0f7a4 : MethodName := ⟨RJ5, "newCapacity", "(I)I"⟩
abbrev cJ5_inflate_da8c8 : ByteArray := prog_15_method_11_code
def yJ5_inflate_da8c8 : MethodName := ⟨RJ5, "inflate", "()V"⟩
abbrev cJ5_append_cf1ce : ByteArray := prog_15_method_22_code
def yJ5_append_cf1ce : MethodName := ⟨RJ5, "append", "(Ljava/lang/String;)Ljava/lang/AbstractStringBuilder;"⟩
abbrev cJ5_appendNull_278bc : ByteArray := prog_15_method_26_code
def yJ5_appendNull_278bc : MethodName := ⟨RJ5, "appendNull", "()Ljava/lang/AbstractStringBuilder;"⟩
abbrev cJ5_append_c97b9 : ByteArray := prog_15_method_32_code
def yJ5_append_c97b9 : MethodName := ⟨RJ5, "append", "(I)Ljava/lang/AbstractStringBuilder;"⟩
abbrev cJ5_getValue_6d5f1 : ByteArray := prog_15_method_64_code
def yJ5_getValue_6d5f1 : MethodName := ⟨RJ5, "getValue", "()[B"⟩
abbrev cJ5_isLatin1_aae02 : ByteArray := prog_15_method_68_code
def yJ5_isLatin1_aae02 : MethodName := ⟨RJ5, "isLatin1", "()Z"⟩
abbrev cJ5_inflateIfNeededFor_a7421 : ByteArray := prog_15_method_71_code
def yJ5_inflateIfNeededFor_a7421 : MethodName := ⟨RJ5, "inflateIfNeededFor", "(Ljava/lang/String;)V"⟩
abbrev cJ5_putStringAt_47b60 : ByteArray := prog_15_method_73_code
def yJ5_putStringAt_47b60 : MethodName := ⟨RJ5, "putStringAt", "(ILjava/lang/String;)V"⟩
def RJx2cfe8 : String := "java/lang/Appendable"
def TJx2cfe8 : u_T := fun k => match k with
  | _ => ("", "", "", false)
def tyJx2cfe8 : Nat → FieldType := fun k => match k with
  | _ => .int
theorem nmJx2cfe8 : ∀ a, a < 0 → ∀ b, b < 0 → a ≠ b → (TJx2cfe8 a).2.1 ≠ (TJx2cfe8 b).2.1 := by decide +kernel
theorem tyJx2cfe8_ok : ∀ k, k < 0 → parseFieldDescriptor (TJx2cfe8 k).2.2.1 = some (tyJx2cfe8 k) := by decide +kernel
def RJx00060 : String := "java/lang/ArrayIndexOutOfBoundsException"
def TJx00060 : u_T := fun k => match k with
  | 0 => ("java/lang/Throwable", "backtrace", "Ljava/lang/Object;", false)
  | 1 => ("java/lang/Throwable", "detailMessage", "Ljava/lang/String;", false)
  | 2 => ("java/lang/Throwable", "cause", "Ljava/lang/Throwable;", false)
  | 3 => ("java/lang/Throwable", "stackTrace", "[Ljava/lang/StackTraceElement;", false)
  | 4 => ("java/lang/Throwable", "depth", "I", false)
  | _ => ("java/lang/Throwable", "suppressedExceptions", "Ljava/util/List;", false)
def tyJx00060 : Nat → FieldType := fun k => match k with
  | 0 => .object "java/lang/Object"
  | 1 => .object "java/lang/String"
  | 2 => .object "java/lang/Throwable"
  | 3 => .array (.object "java/lang/StackTraceElement")
  | 4 => .int
  | _ => .object "java/util/List"
theorem nmJx00060 : ∀ a, a < 6 → ∀ b, b < 6 → a ≠ b → (TJx00060 a).2.1 ≠ (TJx00060 b).2.1 := by decide +kernel
theorem tyJx00060_ok : ∀ k, k < 6 → parseFieldDescriptor (TJx00060 k).2.2.1 = some (tyJx00060 k) := by decide +kernel
abbrev cJx00060_init_a7421 : ByteArray := prog_18_method_2_code
def yJx00060_init_a7421 : MethodName := ⟨RJx00060, "<init>", "(Ljava/lang/String;)V"⟩
def RJx9f9b0 : String := "java/lang/CharSequence"
def TJx9f9b0 : u_T := fun k => match k with
  | _ => ("", "", "", false)
def tyJx9f9b0 : Nat → FieldType := fun k => match k with
  | _ => .int
theorem nmJx9f9b0 : ∀ a, a < 0 → ∀ b, b < 0 → a ≠ b → (TJx9f9b0 a).2.1 ≠ (TJx9f9b0 b).2.1 := by decide +kernel
theorem tyJx9f9b0_ok : ∀ k, k < 0 → parseFieldDescriptor (TJx9f9b0 k).2.2.1 = some (tyJx9f9b0 k) := by decide +kernel
def RJx8e188 : String := "java/lang/Cloneable"
def TJx8e188 : u_T := fun k => match k with
  | _ => ("", "", "", false)
def tyJx8e188 : Nat → FieldType := fun k => match k with
  | _ => .int
theorem nmJx8e188 : ∀ a, a < 0 → ∀ b, b < 0 → a ≠ b → (TJx8e188 a).2.1 ≠ (TJx8e188 b).2.1 := by decide +kernel
theorem tyJx8e188_ok : ∀ k, k < 0 → parseFieldDescriptor (TJx8e188 k).2.2.1 = some (tyJx8e188 k) := by decide +kernel
def RJxb160c : String := "java/lang/Comparable"
def TJxb160c : u_T := fun k => match k with
  | _ => ("", "", "", false)
def tyJxb160c : Nat → FieldType := fun k => match k with
  | _ => .int
theorem nmJxb160c : ∀ a, a < 0 → ∀ b, b < 0 → a ≠ b → (TJxb160c a).2.1 ≠ (TJxb160c b).2.1 := by decide +kernel
theorem tyJxb160c_ok : ∀ k, k < 0 → parseFieldDescriptor (TJxb160c k).2.2.1 = some (tyJxb160c k) := by decide +kernel
def RJxe99ae : String := "java/lang/Double"
def TJxe99ae : u_T := fun k => match k with
  | _ => ("", "", "", false)
def tyJxe99ae : Nat → FieldType := fun k => match k with
  | _ => .int
theorem nmJxe99ae : ∀ a, a < 0 → ∀ b, b < 0 → a ≠ b → (TJxe99ae a).2.1 ≠ (TJxe99ae b).2.1 := by decide +kernel
theorem tyJxe99ae_ok : ∀ k, k < 0 → parseFieldDescriptor (TJxe99ae k).2.2.1 = some (tyJxe99ae k) := by decide +kernel
abbrev cJxe99ae_isNaN_b9ae7 : ByteArray := prog_22_method_6_code
def yJxe99ae_isNaN_b9ae7 : MethodName := ⟨RJxe99ae, "isNaN", "(D)Z"⟩
abbrev cJxe99ae_doubleToLongBits_ccdee : ByteArray := prog_22_method_23_code
def yJxe99ae_doubleToLongBits_ccdee : MethodName := ⟨RJxe99ae, "doubleToLongBits", "(D)J"⟩
def RJx29ce0 : String := "java/lang/Enum"
def TJx29ce0 : u_T := fun k => match k with
  | _ => ("", "", "", false)
def tyJx29ce0 : Nat → FieldType := fun k => match k with
  | _ => .int
theorem nmJx29ce0 : ∀ a, a < 0 → ∀ b, b < 0 → a ≠ b → (TJx29ce0 a).2.1 ≠ (TJx29ce0 b).2.1 := by decide +kernel
theorem tyJx29ce0_ok : ∀ k, k < 0 → parseFieldDescriptor (TJx29ce0 k).2.2.1 = some (tyJx29ce0 k) := by decide +kernel
abbrev cJx29ce0_ordinal_8abf5 : ByteArray := prog_23_method_2_code
def yJx29ce0_ordinal_8abf5 : MethodName := ⟨RJx29ce0, "ordinal", "()I"⟩
def RJxf58ca : String := "java/lang/Float"
def TJxf58ca : u_T := fun k => match k with
  | _ => ("", "", "", false)
def tyJxf58ca : Nat → FieldType := fun k => match k with
  | _ => .int
theorem nmJxf58ca : ∀ a, a < 0 → ∀ b, b < 0 → a ≠ b → (TJxf58ca a).2.1 ≠ (TJxf58ca b).2.1 := by decide +kernel
theorem tyJxf58ca_ok : ∀ k, k < 0 → parseFieldDescriptor (TJxf58ca k).2.2.1 = some (tyJxf58ca k) := by decide +kernel
abbrev cJxf58ca_isNaN_12338 : ByteArray := prog_25_method_6_code
def yJxf58ca_isNaN_12338 : MethodName := ⟨RJxf58ca, "isNaN", "(F)Z"⟩
abbrev cJxf58ca_floatToIntBits_5c35a : ByteArray := prog_25_method_24_code
def yJxf58ca_floatToIntBits_5c35a : MethodName := ⟨RJxf58ca, "floatToIntBits", "(F)I"⟩
def RJ6 : String := "java/lang/Integer"
def TJ6 : u_T := fun k => match k with
  | _ => ("", "", "", false)
def tyJ6 : Nat → FieldType := fun k => match k with
  | _ => .int
theorem nmJ6 : ∀ a, a < 0 → ∀ b, b < 0 → a ≠ b → (TJ6 a).2.1 ≠ (TJ6 b).2.1 := by decide +kernel
theorem tyJ6_ok : ∀ k, k < 0 → parseFieldDescriptor (TJ6 k).2.2.1 = some (tyJ6 k) := by decide +kernel
abbrev cJ6_getChars_ba4f3 : ByteArray := prog_29_method_12_code
def yJ6_getChars_ba4f3 : MethodName := ⟨RJ6, "getChars", "(II[B)I"⟩
abbrev cJ6_stringSize_0f7a4 : ByteArray := prog_29_method_13_code
def yJ6_stringSize_0f7a4 : MethodName := ⟨RJ6, "stringSize", "(I)I"⟩
def RJ9 : String := "java/lang/Math"
def TJ9 : u_T := fun k => match k with
  | _ => ("", "", "", false)
def tyJ9 : Nat → FieldType := fun k => match k with
  | _ => .int
theorem nmJ9 : ∀ a, a < 0 → ∀ b, b < 0 → a ≠ b → (TJ9 a).2.1 ≠ (TJ9 b).2.1 := by decide +kernel
theorem tyJ9_ok : ∀ k, k < 0 → parseFieldDescriptor (TJ9 k).2.2.1 = some (tyJ9 k) := by decide +kernel
abbrev cJ9_max_7cf53 : ByteArray := prog_30_method_65_code
def yJ9_max_7cf53 : MethodName := ⟨RJ9, "max", "(II)I"⟩
abbrev cJ9_min_7cf53 : ByteArray := prog_30_method_69_code
def yJ9_min_7cf53 : MethodName := ⟨RJ9, "min", "(II)I"⟩
def RJxd2413 : String := "java/lang/Number"
def TJxd2413 : u_T := fun k => match k with
  | _ => ("", "", "", false)
def tyJxd2413 : Nat → FieldType := fun k => match k with
  | _ => .int
theorem nmJxd2413 : ∀ a, a < 0 → ∀ b, b < 0 → a ≠ b → (TJxd2413 a).2.1 ≠ (TJxd2413 b).2.1 := by decide +kernel
theorem tyJxd2413_ok : ∀ k, k < 0 → parseFieldDescriptor (TJxd2413 k).2.2.1 = some (tyJxd2413 k) := by decide +kernel
def RJ0 : String := "java/lang/String"
def TJ0 : u_T := fun k => match k with
  | 0 => ("java/lang/String", "value", "[B", true)
  | 1 => ("java/lang/String", "coder", "B", true)
  | 2 => ("java/lang/String", "hash", "I", false)
  | _ => ("java/lang/String", "hashIsZero", "Z", false)
def tyJ0 : Nat → FieldType := fun k => match k with
  | 0 => .array .byte
  | 1 => .byte
  | 2 => .int
  | _ => .boolean
theorem nmJ0 : ∀ a, a < 4 → ∀ b, b < 4 → a ≠ b → (TJ0 a).2.1 ≠ (TJ0 b).2.1 := by decide +kernel
theorem tyJ0_ok : ∀ k, k < 4 → parseFieldDescriptor (TJ0 k).2.2.1 = some (tyJ0 k) := by decide +kernel
abbrev cJ0_init_81219 : ByteArray := prog_33_method_53_code
def yJ0_init_81219 : MethodName := ⟨RJ0, "<init>", "(Ljava/lang/StringBuilder;)V"⟩
abbrev cJ0_length_8abf5 : ByteArray := prog_33_method_54_code
def yJ0_length_8abf5 : MethodName := ⟨RJ0, "length", "()I"⟩
abbrev cJ0_charAt_5068e : ByteArray := prog_33_method_56_code
def yJ0_charAt_5068e : MethodName := ⟨RJ0, "charAt", "(I)C"⟩
abbrev cJ0_getBytes_840e7 : ByteArray := prog_33_method_147_code
def yJ0_getBytes_840e7 : MethodName := ⟨RJ0, "getBytes", "([BIB)V"⟩
abbrev cJ0_init_db425 : ByteArray := prog_33_method_150_code
def yJ0_init_db425 : MethodName := ⟨RJ0, "<init>", "(Ljava/lang/AbstractStringBuilder;Ljava/lang/Void;)V"⟩
abbrev cJ0_coder_7d493 : ByteArray := prog_33_method_152_code
def yJ0_coder_7d493 : MethodName := ⟨RJ0, "coder", "()B"⟩
abbrev cJ0_isLatin1_aae02 : ByteArray := prog_33_method_154_code
def yJ0_isLatin1_aae02 : MethodName := ⟨RJ0, "isLatin1", "()Z"⟩
abbrev cJ0_checkIndex_df160 : ByteArray := prog_33_method_155_code
def yJ0_checkIndex_df160 : MethodName := ⟨RJ0, "checkIndex", "(II)V"⟩
abbrev cJ0_checkBoundsOffCount_cabcc : ByteArray := prog_33_method_157_code
def yJ0_checkBoundsOffCount_cabcc : MethodName := ⟨RJ0, "checkBoundsOffCount", "(III)I"⟩
abbrev cJ0_checkBoundsBeginEnd_23922 : ByteArray := prog_33_method_158_code
def yJ0_checkBoundsBeginEnd_23922 : MethodName := ⟨RJ0, "checkBoundsBeginEnd", "(III)V"⟩
def RJ4 : String := "java/lang/StringBuilder"
def TJ4 : u_T := fun k => match k with
  | 0 => ("java/lang/AbstractStringBuilder", "value", "[B", false)
  | 1 => ("java/lang/AbstractStringBuilder", "coder", "B", false)
  | 2 => ("java/lang/AbstractStringBuilder", "maybeLatin1", "Z", false)
  | _ => ("java/lang/AbstractStringBuilder", "count", "I", false)
def tyJ4 : Nat → FieldType := fun k => match k with
  | 0 => .array .byte
  | 1 => .byte
  | 2 => .boolean
  | _ => .int
theorem nmJ4 : ∀ a, a < 4 → ∀ b, b < 4 → a ≠ b → (TJ4 a).2.1 ≠ (TJ4 b).2.1 := by decide +kernel
theorem tyJ4_ok : ∀ k, k < 4 → parseFieldDescriptor (TJ4 k).2.2.1 = some (tyJ4 k) := by decide +kernel
abbrev cJ4_init_da8c8 : ByteArray := prog_34_method_1_code
def yJ4_init_da8c8 : MethodName := ⟨RJ4, "<init>", "()V"⟩
abbrev cJ4_append_15ec4 : ByteArray := prog_34_method_7_code
def yJ4_append_15ec4 : MethodName := ⟨RJ4, "append", "(Ljava/lang/String;)Ljava/lang/StringBuilder;"⟩
abbrev cJ4_append_bf812 : ByteArray := prog_34_method_15_code
def yJ4_append_bf812 : MethodName := ⟨RJ4, "append", "(I)Ljava/lang/StringBuilder;"⟩
abbrev cJ4_toString_0e30d : ByteArray := prog_34_method_42_code
def yJ4_toString_0e30d : MethodName := ⟨RJ4, "toString", "()Ljava/lang/String;"⟩
abbrev cJ4_length_8abf5 : ByteArray := prog_34_method_93_code
def yJ4_length_8abf5 : MethodName := ⟨RJ4, "length", "()I"⟩
def RJ1 : String := "java/lang/StringLatin1"
def TJ1 : u_T := fun k => match k with
  | _ => ("", "", "", false)
def tyJ1 : Nat → FieldType := fun k => match k with
  | _ => .int
theorem nmJ1 : ∀ a, a < 0 → ∀ b, b < 0 → a ≠ b → (TJ1 a).2.1 ≠ (TJ1 b).2.1 := by decide +kernel
theorem tyJ1_ok : ∀ k, k < 0 → parseFieldDescriptor (TJ1 k).2.2.1 = some (tyJ1 k) := by decide +kernel
abbrev cJ1_charAt_3b067 : ByteArray := prog_35_method_2_code
def yJ1_charAt_3b067 : MethodName := ⟨RJ1, "charAt", "([BI)C"⟩
abbrev cJ1_inflate_0e8fd : ByteArray := prog_35_method_50_code
def yJ1_inflate_0e8fd : MethodName := ⟨RJ1, "inflate", "([BI[BII)V"⟩
def RJ2 : String := "java/lang/StringUTF16"
def TJ2 : u_T := fun k => match k with
  | _ => ("", "", "", false)
def tyJ2 : Nat → FieldType := fun k => match k with
  | _ => .int
theorem nmJ2 : ∀ a, a < 0 → ∀ b, b < 0 → a ≠ b → (TJ2 a).2.1 ≠ (TJ2 b).2.1 := by decide +kernel
theorem tyJ2_ok : ∀ k, k < 0 → parseFieldDescriptor (TJ2 k).2.2.1 = some (tyJ2 k) := by decide +kernel
abbrev cJ2_newBytesFor_77867 : ByteArray := prog_36_method_2_code
def yJ2_newBytesFor_77867 : MethodName := ⟨RJ2, "newBytesFor", "(I)[B"⟩
abbrev cJ2_newBytesLength_0f7a4 : ByteArray := prog_36_method_3_code
def yJ2_newBytesLength_0f7a4 : MethodName := ⟨RJ2, "newBytesLength", "(I)I"⟩
abbrev cJ2_putChar_b72d1 : ByteArray := prog_36_method_4_code
def yJ2_putChar_b72d1 : MethodName := ⟨RJ2, "putChar", "([BII)V"⟩
abbrev cJ2_getChar_3b067 : ByteArray := prog_36_method_5_code
def yJ2_getChar_3b067 : MethodName := ⟨RJ2, "getChar", "([BI)C"⟩
abbrev cJ2_length_9d52b : ByteArray := prog_36_method_6_code
def yJ2_length_9d52b : MethodName := ⟨RJ2, "length", "([B)I"⟩
abbrev cJ2_coderFromArrayLen_85cad : ByteArray := prog_36_method_15_code
def yJ2_coderFromArrayLen_85cad : MethodName := ⟨RJ2, "coderFromArrayLen", "([BI)B"⟩
abbrev cJ2_compress_39247 : ByteArray := prog_36_method_17_code
def yJ2_compress_39247 : MethodName := ⟨RJ2, "compress", "([BII)[B"⟩
abbrev cJ2_compress_5af95 : ByteArray := prog_36_method_22_code
def yJ2_compress_5af95 : MethodName := ⟨RJ2, "compress", "([BI[BII)I"⟩
abbrev cJ2_getChars_46870 : ByteArray := prog_36_method_77_code
def yJ2_getChars_46870 : MethodName := ⟨RJ2, "getChars", "(III[B)I"⟩
abbrev cJ2_putCharsAt_cd4e5 : ByteArray := prog_36_method_81_code
def yJ2_putCharsAt_cd4e5 : MethodName := ⟨RJ2, "putCharsAt", "([BICCCC)I"⟩
abbrev cJ2_charAt_3b067 : ByteArray := prog_36_method_83_code
def yJ2_charAt_3b067 : MethodName := ⟨RJ2, "charAt", "([BI)C"⟩
abbrev cJ2_inflate_0e8fd : ByteArray := prog_36_method_86_code
def yJ2_inflate_0e8fd : MethodName := ⟨RJ2, "inflate", "([BI[BII)V"⟩
abbrev cJ2_getChars_ba4f3 : ByteArray := prog_36_method_89_code
def yJ2_getChars_ba4f3 : MethodName := ⟨RJ2, "getChars", "(II[B)I"⟩
abbrev cJ2_checkIndex_2214a : ByteArray := prog_36_method_91_code
def yJ2_checkIndex_2214a : MethodName := ⟨RJ2, "checkIndex", "(I[B)V"⟩
abbrev cJ2_checkBoundsBeginEnd_d044e : ByteArray := prog_36_method_93_code
def yJ2_checkBoundsBeginEnd_d044e : MethodName := ⟨RJ2, "checkBoundsBeginEnd", "(II[B)V"⟩
abbrev cJ2_checkBoundsOffCount_d044e : ByteArray := prog_36_method_94_code
def yJ2_checkBoundsOffCount_d044e : MethodName := ⟨RJ2, "checkBoundsOffCount", "(II[B)V"⟩
def RJ10 : String := "java/lang/System"
def TJ10 : u_T := fun k => match k with
  | _ => ("", "", "", false)
def tyJ10 : Nat → FieldType := fun k => match k with
  | _ => .int
theorem nmJ10 : ∀ a, a < 0 → ∀ b, b < 0 → a ≠ b → (TJ10 a).2.1 ≠ (TJ10 b).2.1 := by decide +kernel
theorem tyJ10_ok : ∀ k, k < 0 → parseFieldDescriptor (TJ10 k).2.2.1 = some (tyJ10 k) := by decide +kernel
def RJxfd54e : String := "java/lang/constant/Constable"
def TJxfd54e : u_T := fun k => match k with
  | _ => ("", "", "", false)
def tyJxfd54e : Nat → FieldType := fun k => match k with
  | _ => .int
theorem nmJxfd54e : ∀ a, a < 0 → ∀ b, b < 0 → a ≠ b → (TJxfd54e a).2.1 ≠ (TJxfd54e b).2.1 := by decide +kernel
theorem tyJxfd54e_ok : ∀ k, k < 0 → parseFieldDescriptor (TJxfd54e k).2.2.1 = some (tyJxfd54e k) := by decide +kernel
def RJx3cf43 : String := "java/lang/constant/ConstantDesc"
def TJx3cf43 : u_T := fun k => match k with
  | _ => ("", "", "", false)
def tyJx3cf43 : Nat → FieldType := fun k => match k with
  | _ => .int
theorem nmJx3cf43 : ∀ a, a < 0 → ∀ b, b < 0 → a ≠ b → (TJx3cf43 a).2.1 ≠ (TJx3cf43 b).2.1 := by decide +kernel
theorem tyJx3cf43_ok : ∀ k, k < 0 → parseFieldDescriptor (TJx3cf43 k).2.2.1 = some (tyJx3cf43 k) := by decide +kernel
def RJ7 : String := "java/util/Arrays"
def TJ7 : u_T := fun k => match k with
  | _ => ("", "", "", false)
def tyJ7 : Nat → FieldType := fun k => match k with
  | _ => .int
theorem nmJ7 : ∀ a, a < 0 → ∀ b, b < 0 → a ≠ b → (TJ7 a).2.1 ≠ (TJ7 b).2.1 := by decide +kernel
theorem tyJ7_ok : ∀ k, k < 0 → parseFieldDescriptor (TJ7 k).2.2.1 = some (tyJ7 k) := by decide +kernel
abbrev cJ7_copyOf_9075b : ByteArray := prog_41_method_121_code
def yJ7_copyOf_9075b : MethodName := ⟨RJ7, "copyOf", "([BI)[B"⟩
abbrev cJ7_checkLength_df160 : ByteArray := prog_41_method_131_code
def yJ7_checkLength_df160 : MethodName := ⟨RJ7, "checkLength", "(II)V"⟩
abbrev cJ7_copyOfRange_39247 : ByteArray := prog_41_method_132_code
def yJ7_copyOfRange_39247 : MethodName := ⟨RJ7, "copyOfRange", "([BII)[B"⟩
abbrev cJ7_copyOfRangeByte_39247 : ByteArray := prog_41_method_133_code
def yJ7_copyOfRangeByte_39247 : MethodName := ⟨RJ7, "copyOfRangeByte", "([BII)[B"⟩
def RJ8 : String := "jdk/internal/util/ArraysSupport"
def TJ8 : u_T := fun k => match k with
  | _ => ("", "", "", false)
def tyJ8 : Nat → FieldType := fun k => match k with
  | _ => .int
theorem nmJ8 : ∀ a, a < 0 → ∀ b, b < 0 → a ≠ b → (TJ8 a).2.1 ≠ (TJ8 b).2.1 := by decide +kernel
theorem tyJ8_ok : ∀ k, k < 0 → parseFieldDescriptor (TJ8 k).2.2.1 = some (tyJ8 k) := by decide +kernel
abbrev cJ8_newLength_cabcc : ByteArray := prog_43_method_27_code
def yJ8_newLength_cabcc : MethodName := ⟨RJ8, "newLength", "(III)I"⟩
abbrev cJ8_hugeLength_7cf53 : ByteArray := prog_43_method_28_code
def yJ8_hugeLength_7cf53 : MethodName := ⟨RJ8, "hugeLength", "(II)I"⟩
def RJ3 : String := "jdk/internal/util/Preconditions"
def TJ3 : u_T := fun k => match k with
  | _ => ("", "", "", false)
def tyJ3 : Nat → FieldType := fun k => match k with
  | _ => .int
theorem nmJ3 : ∀ a, a < 0 → ∀ b, b < 0 → a ≠ b → (TJ3 a).2.1 ≠ (TJ3 b).2.1 := by decide +kernel
theorem tyJ3_ok : ∀ k, k < 0 → parseFieldDescriptor (TJ3 k).2.2.1 = some (tyJ3 k) := by decide +kernel
abbrev cJ3_checkIndex_8e157 : ByteArray := prog_44_method_11_code
def yJ3_checkIndex_8e157 : MethodName := ⟨RJ3, "checkIndex", "(IILjava/util/function/BiFunction;)I"⟩
abbrev cJ3_checkFromToIndex_8c36e : ByteArray := prog_44_method_12_code
def yJ3_checkFromToIndex_8c36e : MethodName := ⟨RJ3, "checkFromToIndex", "(IIILjava/util/function/BiFunction;)I"⟩
abbrev cJ3_checkFromIndexSize_8c36e : ByteArray := prog_44_method_13_code
def yJ3_checkFromIndexSize_8c36e : MethodName := ⟨RJ3, "checkFromIndexSize", "(IIILjava/util/function/BiFunction;)I"⟩
def RL : String := "CrowMailLaw"
abbrev cL_cell : ByteArray := method_2_code
def yL_cell : MethodName := ⟨RL, "cell", "([II)I"⟩
abbrev cL_pick : ByteArray := method_3_code
def yL_pick : MethodName := ⟨RL, "pick", "([III)I"⟩
abbrev cL_addNest : ByteArray := method_4_code
def yL_addNest : MethodName := ⟨RL, "addNest", "(LCrowMail;II)I"⟩
abbrev cL_addCrow : ByteArray := method_5_code
def yL_addCrow : MethodName := ⟨RL, "addCrow", "(LCrowMail;)I"⟩
abbrev cL_publish : ByteArray := method_6_code
def yL_publish : MethodName := ⟨RL, "publish", "(LCrowMail;II)I"⟩
abbrev cL_read : ByteArray := method_7_code
def yL_read : MethodName := ⟨RL, "read", "(LCrowMail;I)I"⟩
abbrev cL_cancel : ByteArray := method_8_code
def yL_cancel : MethodName := ⟨RL, "cancel", "(LCrowMail;I)I"⟩
abbrev cL_setWind : ByteArray := method_9_code
def yL_setWind : MethodName := ⟨RL, "setWind", "(LCrowMail;I)I"⟩
abbrev cL_forget : ByteArray := method_10_code
def yL_forget : MethodName := ⟨RL, "forget", "(LCrowMail;I)I"⟩
abbrev cL_advance : ByteArray := method_11_code
def yL_advance : MethodName := ⟨RL, "advance", "(LCrowMail;I)I"⟩
abbrev cL_distance : ByteArray := method_12_code
def yL_distance : MethodName := ⟨RL, "distance", "(LCrowMail;I)I"⟩
abbrev cL_loss : ByteArray := method_13_code
def yL_loss : MethodName := ⟨RL, "loss", "(LCrowMail;I)I"⟩
abbrev cL_inboxSize : ByteArray := method_14_code
def yL_inboxSize : MethodName := ⟨RL, "inboxSize", "(LCrowMail;I)I"⟩
abbrev cL_inboxMessage : ByteArray := method_15_code
def yL_inboxMessage : MethodName := ⟨RL, "inboxMessage", "(LCrowMail;II)I"⟩
abbrev cL_remembers : ByteArray := method_16_code
def yL_remembers : MethodName := ⟨RL, "remembers", "(LCrowMail;II)I"⟩
abbrev cL_rememberedCount : ByteArray := method_17_code
def yL_rememberedCount : MethodName := ⟨RL, "rememberedCount", "(LCrowMail;I)I"⟩
abbrev cL_nestByDeliveries : ByteArray := method_18_code
def yL_nestByDeliveries : MethodName := ⟨RL, "nestByDeliveries", "(LCrowMail;I)I"⟩
abbrev cL_isFlying : ByteArray := method_19_code
def yL_isFlying : MethodName := ⟨RL, "isFlying", "(LCrowMail;I)I"⟩
abbrev cL_carriedMessage : ByteArray := method_20_code
def yL_carriedMessage : MethodName := ⟨RL, "carriedMessage", "(LCrowMail;I)I"⟩
abbrev cL_flightMinutes : ByteArray := method_21_code
def yL_flightMinutes : MethodName := ⟨RL, "flightMinutes", "(LCrowMail;I)I"⟩
abbrev cL_messageAt : ByteArray := method_22_code
def yL_messageAt : MethodName := ⟨RL, "messageAt", "(LCrowMail;I)I"⟩
abbrev cL_nestOf : ByteArray := method_23_code
def yL_nestOf : MethodName := ⟨RL, "nestOf", "(LCrowMail;I)I"⟩
abbrev cL_keyOf : ByteArray := method_24_code
def yL_keyOf : MethodName := ⟨RL, "keyOf", "(LCrowMail;I)I"⟩
abbrev cL_attempts : ByteArray := method_25_code
def yL_attempts : MethodName := ⟨RL, "attempts", "(LCrowMail;I)I"⟩
abbrev cL_status : ByteArray := method_26_code
def yL_status : MethodName := ⟨RL, "status", "(LCrowMail;I)I"⟩
abbrev cL_napMinutes : ByteArray := method_27_code
def yL_napMinutes : MethodName := ⟨RL, "napMinutes", "(LCrowMail;I)I"⟩
abbrev cL_waitingMessage : ByteArray := method_28_code
def yL_waitingMessage : MethodName := ⟨RL, "waitingMessage", "(LCrowMail;I)I"⟩
abbrev cL_wouldBeLost : ByteArray := method_29_code
def yL_wouldBeLost : MethodName := ⟨RL, "wouldBeLost", "(LCrowMail;I)I"⟩
abbrev cL_napLength : ByteArray := method_30_code
def yL_napLength : MethodName := ⟨RL, "napLength", "(LCrowMail;I)J"⟩
abbrev cL_napLengthByDoubling : ByteArray := method_31_code
def yL_napLengthByDoubling : MethodName := ⟨RL, "napLengthByDoubling", "(LCrowMail;I)J"⟩
abbrev cL_minutesUntilDelivered : ByteArray := method_32_code
def yL_minutesUntilDelivered : MethodName := ⟨RL, "minutesUntilDelivered", "(LCrowMail;I)I"⟩
abbrev cL_meanAttempts : ByteArray := method_33_code
def yL_meanAttempts : MethodName := ⟨RL, "meanAttempts", "(LCrowMail;)D"⟩
abbrev cL_meanAttemptsBits : ByteArray := method_34_code
def yL_meanAttemptsBits : MethodName := ⟨RL, "meanAttemptsBits", "(LCrowMail;)J"⟩
abbrev cL_deliveryRate : ByteArray := method_35_code
def yL_deliveryRate : MethodName := ⟨RL, "deliveryRate", "(LCrowMail;)F"⟩
abbrev cL_deliveryRateBits : ByteArray := method_36_code
def yL_deliveryRateBits : MethodName := ⟨RL, "deliveryRateBits", "(LCrowMail;)I"⟩
abbrev cL_type : ByteArray := method_39_code
def yL_type : MethodName := ⟨RL, "type", "(LCrowMail;C)I"⟩
abbrev cL_runScript : ByteArray := method_40_code
def yL_runScript : MethodName := ⟨RL, "runScript", "(LCrowMail;)I"⟩
abbrev cL_undo : ByteArray := method_43_code
def yL_undo : MethodName := ⟨RL, "undo", "(LCrowMail;)I"⟩
abbrev cL_restore : ByteArray := method_44_code
def yL_restore : MethodName := ⟨RL, "restore", "(LCrowMail;)I"⟩
abbrev cL_runs : ByteArray := method_45_code
def yL_runs : MethodName := ⟨RL, "runs", "(LCrowMail;Ljava/lang/String;)I"⟩
abbrev cL_law : ByteArray := code
def yL_law : MethodName := ⟨RL, "law", "([I)Z"⟩
abbrev cL_does : ByteArray := method_48_code
def yL_does : MethodName := ⟨RL, "does", "([IIILCrowMail;II)I"⟩
abbrev cL_sum : ByteArray := method_49_code
def yL_sum : MethodName := ⟨RL, "sum", "(LCrowMail;)J"⟩
abbrev cL_isMessage : ByteArray := method_50_code
def yL_isMessage : MethodName := ⟨RL, "isMessage", "(LCrowMail;I)Z"⟩
abbrev cL_isWhole : ByteArray := method_51_code
def yL_isWhole : MethodName := ⟨RL, "isWhole", "(LCrowMail;[IIZ)Z"⟩
abbrev cL_isKept : ByteArray := method_52_code
def yL_isKept : MethodName := ⟨RL, "isKept", "(LCrowMail;[JI)Z"⟩
