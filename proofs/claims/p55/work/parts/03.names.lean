def RX0 : String := "CommandChain$CodeBook"
def TX0 : u_T := fun k => match k with
  | 0 => ("CommandChain$CodeBook", "flags", "[I", true)
  | 1 => ("CommandChain$CodeBook", "meanings", "[I", true)
  | _ => ("CommandChain$CodeBook", "count", "I", false)
def tyX0 : Nat → FieldType := fun k => match k with
  | 0 => .array .int
  | 1 => .array .int
  | _ => .int
theorem nmX0 : ∀ a, a < 3 → ∀ b, b < 3 → a ≠ b → (TX0 a).2.1 ≠ (TX0 b).2.1 := by decide +kernel
theorem tyX0_ok : ∀ k, k < 3 → parseFieldDescriptor (TX0 k).2.2.1 = some (tyX0 k) := by decide +kernel
abbrev cX0_init : ByteArray := prog_2_method_1_code
def yX0_init : MethodName := ⟨RX0, "<init>", "()V"⟩
abbrev cX0_copyFrom : ByteArray := prog_2_method_2_code
def yX0_copyFrom : MethodName := ⟨RX0, "copyFrom", "(LCommandChain$CodeBook;)V"⟩
abbrev cX0_assign : ByteArray := prog_2_method_3_code
def yX0_assign : MethodName := ⟨RX0, "assign", "(III)I"⟩
abbrev cX0_remove : ByteArray := prog_2_method_4_code
def yX0_remove : MethodName := ⟨RX0, "remove", "(II)I"⟩
abbrev cX0_lookUp : ByteArray := prog_2_method_5_code
def yX0_lookUp : MethodName := ⟨RX0, "lookUp", "(II)I"⟩
abbrev cX0_countMeaning : ByteArray := prog_2_method_6_code
def yX0_countMeaning : MethodName := ⟨RX0, "countMeaning", "(I)I"⟩
abbrev cX0_find : ByteArray := prog_2_method_7_code
def yX0_find : MethodName := ⟨RX0, "find", "(II)I"⟩
abbrev cX0_number : ByteArray := prog_2_method_8_code
def yX0_number : MethodName := ⟨RX0, "number", "(II)I"⟩
abbrev cX0_isLetter : ByteArray := prog_2_method_9_code
def yX0_isLetter : MethodName := ⟨RX0, "isLetter", "(I)Z"⟩
def RX1 : String := "CommandChain$History"
def TX1 : u_T := fun k => match k with
  | 0 => ("CommandChain$History", "kept", "[LCommandChain$Navy;", true)
  | 1 => ("CommandChain$History", "latest", "I", false)
  | _ => ("CommandChain$History", "count", "I", false)
def tyX1 : Nat → FieldType := fun k => match k with
  | 0 => .array (.object "CommandChain$Navy")
  | 1 => .int
  | _ => .int
theorem nmX1 : ∀ a, a < 3 → ∀ b, b < 3 → a ≠ b → (TX1 a).2.1 ≠ (TX1 b).2.1 := by decide +kernel
theorem tyX1_ok : ∀ k, k < 3 → parseFieldDescriptor (TX1 k).2.2.1 = some (tyX1 k) := by decide +kernel
abbrev cX1_init : ByteArray := prog_3_method_1_code
def yX1_init : MethodName := ⟨RX1, "<init>", "()V"⟩
abbrev cX1_keep : ByteArray := prog_3_method_2_code
def yX1_keep : MethodName := ⟨RX1, "keep", "(LCommandChain$Navy;)V"⟩
abbrev cX1_takeLatest : ByteArray := prog_3_method_3_code
def yX1_takeLatest : MethodName := ⟨RX1, "takeLatest", "()LCommandChain$Navy;"⟩
abbrev cX1_clear : ByteArray := prog_3_method_4_code
def yX1_clear : MethodName := ⟨RX1, "clear", "()V"⟩
def RX2 : String := "CommandChain$Navy"
def TX2 : u_T := fun k => match k with
  | 0 => ("CommandChain$Navy", "officers", "LCommandChain$Officers;", true)
  | 1 => ("CommandChain$Navy", "orders", "LCommandChain$Orders;", true)
  | 2 => ("CommandChain$Navy", "book", "LCommandChain$CodeBook;", true)
  | 3 => ("CommandChain$Navy", "hour", "I", false)
  | 4 => ("CommandChain$Navy", "executed", "I", false)
  | 5 => ("CommandChain$Navy", "refused", "I", false)
  | _ => ("CommandChain$Navy", "lost", "I", false)
def tyX2 : Nat → FieldType := fun k => match k with
  | 0 => .object "CommandChain$Officers"
  | 1 => .object "CommandChain$Orders"
  | 2 => .object "CommandChain$CodeBook"
  | 3 => .int
  | 4 => .int
  | 5 => .int
  | _ => .int
theorem nmX2 : ∀ a, a < 7 → ∀ b, b < 7 → a ≠ b → (TX2 a).2.1 ≠ (TX2 b).2.1 := by decide +kernel
theorem tyX2_ok : ∀ k, k < 7 → parseFieldDescriptor (TX2 k).2.2.1 = some (tyX2 k) := by decide +kernel
abbrev cX2_init : ByteArray := prog_4_method_1_code
def yX2_init : MethodName := ⟨RX2, "<init>", "()V"⟩
abbrev cX2_copyFrom : ByteArray := prog_4_method_2_code
def yX2_copyFrom : MethodName := ⟨RX2, "copyFrom", "(LCommandChain$Navy;)V"⟩
abbrev cX2_enlist : ByteArray := prog_4_method_3_code
def yX2_enlist : MethodName := ⟨RX2, "enlist", "(III)I"⟩
abbrev cX2_raiseRank : ByteArray := prog_4_method_4_code
def yX2_raiseRank : MethodName := ⟨RX2, "raiseRank", "(I)I"⟩
abbrev cX2_move : ByteArray := prog_4_method_5_code
def yX2_move : MethodName := ⟨RX2, "move", "(II)I"⟩
abbrev cX2_fire : ByteArray := prog_4_method_6_code
def yX2_fire : MethodName := ⟨RX2, "fire", "(I)I"⟩
abbrev cX2_giveOrder : ByteArray := prog_4_method_7_code
def yX2_giveOrder : MethodName := ⟨RX2, "giveOrder", "(III)I"⟩
abbrev cX2_letHoursPass : ByteArray := prog_4_method_8_code
def yX2_letHoursPass : MethodName := ⟨RX2, "letHoursPass", "(I)I"⟩
abbrev cX2_visitNext : ByteArray := prog_4_method_9_code
def yX2_visitNext : MethodName := ⟨RX2, "visitNext", "()V"⟩
abbrev cX2_discharge : ByteArray := prog_4_method_10_code
def yX2_discharge : MethodName := ⟨RX2, "discharge", "(I)V"⟩
def RX3 : String := "CommandChain$Officers"
def TX3 : u_T := fun k => match k with
  | 0 => ("CommandChain$Officers", "rank", "[I", true)
  | 1 => ("CommandChain$Officers", "loyalty", "[I", true)
  | 2 => ("CommandChain$Officers", "refusals", "[I", true)
  | 3 => ("CommandChain$Officers", "superior", "[I", true)
  | 4 => ("CommandChain$Officers", "serving", "[Z", true)
  | _ => ("CommandChain$Officers", "appointed", "I", false)
def tyX3 : Nat → FieldType := fun k => match k with
  | 0 => .array .int
  | 1 => .array .int
  | 2 => .array .int
  | 3 => .array .int
  | 4 => .array .boolean
  | _ => .int
theorem nmX3 : ∀ a, a < 6 → ∀ b, b < 6 → a ≠ b → (TX3 a).2.1 ≠ (TX3 b).2.1 := by decide +kernel
theorem tyX3_ok : ∀ k, k < 6 → parseFieldDescriptor (TX3 k).2.2.1 = some (tyX3 k) := by decide +kernel
abbrev cX3_init : ByteArray := prog_5_method_1_code
def yX3_init : MethodName := ⟨RX3, "<init>", "()V"⟩
abbrev cX3_copyFrom : ByteArray := prog_5_method_2_code
def yX3_copyFrom : MethodName := ⟨RX3, "copyFrom", "(LCommandChain$Officers;)V"⟩
abbrev cX3_serves : ByteArray := prog_5_method_3_code
def yX3_serves : MethodName := ⟨RX3, "serves", "(I)Z"⟩
abbrev cX3_add : ByteArray := prog_5_method_4_code
def yX3_add : MethodName := ⟨RX3, "add", "(III)I"⟩
abbrev cX3_remove : ByteArray := prog_5_method_5_code
def yX3_remove : MethodName := ⟨RX3, "remove", "(I)V"⟩
abbrev cX3_countServing : ByteArray := prog_5_method_6_code
def yX3_countServing : MethodName := ⟨RX3, "countServing", "()I"⟩
abbrev cX3_sumLoyalty : ByteArray := prog_5_method_7_code
def yX3_sumLoyalty : MethodName := ⟨RX3, "sumLoyalty", "()I"⟩
abbrev cX3_countSubordinates : ByteArray := prog_5_method_8_code
def yX3_countSubordinates : MethodName := ⟨RX3, "countSubordinates", "(I)I"⟩
abbrev cX3_climbDepth : ByteArray := prog_5_method_9_code
def yX3_climbDepth : MethodName := ⟨RX3, "climbDepth", "(I)I"⟩
abbrev cX3_searchDepth : ByteArray := prog_5_method_10_code
def yX3_searchDepth : MethodName := ⟨RX3, "searchDepth", "(LCommandChain$Officers;III)I"⟩
abbrev cX3_sizeGoingDown : ByteArray := prog_5_method_11_code
def yX3_sizeGoingDown : MethodName := ⟨RX3, "sizeGoingDown", "(LCommandChain$Officers;II)I"⟩
abbrev cX3_write : ByteArray := prog_5_method_12_code
def yX3_write : MethodName := ⟨RX3, "write", "(LCommandChain$Officers;IILCommandChain$Text;)V"⟩
abbrev cX3_countCommand : ByteArray := prog_5_method_13_code
def yX3_countCommand : MethodName := ⟨RX3, "countCommand", "(I)I"⟩
abbrev cX3_waysAgree : ByteArray := prog_5_method_14_code
def yX3_waysAgree : MethodName := ⟨RX3, "waysAgree", "(I)Z"⟩
abbrev cX3_nextOnWay : ByteArray := prog_5_method_15_code
def yX3_nextOnWay : MethodName := ⟨RX3, "nextOnWay", "(II)I"⟩
abbrev cX3_isOver : ByteArray := prog_5_method_16_code
def yX3_isOver : MethodName := ⟨RX3, "isOver", "(II)Z"⟩
abbrev cX3_lowestOverBoth : ByteArray := prog_5_method_17_code
def yX3_lowestOverBoth : MethodName := ⟨RX3, "lowestOverBoth", "(II)I"⟩
abbrev cX3_deepest : ByteArray := prog_5_method_18_code
def yX3_deepest : MethodName := ⟨RX3, "deepest", "()I"⟩
abbrev cX3_leastLoyalty : ByteArray := prog_5_method_19_code
def yX3_leastLoyalty : MethodName := ⟨RX3, "leastLoyalty", "(II)I"⟩
abbrev cX3_firstRefuser : ByteArray := prog_5_method_20_code
def yX3_firstRefuser : MethodName := ⟨RX3, "firstRefuser", "(III)I"⟩
abbrev cX3_atPlace : ByteArray := prog_5_method_21_code
def yX3_atPlace : MethodName := ⟨RX3, "atPlace", "(I)I"⟩
abbrev cX3_countBefore : ByteArray := prog_5_method_22_code
def yX3_countBefore : MethodName := ⟨RX3, "countBefore", "(I)I"⟩
abbrev cX3_isSortedBefore : ByteArray := prog_5_method_23_code
def yX3_isSortedBefore : MethodName := ⟨RX3, "isSortedBefore", "(II)Z"⟩
def RX4 : String := "CommandChain$Orders"
def TX4 : u_T := fun k => match k with
  | 0 => ("CommandChain$Orders", "holder", "[I", true)
  | 1 => ("CommandChain$Orders", "target", "[I", true)
  | 2 => ("CommandChain$Orders", "severity", "[I", true)
  | 3 => ("CommandChain$Orders", "count", "I", false)
  | _ => ("CommandChain$Orders", "visited", "I", false)
def tyX4 : Nat → FieldType := fun k => match k with
  | 0 => .array .int
  | 1 => .array .int
  | 2 => .array .int
  | 3 => .int
  | _ => .int
theorem nmX4 : ∀ a, a < 5 → ∀ b, b < 5 → a ≠ b → (TX4 a).2.1 ≠ (TX4 b).2.1 := by decide +kernel
theorem tyX4_ok : ∀ k, k < 5 → parseFieldDescriptor (TX4 k).2.2.1 = some (tyX4 k) := by decide +kernel
abbrev cX4_init : ByteArray := prog_6_method_1_code
def yX4_init : MethodName := ⟨RX4, "<init>", "()V"⟩
abbrev cX4_copyFrom : ByteArray := prog_6_method_2_code
def yX4_copyFrom : MethodName := ⟨RX4, "copyFrom", "(LCommandChain$Orders;)V"⟩
abbrev cX4_add : ByteArray := prog_6_method_3_code
def yX4_add : MethodName := ⟨RX4, "add", "(III)I"⟩
abbrev cX4_remove : ByteArray := prog_6_method_4_code
def yX4_remove : MethodName := ⟨RX4, "remove", "(I)V"⟩
def RX5 : String := "CommandChain$Script"
def TX5 : u_T := fun k => match k with
  | 0 => ("CommandChain$Script", "text", "LCommandChain$Text;", true)
  | 1 => ("CommandChain$Script", "at", "I", false)
  | 2 => ("CommandChain$Script", "verb", "LCommandChain$Verb;", false)
  | 3 => ("CommandChain$Script", "first", "I", false)
  | 4 => ("CommandChain$Script", "second", "I", false)
  | _ => ("CommandChain$Script", "third", "I", false)
def tyX5 : Nat → FieldType := fun k => match k with
  | 0 => .object "CommandChain$Text"
  | 1 => .int
  | 2 => .object "CommandChain$Verb"
  | 3 => .int
  | 4 => .int
  | _ => .int
theorem nmX5 : ∀ a, a < 6 → ∀ b, b < 6 → a ≠ b → (TX5 a).2.1 ≠ (TX5 b).2.1 := by decide +kernel
theorem tyX5_ok : ∀ k, k < 6 → parseFieldDescriptor (TX5 k).2.2.1 = some (tyX5 k) := by decide +kernel
abbrev cX5_init : ByteArray := prog_7_method_1_code
def yX5_init : MethodName := ⟨RX5, "<init>", "()V"⟩
abbrev cX5_rewind : ByteArray := prog_7_method_2_code
def yX5_rewind : MethodName := ⟨RX5, "rewind", "()V"⟩
abbrev cX5_readAll : ByteArray := prog_7_method_3_code
def yX5_readAll : MethodName := ⟨RX5, "readAll", "()I"⟩
abbrev cX5_readNext : ByteArray := prog_7_method_4_code
def yX5_readNext : MethodName := ⟨RX5, "readNext", "()Z"⟩
abbrev cX5_readWord : ByteArray := prog_7_method_5_code
def yX5_readWord : MethodName := ⟨RX5, "readWord", "()LCommandChain$Verb;"⟩
abbrev cX5_countAlike : ByteArray := prog_7_method_6_code
def yX5_countAlike : MethodName := ⟨RX5, "countAlike", "(Ljava/lang/String;)I"⟩
abbrev cX5_readFirst : ByteArray := prog_7_method_7_code
def yX5_readFirst : MethodName := ⟨RX5, "readFirst", "(I)Z"⟩
abbrev cX5_readSecond : ByteArray := prog_7_method_8_code
def yX5_readSecond : MethodName := ⟨RX5, "readSecond", "(I)Z"⟩
abbrev cX5_readThird : ByteArray := prog_7_method_9_code
def yX5_readThird : MethodName := ⟨RX5, "readThird", "(I)Z"⟩
abbrev cX5_readHours : ByteArray := prog_7_method_10_code
def yX5_readHours : MethodName := ⟨RX5, "readHours", "()Z"⟩
abbrev cX5_readLetters : ByteArray := prog_7_method_11_code
def yX5_readLetters : MethodName := ⟨RX5, "readLetters", "()Z"⟩
abbrev cX5_readNumber : ByteArray := prog_7_method_12_code
def yX5_readNumber : MethodName := ⟨RX5, "readNumber", "(I)I"⟩
abbrev cX5_readBetween : ByteArray := prog_7_method_13_code
def yX5_readBetween : MethodName := ⟨RX5, "readBetween", "(CC)I"⟩
abbrev cX5_accept : ByteArray := prog_7_method_14_code
def yX5_accept : MethodName := ⟨RX5, "accept", "(C)Z"⟩
abbrev cX5_stands : ByteArray := prog_7_method_15_code
def yX5_stands : MethodName := ⟨RX5, "stands", "(IC)Z"⟩
def RX6 : String := "CommandChain$Text"
def TX6 : u_T := fun k => match k with
  | 0 => ("CommandChain$Text", "characters", "[C", true)
  | _ => ("CommandChain$Text", "length", "I", false)
def tyX6 : Nat → FieldType := fun k => match k with
  | 0 => .array .char
  | _ => .int
theorem nmX6 : ∀ a, a < 2 → ∀ b, b < 2 → a ≠ b → (TX6 a).2.1 ≠ (TX6 b).2.1 := by decide +kernel
theorem tyX6_ok : ∀ k, k < 2 → parseFieldDescriptor (TX6 k).2.2.1 = some (tyX6 k) := by decide +kernel
abbrev cX6_init : ByteArray := prog_8_method_1_code
def yX6_init : MethodName := ⟨RX6, "<init>", "()V"⟩
abbrev cX6_add : ByteArray := prog_8_method_2_code
def yX6_add : MethodName := ⟨RX6, "add", "(C)Z"⟩
abbrev cX6_addNumber : ByteArray := prog_8_method_3_code
def yX6_addNumber : MethodName := ⟨RX6, "addNumber", "(I)V"⟩
abbrev cX6_clear : ByteArray := prog_8_method_4_code
def yX6_clear : MethodName := ⟨RX6, "clear", "()V"⟩
def RX7 : String := "CommandChain$Verb"
def TX7 : u_T := fun k => match k with
  | _ => ("", "", "", false)
def tyX7 : Nat → FieldType := fun k => match k with
  | _ => .int
theorem nmX7 : ∀ a, a < 0 → ∀ b, b < 0 → a ≠ b → (TX7 a).2.1 ≠ (TX7 b).2.1 := by decide +kernel
theorem tyX7_ok : ∀ k, k < 0 → parseFieldDescriptor (TX7 k).2.2.1 = some (tyX7 k) := by decide +kernel
def RX8 : String := "CommandChain"
def TX8 : u_T := fun k => match k with
  | 0 => ("CommandChain", "now", "LCommandChain$Navy;", true)
  | 1 => ("CommandChain", "before", "LCommandChain$Navy;", true)
  | 2 => ("CommandChain", "saved", "LCommandChain$Navy;", true)
  | 3 => ("CommandChain", "history", "LCommandChain$History;", true)
  | 4 => ("CommandChain", "script", "LCommandChain$Script;", true)
  | 5 => ("CommandChain", "output", "LCommandChain$Text;", true)
  | 6 => ("CommandChain", "hasSaved", "Z", false)
  | 7 => ("CommandChain", "keptErrorPosition", "I", false)
  | _ => ("CommandChain", "keptFailedCommand", "I", false)
def tyX8 : Nat → FieldType := fun k => match k with
  | 0 => .object "CommandChain$Navy"
  | 1 => .object "CommandChain$Navy"
  | 2 => .object "CommandChain$Navy"
  | 3 => .object "CommandChain$History"
  | 4 => .object "CommandChain$Script"
  | 5 => .object "CommandChain$Text"
  | 6 => .boolean
  | 7 => .int
  | _ => .int
theorem nmX8 : ∀ a, a < 9 → ∀ b, b < 9 → a ≠ b → (TX8 a).2.1 ≠ (TX8 b).2.1 := by decide +kernel
theorem tyX8_ok : ∀ k, k < 9 → parseFieldDescriptor (TX8 k).2.2.1 = some (tyX8 k) := by decide +kernel
abbrev cX8_init : ByteArray := prog_1_method_1_code
def yX8_init : MethodName := ⟨RX8, "<init>", "()V"⟩
abbrev cX8_appoint : ByteArray := prog_1_method_2_code
def yX8_appoint : MethodName := ⟨RX8, "appoint", "(III)I"⟩
abbrev cX8_promote : ByteArray := prog_1_method_3_code
def yX8_promote : MethodName := ⟨RX8, "promote", "(I)I"⟩
abbrev cX8_transfer : ByteArray := prog_1_method_4_code
def yX8_transfer : MethodName := ⟨RX8, "transfer", "(II)I"⟩
abbrev cX8_dismiss : ByteArray := prog_1_method_5_code
def yX8_dismiss : MethodName := ⟨RX8, "dismiss", "(I)I"⟩
abbrev cX8_issue : ByteArray := prog_1_method_6_code
def yX8_issue : MethodName := ⟨RX8, "issue", "(III)I"⟩
abbrev cX8_passHours : ByteArray := prog_1_method_7_code
def yX8_passHours : MethodName := ⟨RX8, "passHours", "(I)I"⟩
abbrev cX8_define : ByteArray := prog_1_method_8_code
def yX8_define : MethodName := ⟨RX8, "define", "(CCI)I"⟩
abbrev cX8_erase : ByteArray := prog_1_method_9_code
def yX8_erase : MethodName := ⟨RX8, "erase", "(CC)I"⟩
abbrev cX8_hour : ByteArray := prog_1_method_10_code
def yX8_hour : MethodName := ⟨RX8, "hour", "()I"⟩
abbrev cX8_officerCount : ByteArray := prog_1_method_11_code
def yX8_officerCount : MethodName := ⟨RX8, "officerCount", "()I"⟩
abbrev cX8_appointedCount : ByteArray := prog_1_method_12_code
def yX8_appointedCount : MethodName := ⟨RX8, "appointedCount", "()I"⟩
abbrev cX8_isInNavy : ByteArray := prog_1_method_13_code
def yX8_isInNavy : MethodName := ⟨RX8, "isInNavy", "(I)Z"⟩
abbrev cX8_rank : ByteArray := prog_1_method_14_code
def yX8_rank : MethodName := ⟨RX8, "rank", "(I)I"⟩
abbrev cX8_loyalty : ByteArray := prog_1_method_15_code
def yX8_loyalty : MethodName := ⟨RX8, "loyalty", "(I)I"⟩
abbrev cX8_refusals : ByteArray := prog_1_method_16_code
def yX8_refusals : MethodName := ⟨RX8, "refusals", "(I)I"⟩
abbrev cX8_superior : ByteArray := prog_1_method_17_code
def yX8_superior : MethodName := ⟨RX8, "superior", "(I)I"⟩
abbrev cX8_subordinates : ByteArray := prog_1_method_18_code
def yX8_subordinates : MethodName := ⟨RX8, "subordinates", "(I)I"⟩
abbrev cX8_depth : ByteArray := prog_1_method_19_code
def yX8_depth : MethodName := ⟨RX8, "depth", "(I)I"⟩
abbrev cX8_depthFromTop : ByteArray := prog_1_method_20_code
def yX8_depthFromTop : MethodName := ⟨RX8, "depthFromTop", "(I)I"⟩
abbrev cX8_commandSize : ByteArray := prog_1_method_21_code
def yX8_commandSize : MethodName := ⟨RX8, "commandSize", "(I)I"⟩
abbrev cX8_commandSizeByCounting : ByteArray := prog_1_method_22_code
def yX8_commandSizeByCounting : MethodName := ⟨RX8, "commandSizeByCounting", "(I)I"⟩
abbrev cX8_isAbove : ByteArray := prog_1_method_23_code
def yX8_isAbove : MethodName := ⟨RX8, "isAbove", "(II)Z"⟩
abbrev cX8_commonSuperior : ByteArray := prog_1_method_24_code
def yX8_commonSuperior : MethodName := ⟨RX8, "commonSuperior", "(II)I"⟩
abbrev cX8_greatestDepth : ByteArray := prog_1_method_25_code
def yX8_greatestDepth : MethodName := ⟨RX8, "greatestDepth", "()I"⟩
abbrev cX8_hoursFor : ByteArray := prog_1_method_26_code
def yX8_hoursFor : MethodName := ⟨RX8, "hoursFor", "(II)I"⟩
abbrev cX8_greatestSeverity : ByteArray := prog_1_method_27_code
def yX8_greatestSeverity : MethodName := ⟨RX8, "greatestSeverity", "(II)I"⟩
abbrev cX8_greatestSeverityByTrial : ByteArray := prog_1_method_28_code
def yX8_greatestSeverityByTrial : MethodName := ⟨RX8, "greatestSeverityByTrial", "(II)I"⟩
abbrev cX8_firstRefusal : ByteArray := prog_1_method_29_code
def yX8_firstRefusal : MethodName := ⟨RX8, "firstRefusal", "(III)I"⟩
abbrev cX8_orderCount : ByteArray := prog_1_method_30_code
def yX8_orderCount : MethodName := ⟨RX8, "orderCount", "()I"⟩
abbrev cX8_holder : ByteArray := prog_1_method_31_code
def yX8_holder : MethodName := ⟨RX8, "holder", "(I)I"⟩
abbrev cX8_target : ByteArray := prog_1_method_32_code
def yX8_target : MethodName := ⟨RX8, "target", "(I)I"⟩
abbrev cX8_severity : ByteArray := prog_1_method_33_code
def yX8_severity : MethodName := ⟨RX8, "severity", "(I)I"⟩
abbrev cX8_executedOrders : ByteArray := prog_1_method_34_code
def yX8_executedOrders : MethodName := ⟨RX8, "executedOrders", "()I"⟩
abbrev cX8_refusedOrders : ByteArray := prog_1_method_35_code
def yX8_refusedOrders : MethodName := ⟨RX8, "refusedOrders", "()I"⟩
abbrev cX8_lostOrders : ByteArray := prog_1_method_36_code
def yX8_lostOrders : MethodName := ⟨RX8, "lostOrders", "()I"⟩
abbrev cX8_flagCount : ByteArray := prog_1_method_37_code
def yX8_flagCount : MethodName := ⟨RX8, "flagCount", "()I"⟩
abbrev cX8_meaning : ByteArray := prog_1_method_38_code
def yX8_meaning : MethodName := ⟨RX8, "meaning", "(CC)I"⟩
abbrev cX8_flagsWith : ByteArray := prog_1_method_39_code
def yX8_flagsWith : MethodName := ⟨RX8, "flagsWith", "(I)I"⟩
abbrev cX8_officerByRank : ByteArray := prog_1_method_40_code
def yX8_officerByRank : MethodName := ⟨RX8, "officerByRank", "(I)I"⟩
abbrev cX8_meanLoyalty : ByteArray := prog_1_method_41_code
def yX8_meanLoyalty : MethodName := ⟨RX8, "meanLoyalty", "()D"⟩
abbrev cX8_executedShare : ByteArray := prog_1_method_42_code
def yX8_executedShare : MethodName := ⟨RX8, "executedShare", "()F"⟩
abbrev cX8_isConsistent : ByteArray := prog_1_method_43_code
def yX8_isConsistent : MethodName := ⟨RX8, "isConsistent", "()Z"⟩
abbrev cX8_feed : ByteArray := prog_1_method_44_code
def yX8_feed : MethodName := ⟨RX8, "feed", "(C)I"⟩
abbrev cX8_runCommands : ByteArray := prog_1_method_45_code
def yX8_runCommands : MethodName := ⟨RX8, "runCommands", "()I"⟩
abbrev cX8_writeCommand : ByteArray := prog_1_method_48_code
def yX8_writeCommand : MethodName := ⟨RX8, "writeCommand", "(I)I"⟩
abbrev cX8_outputChar : ByteArray := prog_1_method_49_code
def yX8_outputChar : MethodName := ⟨RX8, "outputChar", "(I)C"⟩
abbrev cX8_undoCount : ByteArray := prog_1_method_50_code
def yX8_undoCount : MethodName := ⟨RX8, "undoCount", "()I"⟩
abbrev cX8_undo : ByteArray := prog_1_method_51_code
def yX8_undo : MethodName := ⟨RX8, "undo", "()I"⟩
abbrev cX8_save : ByteArray := prog_1_method_52_code
def yX8_save : MethodName := ⟨RX8, "save", "()I"⟩
abbrev cX8_restore : ByteArray := prog_1_method_53_code
def yX8_restore : MethodName := ⟨RX8, "restore", "()I"⟩
abbrev cX8_requireOfficer : ByteArray := prog_1_method_54_code
def yX8_requireOfficer : MethodName := ⟨RX8, "requireOfficer", "(I)V"⟩
abbrev cX8_requireOrder : ByteArray := prog_1_method_55_code
def yX8_requireOrder : MethodName := ⟨RX8, "requireOrder", "(I)V"⟩
abbrev cX8_requireWay : ByteArray := prog_1_method_56_code
def yX8_requireWay : MethodName := ⟨RX8, "requireWay", "(II)V"⟩
abbrev cX8_record : ByteArray := prog_1_method_57_code
def yX8_record : MethodName := ⟨RX8, "record", "(I)I"⟩
abbrev cX8_throwFor : ByteArray := prog_1_method_58_code
def yX8_throwFor : MethodName := ⟨RX8, "throwFor", "(I)V"⟩
abbrev cX8_carryOutAll : ByteArray := prog_1_method_59_code
def yX8_carryOutAll : MethodName := ⟨RX8, "carryOutAll", "(I)I"⟩
abbrev cX8_carryOut : ByteArray := prog_1_method_60_code
def yX8_carryOut : MethodName := ⟨RX8, "carryOut", "()I"⟩
def RX9 : String := "CommandChainModel"
def TX9 : u_T := fun k => match k with
  | _ => ("", "", "", false)
def tyX9 : Nat → FieldType := fun k => match k with
  | _ => .int
theorem nmX9 : ∀ a, a < 0 → ∀ b, b < 0 → a ≠ b → (TX9 a).2.1 ≠ (TX9 b).2.1 := by decide +kernel
theorem tyX9_ok : ∀ k, k < 0 → parseFieldDescriptor (TX9 k).2.2.1 = some (tyX9 k) := by decide +kernel
def RJx145de : String := "java/io/Serializable"
def TJx145de : u_T := fun k => match k with
  | _ => ("", "", "", false)
def tyJx145de : Nat → FieldType := fun k => match k with
  | _ => .int
theorem nmJx145de : ∀ a, a < 0 → ∀ b, b < 0 → a ≠ b → (TJx145de a).2.1 ≠ (TJx145de b).2.1 := by decide +kernel
theorem tyJx145de_ok : ∀ k, k < 0 → parseFieldDescriptor (TJx145de k).2.2.1 = some (tyJx145de k) := by decide +kernel
def RJ5 : String := "java/lang/AbstractStringBuilder"
def TJ5 : u_T := fun k => match k with
  | _ => ("", "", "", false)
def tyJ5 : Nat → FieldType := fun k => match k with
  | _ => .int
theorem nmJ5 : ∀ a, a < 0 → ∀ b, b < 0 → a ≠ b → (TJ5 a).2.1 ≠ (TJ5 b).2.1 := by decide +kernel
theorem tyJ5_ok : ∀ k, k < 0 → parseFieldDescriptor (TJ5 k).2.2.1 = some (tyJ5 k) := by decide +kernel
abbrev cJ5_init_d00df : ByteArray := prog_13_method_2_code
def yJ5_init_d00df : MethodName := ⟨RJ5, "<init>", "(I)V"⟩
abbrev cJ5_length_8abf5 : ByteArray := prog_13_method_6_code
def yJ5_length_8abf5 : MethodName := ⟨RJ5, "length", "()I"⟩
abbrev cJ5_ensureCapacityInternal_d00df : ByteArray := prog_13_method_9_code
def yJ5_ensureCapacityInternal_d00df : MethodName := ⟨RJ5, "ensureCapacityInternal", "(I)V"⟩
abbrev cJ5_newCapacity_0f7a4 : ByteArray := prog_13_method_10_code
def yJ5_newCapacity_0f7a4 : MethodName := ⟨RJ5, "newCapacity", "(I)I"⟩
abbrev cJ5_inflate_da8c8 : ByteArray := prog_13_method_11_code
def yJ5_inflate_da8c8 : MethodName := ⟨RJ5, "inflate", "()V"⟩
abbrev cJ5_append_cf1ce : ByteArray := prog_13_method_22_code
def yJ5_append_cf1ce : MethodName := ⟨RJ5, "append", "(Ljava/lang/String;)Ljava/lang/AbstractStringBuilder;"⟩
abbrev cJ5_appendNull_278bc : ByteArray := prog_13_method_26_code
def yJ5_appendNull_278bc : MethodName := ⟨RJ5, "appendNull", "()Ljava/lang/AbstractStringBuilder;"⟩
abbrev cJ5_append_3fe6f : ByteArray := prog_13_method_31_code
def yJ5_append_3fe6f : MethodName := ⟨RJ5, "append", "(C)Ljava/lang/AbstractStringBuilder;"⟩
abbrev cJ5_append_c97b9 : ByteArray := prog_13_method_32_code
def yJ5_append_c97b9 : MethodName := ⟨RJ5, "append", "(I)Ljava/lang/AbstractStringBuilder;"⟩
abbrev cJ5_getValue_6d5f1 : ByteArray := prog_13_method_64_code
def yJ5_getValue_6d5f1 : MethodName := ⟨RJ5, "getValue", "()[B"⟩
abbrev cJ5_isLatin1_aae02 : ByteArray := prog_13_method_68_code
def yJ5_isLatin1_aae02 : MethodName := ⟨RJ5, "isLatin1", "()Z"⟩
abbrev cJ5_inflateIfNeededFor_a7421 : ByteArray := prog_13_method_71_code
def yJ5_inflateIfNeededFor_a7421 : MethodName := ⟨RJ5, "inflateIfNeededFor", "(Ljava/lang/String;)V"⟩
abbrev cJ5_putStringAt_47b60 : ByteArray := prog_13_method_73_code
def yJ5_putStringAt_47b60 : MethodName := ⟨RJ5, "putStringAt", "(ILjava/lang/String;)V"⟩
def RJx2cfe8 : String := "java/lang/Appendable"
def TJx2cfe8 : u_T := fun k => match k with
  | _ => ("", "", "", false)
def tyJx2cfe8 : Nat → FieldType := fun k => match k with
  | _ => .int
theorem nmJx2cfe8 : ∀ a, a < 0 → ∀ b, b < 0 → a ≠ b → (TJx2cfe8 a).2.1 ≠ (TJx2cfe8 b).2.1 := by decide +kernel
theorem tyJx2cfe8_ok : ∀ k, k < 0 → parseFieldDescriptor (TJx2cfe8 k).2.2.1 = some (tyJx2cfe8 k) := by decide +kernel
def RJx00060 : String := "java/lang/ArrayIndexOutOfBoundsException"
def TJx00060 : u_T := fun k => match k with
  | 0 => ("java/lang/Throwable", "backtrace", "Ljava/lang/Object;", false)
  | 1 => ("java/lang/Throwable", "detailMessage", "Ljava/lang/String;", false)
  | 2 => ("java/lang/Throwable", "cause", "Ljava/lang/Throwable;", false)
  | 3 => ("java/lang/Throwable", "stackTrace", "[Ljava/lang/StackTraceElement;", false)
  | 4 => ("java/lang/Throwable", "depth", "I", false)
  | _ => ("java/lang/Throwable", "suppressedExceptions", "Ljava/util/List;", false)
def tyJx00060 : Nat → FieldType := fun k => match k with
  | 0 => .object "java/lang/Object"
  | 1 => .object "java/lang/String"
  | 2 => .object "java/lang/Throwable"
  | 3 => .array (.object "java/lang/StackTraceElement")
  | 4 => .int
  | _ => .object "java/util/List"
theorem nmJx00060 : ∀ a, a < 6 → ∀ b, b < 6 → a ≠ b → (TJx00060 a).2.1 ≠ (TJx00060 b).2.1 := by decide +kernel
theorem tyJx00060_ok : ∀ k, k < 6 → parseFieldDescriptor (TJx00060 k).2.2.1 = some (tyJx00060 k) := by decide +kernel
abbrev cJx00060_init_a7421 : ByteArray := prog_16_method_2_code
def yJx00060_init_a7421 : MethodName := ⟨RJx00060, "<init>", "(Ljava/lang/String;)V"⟩
def RJx9f9b0 : String := "java/lang/CharSequence"
def TJx9f9b0 : u_T := fun k => match k with
  | _ => ("", "", "", false)
def tyJx9f9b0 : Nat → FieldType := fun k => match k with
  | _ => .int
theorem nmJx9f9b0 : ∀ a, a < 0 → ∀ b, b < 0 → a ≠ b → (TJx9f9b0 a).2.1 ≠ (TJx9f9b0 b).2.1 := by decide +kernel
theorem tyJx9f9b0_ok : ∀ k, k < 0 → parseFieldDescriptor (TJx9f9b0 k).2.2.1 = some (tyJx9f9b0 k) := by decide +kernel
def RJx8e188 : String := "java/lang/Cloneable"
def TJx8e188 : u_T := fun k => match k with
  | _ => ("", "", "", false)
def tyJx8e188 : Nat → FieldType := fun k => match k with
  | _ => .int
theorem nmJx8e188 : ∀ a, a < 0 → ∀ b, b < 0 → a ≠ b → (TJx8e188 a).2.1 ≠ (TJx8e188 b).2.1 := by decide +kernel
theorem tyJx8e188_ok : ∀ k, k < 0 → parseFieldDescriptor (TJx8e188 k).2.2.1 = some (tyJx8e188 k) := by decide +kernel
def RJxb160c : String := "java/lang/Comparable"
def TJxb160c : u_T := fun k => match k with
  | _ => ("", "", "", false)
def tyJxb160c : Nat → FieldType := fun k => match k with
  | _ => .int
theorem nmJxb160c : ∀ a, a < 0 → ∀ b, b < 0 → a ≠ b → (TJxb160c a).2.1 ≠ (TJxb160c b).2.1 := by decide +kernel
theorem tyJxb160c_ok : ∀ k, k < 0 → parseFieldDescriptor (TJxb160c k).2.2.1 = some (tyJxb160c k) := by decide +kernel
def RJx29ce0 : String := "java/lang/Enum"
def TJx29ce0 : u_T := fun k => match k with
  | _ => ("", "", "", false)
def tyJx29ce0 : Nat → FieldType := fun k => match k with
  | _ => .int
theorem nmJx29ce0 : ∀ a, a < 0 → ∀ b, b < 0 → a ≠ b → (TJx29ce0 a).2.1 ≠ (TJx29ce0 b).2.1 := by decide +kernel
theorem tyJx29ce0_ok : ∀ k, k < 0 → parseFieldDescriptor (TJx29ce0 k).2.2.1 = some (tyJx29ce0 k) := by decide +kernel
def RJ6 : String := "java/lang/Integer"
def TJ6 : u_T := fun k => match k with
  | _ => ("", "", "", false)
def tyJ6 : Nat → FieldType := fun k => match k with
  | _ => .int
theorem nmJ6 : ∀ a, a < 0 → ∀ b, b < 0 → a ≠ b → (TJ6 a).2.1 ≠ (TJ6 b).2.1 := by decide +kernel
theorem tyJ6_ok : ∀ k, k < 0 → parseFieldDescriptor (TJ6 k).2.2.1 = some (tyJ6 k) := by decide +kernel
abbrev cJ6_getChars_ba4f3 : ByteArray := prog_25_method_12_code
def yJ6_getChars_ba4f3 : MethodName := ⟨RJ6, "getChars", "(II[B)I"⟩
abbrev cJ6_stringSize_0f7a4 : ByteArray := prog_25_method_13_code
def yJ6_stringSize_0f7a4 : MethodName := ⟨RJ6, "stringSize", "(I)I"⟩
def RJ9 : String := "java/lang/Math"
def TJ9 : u_T := fun k => match k with
  | _ => ("", "", "", false)
def tyJ9 : Nat → FieldType := fun k => match k with
  | _ => .int
theorem nmJ9 : ∀ a, a < 0 → ∀ b, b < 0 → a ≠ b → (TJ9 a).2.1 ≠ (TJ9 b).2.1 := by decide +kernel
theorem tyJ9_ok : ∀ k, k < 0 → parseFieldDescriptor (TJ9 k).2.2.1 = some (tyJ9 k) := by decide +kernel
abbrev cJ9_max_7cf53 : ByteArray := prog_26_method_65_code
def yJ9_max_7cf53 : MethodName := ⟨RJ9, "max", "(II)I"⟩
abbrev cJ9_min_7cf53 : ByteArray := prog_26_method_69_code
def yJ9_min_7cf53 : MethodName := ⟨RJ9, "min", "(II)I"⟩
def RJxd2413 : String := "java/lang/Number"
def TJxd2413 : u_T := fun k => match k with
  | _ => ("", "", "", false)
def tyJxd2413 : Nat → FieldType := fun k => match k with
  | _ => .int
theorem nmJxd2413 : ∀ a, a < 0 → ∀ b, b < 0 → a ≠ b → (TJxd2413 a).2.1 ≠ (TJxd2413 b).2.1 := by decide +kernel
theorem tyJxd2413_ok : ∀ k, k < 0 → parseFieldDescriptor (TJxd2413 k).2.2.1 = some (tyJxd2413 k) := by decide +kernel
def RJ0 : String := "java/lang/String"
def TJ0 : u_T := fun k => match k with
  | 0 => ("java/lang/String", "value", "[B", true)
  | 1 => ("java/lang/String", "coder", "B", true)
  | 2 => ("java/lang/String", "hash", "I", false)
  | _ => ("java/lang/String", "hashIsZero", "Z", false)
def tyJ0 : Nat → FieldType := fun k => match k with
  | 0 => .array .byte
  | 1 => .byte
  | 2 => .int
  | _ => .boolean
theorem nmJ0 : ∀ a, a < 4 → ∀ b, b < 4 → a ≠ b → (TJ0 a).2.1 ≠ (TJ0 b).2.1 := by decide +kernel
theorem tyJ0_ok : ∀ k, k < 4 → parseFieldDescriptor (TJ0 k).2.2.1 = some (tyJ0 k) := by decide +kernel
abbrev cJ0_init_81219 : ByteArray := prog_29_method_53_code
def yJ0_init_81219 : MethodName := ⟨RJ0, "<init>", "(Ljava/lang/StringBuilder;)V"⟩
abbrev cJ0_length_8abf5 : ByteArray := prog_29_method_54_code
def yJ0_length_8abf5 : MethodName := ⟨RJ0, "length", "()I"⟩
abbrev cJ0_charAt_5068e : ByteArray := prog_29_method_56_code
def yJ0_charAt_5068e : MethodName := ⟨RJ0, "charAt", "(I)C"⟩
abbrev cJ0_getBytes_840e7 : ByteArray := prog_29_method_147_code
def yJ0_getBytes_840e7 : MethodName := ⟨RJ0, "getBytes", "([BIB)V"⟩
abbrev cJ0_init_db425 : ByteArray := prog_29_method_150_code
def yJ0_init_db425 : MethodName := ⟨RJ0, "<init>", "(Ljava/lang/AbstractStringBuilder;Ljava/lang/Void;)V"⟩
abbrev cJ0_coder_7d493 : ByteArray := prog_29_method_152_code
def yJ0_coder_7d493 : MethodName := ⟨RJ0, "coder", "()B"⟩
abbrev cJ0_isLatin1_aae02 : ByteArray := prog_29_method_154_code
def yJ0_isLatin1_aae02 : MethodName := ⟨RJ0, "isLatin1", "()Z"⟩
abbrev cJ0_checkIndex_df160 : ByteArray := prog_29_method_155_code
def yJ0_checkIndex_df160 : MethodName := ⟨RJ0, "checkIndex", "(II)V"⟩
abbrev cJ0_checkBoundsOffCount_cabcc : ByteArray := prog_29_method_157_code
def yJ0_checkBoundsOffCount_cabcc : MethodName := ⟨RJ0, "checkBoundsOffCount", "(III)I"⟩
abbrev cJ0_checkBoundsBeginEnd_23922 : ByteArray := prog_29_method_158_code
def yJ0_checkBoundsBeginEnd_23922 : MethodName := ⟨RJ0, "checkBoundsBeginEnd", "(III)V"⟩
def RJ4 : String := "java/lang/StringBuilder"
def TJ4 : u_T := fun k => match k with
  | 0 => ("java/lang/AbstractStringBuilder", "value", "[B", false)
  | 1 => ("java/lang/AbstractStringBuilder", "coder", "B", false)
  | 2 => ("java/lang/AbstractStringBuilder", "maybeLatin1", "Z", false)
  | _ => ("java/lang/AbstractStringBuilder", "count", "I", false)
def tyJ4 : Nat → FieldType := fun k => match k with
  | 0 => .array .byte
  | 1 => .byte
  | 2 => .boolean
  | _ => .int
theorem nmJ4 : ∀ a, a < 4 → ∀ b, b < 4 → a ≠ b → (TJ4 a).2.1 ≠ (TJ4 b).2.1 := by decide +kernel
theorem tyJ4_ok : ∀ k, k < 4 → parseFieldDescriptor (TJ4 k).2.2.1 = some (tyJ4 k) := by decide +kernel
abbrev cJ4_init_da8c8 : ByteArray := prog_30_method_1_code
def yJ4_init_da8c8 : MethodName := ⟨RJ4, "<init>", "()V"⟩
abbrev cJ4_append_15ec4 : ByteArray := prog_30_method_7_code
def yJ4_append_15ec4 : MethodName := ⟨RJ4, "append", "(Ljava/lang/String;)Ljava/lang/StringBuilder;"⟩
abbrev cJ4_append_cf468 : ByteArray := prog_30_method_14_code
def yJ4_append_cf468 : MethodName := ⟨RJ4, "append", "(C)Ljava/lang/StringBuilder;"⟩
abbrev cJ4_append_bf812 : ByteArray := prog_30_method_15_code
def yJ4_append_bf812 : MethodName := ⟨RJ4, "append", "(I)Ljava/lang/StringBuilder;"⟩
abbrev cJ4_toString_0e30d : ByteArray := prog_30_method_42_code
def yJ4_toString_0e30d : MethodName := ⟨RJ4, "toString", "()Ljava/lang/String;"⟩
abbrev cJ4_length_8abf5 : ByteArray := prog_30_method_93_code
def yJ4_length_8abf5 : MethodName := ⟨RJ4, "length", "()I"⟩
def RJ1 : String := "java/lang/StringLatin1"
def TJ1 : u_T := fun k => match k with
  | _ => ("", "", "", false)
def tyJ1 : Nat → FieldType := fun k => match k with
  | _ => .int
theorem nmJ1 : ∀ a, a < 0 → ∀ b, b < 0 → a ≠ b → (TJ1 a).2.1 ≠ (TJ1 b).2.1 := by decide +kernel
theorem tyJ1_ok : ∀ k, k < 0 → parseFieldDescriptor (TJ1 k).2.2.1 = some (tyJ1 k) := by decide +kernel
abbrev cJ1_charAt_3b067 : ByteArray := prog_31_method_2_code
def yJ1_charAt_3b067 : MethodName := ⟨RJ1, "charAt", "([BI)C"⟩
abbrev cJ1_canEncode_fc78d : ByteArray := prog_31_method_3_code
def yJ1_canEncode_fc78d : MethodName := ⟨RJ1, "canEncode", "(C)Z"⟩
abbrev cJ1_inflate_0e8fd : ByteArray := prog_31_method_50_code
def yJ1_inflate_0e8fd : MethodName := ⟨RJ1, "inflate", "([BI[BII)V"⟩
def RJ2 : String := "java/lang/StringUTF16"
def TJ2 : u_T := fun k => match k with
  | _ => ("", "", "", false)
def tyJ2 : Nat → FieldType := fun k => match k with
  | _ => .int
theorem nmJ2 : ∀ a, a < 0 → ∀ b, b < 0 → a ≠ b → (TJ2 a).2.1 ≠ (TJ2 b).2.1 := by decide +kernel
theorem tyJ2_ok : ∀ k, k < 0 → parseFieldDescriptor (TJ2 k).2.2.1 = some (tyJ2 k) := by decide +kernel
abbrev cJ2_newBytesFor_77867 : ByteArray := prog_32_method_2_code
def yJ2_newBytesFor_77867 : MethodName := ⟨RJ2, "newBytesFor", "(I)[B"⟩
abbrev cJ2_newBytesLength_0f7a4 : ByteArray := prog_32_method_3_code
def yJ2_newBytesLength_0f7a4 : MethodName := ⟨RJ2, "newBytesLength", "(I)I"⟩
abbrev cJ2_putChar_b72d1 : ByteArray := prog_32_method_4_code
def yJ2_putChar_b72d1 : MethodName := ⟨RJ2, "putChar", "([BII)V"⟩
abbrev cJ2_getChar_3b067 : ByteArray := prog_32_method_5_code
def yJ2_getChar_3b067 : MethodName := ⟨RJ2, "getChar", "([BI)C"⟩
abbrev cJ2_length_9d52b : ByteArray := prog_32_method_6_code
def yJ2_length_9d52b : MethodName := ⟨RJ2, "length", "([B)I"⟩
abbrev cJ2_coderFromArrayLen_85cad : ByteArray := prog_32_method_15_code
def yJ2_coderFromArrayLen_85cad : MethodName := ⟨RJ2, "coderFromArrayLen", "([BI)B"⟩
abbrev cJ2_compress_39247 : ByteArray := prog_32_method_17_code
def yJ2_compress_39247 : MethodName := ⟨RJ2, "compress", "([BII)[B"⟩
abbrev cJ2_compress_5af95 : ByteArray := prog_32_method_22_code
def yJ2_compress_5af95 : MethodName := ⟨RJ2, "compress", "([BI[BII)I"⟩
abbrev cJ2_putCharSB_b72d1 : ByteArray := prog_32_method_71_code
def yJ2_putCharSB_b72d1 : MethodName := ⟨RJ2, "putCharSB", "([BII)V"⟩
abbrev cJ2_getChars_46870 : ByteArray := prog_32_method_77_code
def yJ2_getChars_46870 : MethodName := ⟨RJ2, "getChars", "(III[B)I"⟩
abbrev cJ2_putCharsAt_cd4e5 : ByteArray := prog_32_method_81_code
def yJ2_putCharsAt_cd4e5 : MethodName := ⟨RJ2, "putCharsAt", "([BICCCC)I"⟩
abbrev cJ2_charAt_3b067 : ByteArray := prog_32_method_83_code
def yJ2_charAt_3b067 : MethodName := ⟨RJ2, "charAt", "([BI)C"⟩
abbrev cJ2_inflate_0e8fd : ByteArray := prog_32_method_86_code
def yJ2_inflate_0e8fd : MethodName := ⟨RJ2, "inflate", "([BI[BII)V"⟩
abbrev cJ2_getChars_ba4f3 : ByteArray := prog_32_method_89_code
def yJ2_getChars_ba4f3 : MethodName := ⟨RJ2, "getChars", "(II[B)I"⟩
abbrev cJ2_checkIndex_2214a : ByteArray := prog_32_method_91_code
def yJ2_checkIndex_2214a : MethodName := ⟨RJ2, "checkIndex", "(I[B)V"⟩
abbrev cJ2_checkBoundsBeginEnd_d044e : ByteArray := prog_32_method_93_code
def yJ2_checkBoundsBeginEnd_d044e : MethodName := ⟨RJ2, "checkBoundsBeginEnd", "(II[B)V"⟩
abbrev cJ2_checkBoundsOffCount_d044e : ByteArray := prog_32_method_94_code
def yJ2_checkBoundsOffCount_d044e : MethodName := ⟨RJ2, "checkBoundsOffCount", "(II[B)V"⟩
def RJ10 : String := "java/lang/System"
def TJ10 : u_T := fun k => match k with
  | _ => ("", "", "", false)
def tyJ10 : Nat → FieldType := fun k => match k with
  | _ => .int
theorem nmJ10 : ∀ a, a < 0 → ∀ b, b < 0 → a ≠ b → (TJ10 a).2.1 ≠ (TJ10 b).2.1 := by decide +kernel
theorem tyJ10_ok : ∀ k, k < 0 → parseFieldDescriptor (TJ10 k).2.2.1 = some (tyJ10 k) := by decide +kernel
def RJxfd54e : String := "java/lang/constant/Constable"
def TJxfd54e : u_T := fun k => match k with
  | _ => ("", "", "", false)
def tyJxfd54e : Nat → FieldType := fun k => match k with
  | _ => .int
theorem nmJxfd54e : ∀ a, a < 0 → ∀ b, b < 0 → a ≠ b → (TJxfd54e a).2.1 ≠ (TJxfd54e b).2.1 := by decide +kernel
theorem tyJxfd54e_ok : ∀ k, k < 0 → parseFieldDescriptor (TJxfd54e k).2.2.1 = some (tyJxfd54e k) := by decide +kernel
def RJx3cf43 : String := "java/lang/constant/ConstantDesc"
def TJx3cf43 : u_T := fun k => match k with
  | _ => ("", "", "", false)
def tyJx3cf43 : Nat → FieldType := fun k => match k with
  | _ => .int
theorem nmJx3cf43 : ∀ a, a < 0 → ∀ b, b < 0 → a ≠ b → (TJx3cf43 a).2.1 ≠ (TJx3cf43 b).2.1 := by decide +kernel
theorem tyJx3cf43_ok : ∀ k, k < 0 → parseFieldDescriptor (TJx3cf43 k).2.2.1 = some (tyJx3cf43 k) := by decide +kernel
def RJ7 : String := "java/util/Arrays"
def TJ7 : u_T := fun k => match k with
  | _ => ("", "", "", false)
def tyJ7 : Nat → FieldType := fun k => match k with
  | _ => .int
theorem nmJ7 : ∀ a, a < 0 → ∀ b, b < 0 → a ≠ b → (TJ7 a).2.1 ≠ (TJ7 b).2.1 := by decide +kernel
theorem tyJ7_ok : ∀ k, k < 0 → parseFieldDescriptor (TJ7 k).2.2.1 = some (tyJ7 k) := by decide +kernel
abbrev cJ7_copyOf_9075b : ByteArray := prog_38_method_121_code
def yJ7_copyOf_9075b : MethodName := ⟨RJ7, "copyOf", "([BI)[B"⟩
abbrev cJ7_checkLength_df160 : ByteArray := prog_38_method_131_code
def yJ7_checkLength_df160 : MethodName := ⟨RJ7, "checkLength", "(II)V"⟩
abbrev cJ7_copyOfRange_39247 : ByteArray := prog_38_method_132_code
def yJ7_copyOfRange_39247 : MethodName := ⟨RJ7, "copyOfRange", "([BII)[B"⟩
abbrev cJ7_copyOfRangeByte_39247 : ByteArray := prog_38_method_133_code
def yJ7_copyOfRangeByte_39247 : MethodName := ⟨RJ7, "copyOfRangeByte", "([BII)[B"⟩
def RJ8 : String := "jdk/internal/util/ArraysSupport"
def TJ8 : u_T := fun k => match k with
  | _ => ("", "", "", false)
def tyJ8 : Nat → FieldType := fun k => match k with
  | _ => .int
theorem nmJ8 : ∀ a, a < 0 → ∀ b, b < 0 → a ≠ b → (TJ8 a).2.1 ≠ (TJ8 b).2.1 := by decide +kernel
theorem tyJ8_ok : ∀ k, k < 0 → parseFieldDescriptor (TJ8 k).2.2.1 = some (tyJ8 k) := by decide +kernel
abbrev cJ8_newLength_cabcc : ByteArray := prog_40_method_27_code
def yJ8_newLength_cabcc : MethodName := ⟨RJ8, "newLength", "(III)I"⟩
abbrev cJ8_hugeLength_7cf53 : ByteArray := prog_40_method_28_code
def yJ8_hugeLength_7cf53 : MethodName := ⟨RJ8, "hugeLength", "(II)I"⟩
def RJ3 : String := "jdk/internal/util/Preconditions"
def TJ3 : u_T := fun k => match k with
  | _ => ("", "", "", false)
def tyJ3 : Nat → FieldType := fun k => match k with
  | _ => .int
theorem nmJ3 : ∀ a, a < 0 → ∀ b, b < 0 → a ≠ b → (TJ3 a).2.1 ≠ (TJ3 b).2.1 := by decide +kernel
theorem tyJ3_ok : ∀ k, k < 0 → parseFieldDescriptor (TJ3 k).2.2.1 = some (tyJ3 k) := by decide +kernel
abbrev cJ3_checkIndex_8e157 : ByteArray := prog_41_method_11_code
def yJ3_checkIndex_8e157 : MethodName := ⟨RJ3, "checkIndex", "(IILjava/util/function/BiFunction;)I"⟩
abbrev cJ3_checkFromToIndex_8c36e : ByteArray := prog_41_method_12_code
def yJ3_checkFromToIndex_8c36e : MethodName := ⟨RJ3, "checkFromToIndex", "(IIILjava/util/function/BiFunction;)I"⟩
abbrev cJ3_checkFromIndexSize_8c36e : ByteArray := prog_41_method_13_code
def yJ3_checkFromIndexSize_8c36e : MethodName := ⟨RJ3, "checkFromIndexSize", "(IIILjava/util/function/BiFunction;)I"⟩
def RL : String := "CommandChainLaw"
abbrev cL_cell : ByteArray := method_2_code
def yL_cell : MethodName := ⟨RL, "cell", "([II)I"⟩
abbrev cL_pick : ByteArray := method_3_code
def yL_pick : MethodName := ⟨RL, "pick", "([III)I"⟩
abbrev cL_appoint : ByteArray := method_4_code
def yL_appoint : MethodName := ⟨RL, "appoint", "(LCommandChain;III)I"⟩
abbrev cL_promote : ByteArray := method_5_code
def yL_promote : MethodName := ⟨RL, "promote", "(LCommandChain;I)I"⟩
abbrev cL_transfer : ByteArray := method_6_code
def yL_transfer : MethodName := ⟨RL, "transfer", "(LCommandChain;II)I"⟩
abbrev cL_dismiss : ByteArray := method_7_code
def yL_dismiss : MethodName := ⟨RL, "dismiss", "(LCommandChain;I)I"⟩
abbrev cL_issue : ByteArray := method_8_code
def yL_issue : MethodName := ⟨RL, "issue", "(LCommandChain;III)I"⟩
abbrev cL_passHours : ByteArray := method_9_code
def yL_passHours : MethodName := ⟨RL, "passHours", "(LCommandChain;I)I"⟩
abbrev cL_define : ByteArray := method_10_code
def yL_define : MethodName := ⟨RL, "define", "(LCommandChain;CCI)I"⟩
abbrev cL_erase : ByteArray := method_11_code
def yL_erase : MethodName := ⟨RL, "erase", "(LCommandChain;CC)I"⟩
abbrev cL_rank : ByteArray := method_12_code
def yL_rank : MethodName := ⟨RL, "rank", "(LCommandChain;I)I"⟩
abbrev cL_loyalty : ByteArray := method_13_code
def yL_loyalty : MethodName := ⟨RL, "loyalty", "(LCommandChain;I)I"⟩
abbrev cL_refusals : ByteArray := method_14_code
def yL_refusals : MethodName := ⟨RL, "refusals", "(LCommandChain;I)I"⟩
abbrev cL_superior : ByteArray := method_15_code
def yL_superior : MethodName := ⟨RL, "superior", "(LCommandChain;I)I"⟩
abbrev cL_subordinates : ByteArray := method_16_code
def yL_subordinates : MethodName := ⟨RL, "subordinates", "(LCommandChain;I)I"⟩
abbrev cL_depth : ByteArray := method_17_code
def yL_depth : MethodName := ⟨RL, "depth", "(LCommandChain;I)I"⟩
abbrev cL_depthFromTop : ByteArray := method_18_code
def yL_depthFromTop : MethodName := ⟨RL, "depthFromTop", "(LCommandChain;I)I"⟩
abbrev cL_commandSize : ByteArray := method_19_code
def yL_commandSize : MethodName := ⟨RL, "commandSize", "(LCommandChain;I)I"⟩
abbrev cL_commandSizeByCounting : ByteArray := method_20_code
def yL_commandSizeByCounting : MethodName := ⟨RL, "commandSizeByCounting", "(LCommandChain;I)I"⟩
abbrev cL_isAbove : ByteArray := method_21_code
def yL_isAbove : MethodName := ⟨RL, "isAbove", "(LCommandChain;II)I"⟩
abbrev cL_commonSuperior : ByteArray := method_22_code
def yL_commonSuperior : MethodName := ⟨RL, "commonSuperior", "(LCommandChain;II)I"⟩
abbrev cL_hoursFor : ByteArray := method_23_code
def yL_hoursFor : MethodName := ⟨RL, "hoursFor", "(LCommandChain;II)I"⟩
abbrev cL_greatestSeverity : ByteArray := method_24_code
def yL_greatestSeverity : MethodName := ⟨RL, "greatestSeverity", "(LCommandChain;II)I"⟩
abbrev cL_greatestSeverityByTrial : ByteArray := method_25_code
def yL_greatestSeverityByTrial : MethodName := ⟨RL, "greatestSeverityByTrial", "(LCommandChain;II)I"⟩
abbrev cL_firstRefusal : ByteArray := method_26_code
def yL_firstRefusal : MethodName := ⟨RL, "firstRefusal", "(LCommandChain;III)I"⟩
abbrev cL_holder : ByteArray := method_27_code
def yL_holder : MethodName := ⟨RL, "holder", "(LCommandChain;I)I"⟩
abbrev cL_target : ByteArray := method_28_code
def yL_target : MethodName := ⟨RL, "target", "(LCommandChain;I)I"⟩
abbrev cL_severity : ByteArray := method_29_code
def yL_severity : MethodName := ⟨RL, "severity", "(LCommandChain;I)I"⟩
abbrev cL_meaning : ByteArray := method_30_code
def yL_meaning : MethodName := ⟨RL, "meaning", "(LCommandChain;CC)I"⟩
abbrev cL_flagsWith : ByteArray := method_31_code
def yL_flagsWith : MethodName := ⟨RL, "flagsWith", "(LCommandChain;I)I"⟩
abbrev cL_officerByRank : ByteArray := method_32_code
def yL_officerByRank : MethodName := ⟨RL, "officerByRank", "(LCommandChain;I)I"⟩
abbrev cL_executedShare : ByteArray := method_33_code
def yL_executedShare : MethodName := ⟨RL, "executedShare", "(LCommandChain;)F"⟩
abbrev cL_feed : ByteArray := method_34_code
def yL_feed : MethodName := ⟨RL, "feed", "(LCommandChain;C)I"⟩
abbrev cL_runCommands : ByteArray := method_35_code
def yL_runCommands : MethodName := ⟨RL, "runCommands", "(LCommandChain;)I"⟩
abbrev cL_writeCommand : ByteArray := method_38_code
def yL_writeCommand : MethodName := ⟨RL, "writeCommand", "(LCommandChain;I)I"⟩
abbrev cL_outputChar : ByteArray := method_39_code
def yL_outputChar : MethodName := ⟨RL, "outputChar", "(LCommandChain;I)I"⟩
abbrev cL_undo : ByteArray := method_40_code
def yL_undo : MethodName := ⟨RL, "undo", "(LCommandChain;)I"⟩
abbrev cL_restore : ByteArray := method_41_code
def yL_restore : MethodName := ⟨RL, "restore", "(LCommandChain;)I"⟩
abbrev cL_runs : ByteArray := method_42_code
def yL_runs : MethodName := ⟨RL, "runs", "(LCommandChain;Ljava/lang/String;)I"⟩
abbrev cL_law : ByteArray := code
def yL_law : MethodName := ⟨RL, "law", "([I)Z"⟩
abbrev cL_does : ByteArray := method_45_code
def yL_does : MethodName := ⟨RL, "does", "([IIILCommandChain;III)I"⟩
abbrev cL_sum : ByteArray := method_46_code
def yL_sum : MethodName := ⟨RL, "sum", "(LCommandChain;)J"⟩
abbrev cL_isPair : ByteArray := method_47_code
def yL_isPair : MethodName := ⟨RL, "isPair", "(LCommandChain;III)Z"⟩
abbrev cL_isOfficer : ByteArray := method_48_code
def yL_isOfficer : MethodName := ⟨RL, "isOfficer", "(LCommandChain;II)Z"⟩
abbrev cL_isWhole : ByteArray := method_49_code
def yL_isWhole : MethodName := ⟨RL, "isWhole", "(LCommandChain;[IIZ)Z"⟩
abbrev cL_isKept : ByteArray := method_50_code
def yL_isKept : MethodName := ⟨RL, "isKept", "(LCommandChain;[JI)Z"⟩
abbrev vwCl : List vw_C := [(RJ0, TJ0, 4), (RJx00060, TJx00060, 6), (RX0, TX0, 3), (RX1, TX1, 3), (RX2, TX2, 7), (RX3, TX3, 6), (RX4, TX4, 5), (RX5, TX5, 6), (RX6, TX6, 2), (RX8, TX8, 9), (RJ4, TJ4, 4)]
