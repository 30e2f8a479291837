def RX0 : String := "PackLoans$History"
def TX0 : u_T := fun k => match k with
  | 0 => ("PackLoans$History", "number", "I", false)
  | 1 => ("PackLoans$History", "next", "I", false)
  | _ => ("PackLoans$History", "states", "[LPackLoans$State;", true)
def tyX0 : Nat → FieldType := fun k => match k with
  | 0 => .int
  | 1 => .int
  | _ => .array (.object "PackLoans$State")
theorem nmX0 : ∀ a, a < 3 → ∀ b, b < 3 → a ≠ b → (TX0 a).2.1 ≠ (TX0 b).2.1 := by decide +kernel
theorem tyX0_ok : ∀ k, k < 3 → parseFieldDescriptor (TX0 k).2.2.1 = some (tyX0 k) := by decide +kernel
abbrev cX0_init : ByteArray := prog_2_method_1_code
def yX0_init : MethodName := ⟨RX0, "<init>", "()V"⟩
abbrev cX0_clear : ByteArray := prog_2_method_2_code
def yX0_clear : MethodName := ⟨RX0, "clear", "()V"⟩
abbrev cX0_push : ByteArray := prog_2_method_3_code
def yX0_push : MethodName := ⟨RX0, "push", "(LPackLoans$State;)V"⟩
abbrev cX0_popInto : ByteArray := prog_2_method_4_code
def yX0_popInto : MethodName := ⟨RX0, "popInto", "(LPackLoans$State;)V"⟩
def RX1 : String := "PackLoans$Loans"
def TX1 : u_T := fun k => match k with
  | 0 => ("PackLoans$Loans", "number", "I", false)
  | 1 => ("PackLoans$Loans", "contract", "[I", true)
  | 2 => ("PackLoans$Loans", "amount", "[I", true)
  | 3 => ("PackLoans$Loans", "sent", "[I", true)
  | 4 => ("PackLoans$Loans", "points", "[I", true)
  | 5 => ("PackLoans$Loans", "gotBack", "[I", true)
  | 6 => ("PackLoans$Loans", "state", "[I", true)
  | _ => ("PackLoans$Loans", "due", "[I", true)
def tyX1 : Nat → FieldType := fun k => match k with
  | 0 => .int
  | 1 => .array .int
  | 2 => .array .int
  | 3 => .array .int
  | 4 => .array .int
  | 5 => .array .int
  | 6 => .array .int
  | _ => .array .int
theorem nmX1 : ∀ a, a < 8 → ∀ b, b < 8 → a ≠ b → (TX1 a).2.1 ≠ (TX1 b).2.1 := by decide +kernel
theorem tyX1_ok : ∀ k, k < 8 → parseFieldDescriptor (TX1 k).2.2.1 = some (tyX1 k) := by decide +kernel
abbrev cX1_init : ByteArray := prog_3_method_1_code
def yX1_init : MethodName := ⟨RX1, "<init>", "()V"⟩
abbrev cX1_copyFrom : ByteArray := prog_3_method_2_code
def yX1_copyFrom : MethodName := ⟨RX1, "copyFrom", "(LPackLoans$Loans;)V"⟩
abbrev cX1_add : ByteArray := prog_3_method_3_code
def yX1_add : MethodName := ⟨RX1, "add", "(III)I"⟩
abbrev cX1_isOpen : ByteArray := prog_3_method_4_code
def yX1_isOpen : MethodName := ⟨RX1, "isOpen", "(I)Z"⟩
abbrev cX1_bringForward : ByteArray := prog_3_method_5_code
def yX1_bringForward : MethodName := ⟨RX1, "bringForward", "(II)V"⟩
def RX2 : String := "PackLoans$Plan"
def TX2 : u_T := fun k => match k with
  | 0 => ("PackLoans$Plan", "fade", "I", false)
  | 1 => ("PackLoans$Plan", "worth", "I", false)
  | 2 => ("PackLoans$Plan", "packs", "I", false)
  | 3 => ("PackLoans$Plan", "curves", "I", false)
  | 4 => ("PackLoans$Plan", "suns", "I", false)
  | 5 => ("PackLoans$Plan", "cables", "I", false)
  | 6 => ("PackLoans$Plan", "contracts", "I", false)
  | 7 => ("PackLoans$Plan", "capacity", "[I", true)
  | 8 => ("PackLoans$Plan", "curve", "[I", true)
  | 9 => ("PackLoans$Plan", "factors", "[I", true)
  | 10 => ("PackLoans$Plan", "gains", "[I", true)
  | 11 => ("PackLoans$Plan", "cableOfPair", "[I", true)
  | 12 => ("PackLoans$Plan", "lender", "[I", true)
  | 13 => ("PackLoans$Plan", "borrower", "[I", true)
  | 14 => ("PackLoans$Plan", "limit", "[I", true)
  | 15 => ("PackLoans$Plan", "notice", "[I", true)
  | _ => ("PackLoans$Plan", "grace", "[I", true)
def tyX2 : Nat → FieldType := fun k => match k with
  | 0 => .int
  | 1 => .int
  | 2 => .int
  | 3 => .int
  | 4 => .int
  | 5 => .int
  | 6 => .int
  | 7 => .array .int
  | 8 => .array .int
  | 9 => .array .int
  | 10 => .array .int
  | 11 => .array .int
  | 12 => .array .int
  | 13 => .array .int
  | 14 => .array .int
  | 15 => .array .int
  | _ => .array .int
theorem nmX2 : ∀ a, a < 17 → ∀ b, b < 17 → a ≠ b → (TX2 a).2.1 ≠ (TX2 b).2.1 := by decide +kernel
theorem tyX2_ok : ∀ k, k < 17 → parseFieldDescriptor (TX2 k).2.2.1 = some (tyX2 k) := by decide +kernel
abbrev cX2_init : ByteArray := prog_4_method_1_code
def yX2_init : MethodName := ⟨RX2, "<init>", "()V"⟩
abbrev cX2_clear : ByteArray := prog_4_method_2_code
def yX2_clear : MethodName := ⟨RX2, "clear", "()V"⟩
abbrev cX2_copyFrom : ByteArray := prog_4_method_3_code
def yX2_copyFrom : MethodName := ⟨RX2, "copyFrom", "(LPackLoans$Plan;)V"⟩
abbrev cX2_factor : ByteArray := prog_4_method_4_code
def yX2_factor : MethodName := ⟨RX2, "factor", "(II)I"⟩
abbrev cX2_gain : ByteArray := prog_4_method_5_code
def yX2_gain : MethodName := ⟨RX2, "gain", "(II)I"⟩
abbrev cX2_cableBetween : ByteArray := prog_4_method_6_code
def yX2_cableBetween : MethodName := ⟨RX2, "cableBetween", "(II)I"⟩
abbrev cX2_cableOf : ByteArray := prog_4_method_7_code
def yX2_cableOf : MethodName := ⟨RX2, "cableOf", "(I)I"⟩
abbrev cX2_addPack : ByteArray := prog_4_method_8_code
def yX2_addPack : MethodName := ⟨RX2, "addPack", "(II)V"⟩
abbrev cX2_addCable : ByteArray := prog_4_method_9_code
def yX2_addCable : MethodName := ⟨RX2, "addCable", "(II)V"⟩
abbrev cX2_addSun : ByteArray := prog_4_method_10_code
def yX2_addSun : MethodName := ⟨RX2, "addSun", "(IIII)V"⟩
def RX3 : String := "PackLoans$Reader"
def TX3 : u_T := fun k => match k with
  | 0 => ("PackLoans$Reader", "draft", "LPackLoans$World;", true)
  | 1 => ("PackLoans$Reader", "error", "I", false)
  | 2 => ("PackLoans$Reader", "errorAt", "I", false)
  | 3 => ("PackLoans$Reader", "statement", "I", false)
  | 4 => ("PackLoans$Reader", "text", "[B", true)
  | 5 => ("PackLoans$Reader", "length", "I", false)
  | 6 => ("PackLoans$Reader", "at", "I", false)
  | _ => ("PackLoans$Reader", "numberAt", "I", false)
def tyX3 : Nat → FieldType := fun k => match k with
  | 0 => .object "PackLoans$World"
  | 1 => .int
  | 2 => .int
  | 3 => .int
  | 4 => .array .byte
  | 5 => .int
  | 6 => .int
  | _ => .int
theorem nmX3 : ∀ a, a < 8 → ∀ b, b < 8 → a ≠ b → (TX3 a).2.1 ≠ (TX3 b).2.1 := by decide +kernel
theorem tyX3_ok : ∀ k, k < 8 → parseFieldDescriptor (TX3 k).2.2.1 = some (tyX3 k) := by decide +kernel
abbrev cX3_init : ByteArray := prog_5_method_1_code
def yX3_init : MethodName := ⟨RX3, "<init>", "()V"⟩
abbrev cX3_takeIn : ByteArray := prog_5_method_2_code
def yX3_takeIn : MethodName := ⟨RX3, "takeIn", "(J)I"⟩
abbrev cX3_readText : ByteArray := prog_5_method_3_code
def yX3_readText : MethodName := ⟨RX3, "readText", "()V"⟩
abbrev cX3_fail : ByteArray := prog_5_method_4_code
def yX3_fail : MethodName := ⟨RX3, "fail", "(II)V"⟩
abbrev cX3_skipSpaces : ByteArray := prog_5_method_5_code
def yX3_skipSpaces : MethodName := ⟨RX3, "skipSpaces", "()V"⟩
abbrev cX3_passSemicolon : ByteArray := prog_5_method_6_code
def yX3_passSemicolon : MethodName := ⟨RX3, "passSemicolon", "()Z"⟩
abbrev cX3_readStatement : ByteArray := prog_5_method_7_code
def yX3_readStatement : MethodName := ⟨RX3, "readStatement", "()V"⟩
abbrev cX3_kindOfWord : ByteArray := prog_5_method_8_code
def yX3_kindOfWord : MethodName := ⟨RX3, "kindOfWord", "(II)I"⟩
abbrev cX3_isWord : ByteArray := prog_5_method_9_code
def yX3_isWord : MethodName := ⟨RX3, "isWord", "(IILjava/lang/String;)Z"⟩
abbrev cX3_isFull : ByteArray := prog_5_method_10_code
def yX3_isFull : MethodName := ⟨RX3, "isFull", "(I)Z"⟩
abbrev cX3_digitIsNext : ByteArray := prog_5_method_11_code
def yX3_digitIsNext : MethodName := ⟨RX3, "digitIsNext", "()Z"⟩
abbrev cX3_nextNumber : ByteArray := prog_5_method_12_code
def yX3_nextNumber : MethodName := ⟨RX3, "nextNumber", "(II)I"⟩
abbrev cX3_nextPack : ByteArray := prog_5_method_13_code
def yX3_nextPack : MethodName := ⟨RX3, "nextPack", "()I"⟩
abbrev cX3_readPacks : ByteArray := prog_5_method_14_code
def yX3_readPacks : MethodName := ⟨RX3, "readPacks", "()V"⟩
abbrev cX3_readCurve : ByteArray := prog_5_method_15_code
def yX3_readCurve : MethodName := ⟨RX3, "readCurve", "()V"⟩
abbrev cX3_readPack : ByteArray := prog_5_method_16_code
def yX3_readPack : MethodName := ⟨RX3, "readPack", "()V"⟩
abbrev cX3_readCable : ByteArray := prog_5_method_17_code
def yX3_readCable : MethodName := ⟨RX3, "readCable", "()V"⟩
abbrev cX3_readSun : ByteArray := prog_5_method_18_code
def yX3_readSun : MethodName := ⟨RX3, "readSun", "()V"⟩
abbrev cX3_readTrip : ByteArray := prog_5_method_19_code
def yX3_readTrip : MethodName := ⟨RX3, "readTrip", "()V"⟩
abbrev cX3_readContract : ByteArray := prog_5_method_20_code
def yX3_readContract : MethodName := ⟨RX3, "readContract", "()V"⟩
def RX4 : String := "PackLoans$State"
def TX4 : u_T := fun k => match k with
  | 0 => ("PackLoans$State", "time", "I", false)
  | 1 => ("PackLoans$State", "takenIn", "J", false)
  | 2 => ("PackLoans$State", "used", "J", false)
  | 3 => ("PackLoans$State", "lostForRoom", "J", false)
  | 4 => ("PackLoans$State", "charge", "[I", true)
  | 5 => ("PackLoans$State", "points", "[I", true)
  | 6 => ("PackLoans$State", "reserve", "[I", true)
  | 7 => ("PackLoans$State", "loss", "[I", true)
  | 8 => ("PackLoans$State", "rate", "[I", true)
  | 9 => ("PackLoans$State", "sentNow", "[I", true)
  | 10 => ("PackLoans$State", "lostSoFar", "[I", true)
  | 11 => ("PackLoans$State", "broken", "[I", true)
  | 12 => ("PackLoans$State", "trips", "LPackLoans$Trips;", true)
  | _ => ("PackLoans$State", "loans", "LPackLoans$Loans;", true)
def tyX4 : Nat → FieldType := fun k => match k with
  | 0 => .int
  | 1 => .long
  | 2 => .long
  | 3 => .long
  | 4 => .array .int
  | 5 => .array .int
  | 6 => .array .int
  | 7 => .array .int
  | 8 => .array .int
  | 9 => .array .int
  | 10 => .array .int
  | 11 => .array .int
  | 12 => .object "PackLoans$Trips"
  | _ => .object "PackLoans$Loans"
theorem nmX4 : ∀ a, a < 14 → ∀ b, b < 14 → a ≠ b → (TX4 a).2.1 ≠ (TX4 b).2.1 := by decide +kernel
theorem tyX4_ok : ∀ k, k < 14 → parseFieldDescriptor (TX4 k).2.2.1 = some (tyX4 k) := by decide +kernel
abbrev cX4_init : ByteArray := prog_6_method_1_code
def yX4_init : MethodName := ⟨RX4, "<init>", "()V"⟩
abbrev cX4_clear : ByteArray := prog_6_method_2_code
def yX4_clear : MethodName := ⟨RX4, "clear", "()V"⟩
abbrev cX4_copyFrom : ByteArray := prog_6_method_3_code
def yX4_copyFrom : MethodName := ⟨RX4, "copyFrom", "(LPackLoans$State;)V"⟩
abbrev cX4_beginPack : ByteArray := prog_6_method_4_code
def yX4_beginPack : MethodName := ⟨RX4, "beginPack", "(II)V"⟩
abbrev cX4_beginCable : ByteArray := prog_6_method_5_code
def yX4_beginCable : MethodName := ⟨RX4, "beginCable", "(III)V"⟩
abbrev cX4_aboveReserve : ByteArray := prog_6_method_6_code
def yX4_aboveReserve : MethodName := ⟨RX4, "aboveReserve", "(I)I"⟩
abbrev cX4_stillSends : ByteArray := prog_6_method_7_code
def yX4_stillSends : MethodName := ⟨RX4, "stillSends", "(I)I"⟩
abbrev cX4_carry : ByteArray := prog_6_method_8_code
def yX4_carry : MethodName := ⟨RX4, "carry", "(II)I"⟩
def RX5 : String := "PackLoans$Trips"
def TX5 : u_T := fun k => match k with
  | 0 => ("PackLoans$Trips", "number", "I", false)
  | 1 => ("PackLoans$Trips", "pack", "[I", true)
  | 2 => ("PackLoans$Trips", "time", "[I", true)
  | 3 => ("PackLoans$Trips", "need", "[I", true)
  | _ => ("PackLoans$Trips", "state", "[I", true)
def tyX5 : Nat → FieldType := fun k => match k with
  | 0 => .int
  | 1 => .array .int
  | 2 => .array .int
  | 3 => .array .int
  | _ => .array .int
theorem nmX5 : ∀ a, a < 5 → ∀ b, b < 5 → a ≠ b → (TX5 a).2.1 ≠ (TX5 b).2.1 := by decide +kernel
theorem tyX5_ok : ∀ k, k < 5 → parseFieldDescriptor (TX5 k).2.2.1 = some (tyX5 k) := by decide +kernel
abbrev cX5_init : ByteArray := prog_7_method_1_code
def yX5_init : MethodName := ⟨RX5, "<init>", "()V"⟩
abbrev cX5_copyFrom : ByteArray := prog_7_method_2_code
def yX5_copyFrom : MethodName := ⟨RX5, "copyFrom", "(LPackLoans$Trips;)V"⟩
abbrev cX5_numberOf : ByteArray := prog_7_method_3_code
def yX5_numberOf : MethodName := ⟨RX5, "numberOf", "(II)I"⟩
abbrev cX5_add : ByteArray := prog_7_method_4_code
def yX5_add : MethodName := ⟨RX5, "add", "(III)I"⟩
abbrev cX5_remove : ByteArray := prog_7_method_5_code
def yX5_remove : MethodName := ⟨RX5, "remove", "(I)V"⟩
def RX6 : String := "PackLoans$World"
def TX6 : u_T := fun k => match k with
  | 0 => ("PackLoans$World", "plan", "LPackLoans$Plan;", true)
  | _ => ("PackLoans$World", "state", "LPackLoans$State;", true)
def tyX6 : Nat → FieldType := fun k => match k with
  | 0 => .object "PackLoans$Plan"
  | _ => .object "PackLoans$State"
theorem nmX6 : ∀ a, a < 2 → ∀ b, b < 2 → a ≠ b → (TX6 a).2.1 ≠ (TX6 b).2.1 := by decide +kernel
theorem tyX6_ok : ∀ k, k < 2 → parseFieldDescriptor (TX6 k).2.2.1 = some (tyX6 k) := by decide +kernel
abbrev cX6_init : ByteArray := prog_8_method_1_code
def yX6_init : MethodName := ⟨RX6, "<init>", "(LPackLoans$Plan;)V"⟩
abbrev cX6_copyFrom : ByteArray := prog_8_method_2_code
def yX6_copyFrom : MethodName := ⟨RX6, "copyFrom", "(LPackLoans$World;)V"⟩
abbrev cX6_roomOf : ByteArray := prog_8_method_3_code
def yX6_roomOf : MethodName := ⟨RX6, "roomOf", "(I)I"⟩
abbrev cX6_quarterOf : ByteArray := prog_8_method_4_code
def yX6_quarterOf : MethodName := ⟨RX6, "quarterOf", "(I)I"⟩
abbrev cX6_loseAboveRoom : ByteArray := prog_8_method_5_code
def yX6_loseAboveRoom : MethodName := ⟨RX6, "loseAboveRoom", "(I)V"⟩
abbrev cX6_get : ByteArray := prog_8_method_6_code
def yX6_get : MethodName := ⟨RX6, "get", "(II)V"⟩
abbrev cX6_give : ByteArray := prog_8_method_7_code
def yX6_give : MethodName := ⟨RX6, "give", "(II)I"⟩
abbrev cX6_interestOf : ByteArray := prog_8_method_8_code
def yX6_interestOf : MethodName := ⟨RX6, "interestOf", "(I)I"⟩
abbrev cX6_owed : ByteArray := prog_8_method_11_code
def yX6_owed : MethodName := ⟨RX6, "owed", "(I)I"⟩
abbrev cX6_outstanding : ByteArray := prog_8_method_13_code
def yX6_outstanding : MethodName := ⟨RX6, "outstanding", "(I)I"⟩
abbrev cX6_openLoans : ByteArray := prog_8_method_14_code
def yX6_openLoans : MethodName := ⟨RX6, "openLoans", "()I"⟩
abbrev cX6_hindranceOf : ByteArray := prog_8_method_15_code
def yX6_hindranceOf : MethodName := ⟨RX6, "hindranceOf", "(II)I"⟩
abbrev cX6_passTicks : ByteArray := prog_8_method_16_code
def yX6_passTicks : MethodName := ⟨RX6, "passTicks", "(I)V"⟩
abbrev cX6_passTicksToEnd : ByteArray := prog_8_method_17_code
def yX6_passTicksToEnd : MethodName := ⟨RX6, "passTicksToEnd", "(II)I"⟩
abbrev cX6_passTick : ByteArray := prog_8_method_18_code
def yX6_passTick : MethodName := ⟨RX6, "passTick", "()V"⟩
abbrev cX6_shine : ByteArray := prog_8_method_19_code
def yX6_shine : MethodName := ⟨RX6, "shine", "()V"⟩
abbrev cX6_makeTrips : ByteArray := prog_8_method_20_code
def yX6_makeTrips : MethodName := ⟨RX6, "makeTrips", "(I)V"⟩
abbrev cX6_sendOn : ByteArray := prog_8_method_21_code
def yX6_sendOn : MethodName := ⟨RX6, "sendOn", "(I)V"⟩
abbrev cX6_sendBack : ByteArray := prog_8_method_22_code
def yX6_sendBack : MethodName := ⟨RX6, "sendBack", "(I)V"⟩
abbrev cX6_sentToReturn : ByteArray := prog_8_method_23_code
def yX6_sentToReturn : MethodName := ⟨RX6, "sentToReturn", "(II)J"⟩
def RX7 : String := "PackLoans"
def TX7 : u_T := fun k => match k with
  | 0 => ("PackLoans", "world", "LPackLoans$World;", true)
  | 1 => ("PackLoans", "future", "LPackLoans$World;", true)
  | 2 => ("PackLoans", "reader", "LPackLoans$Reader;", true)
  | 3 => ("PackLoans", "history", "LPackLoans$History;", true)
  | 4 => ("PackLoans", "snapshots", "[LPackLoans$World;", true)
  | _ => ("PackLoans", "saved", "[Z", true)
def tyX7 : Nat → FieldType := fun k => match k with
  | 0 => .object "PackLoans$World"
  | 1 => .object "PackLoans$World"
  | 2 => .object "PackLoans$Reader"
  | 3 => .object "PackLoans$History"
  | 4 => .array (.object "PackLoans$World")
  | _ => .array .boolean
theorem nmX7 : ∀ a, a < 6 → ∀ b, b < 6 → a ≠ b → (TX7 a).2.1 ≠ (TX7 b).2.1 := by decide +kernel
theorem tyX7_ok : ∀ k, k < 6 → parseFieldDescriptor (TX7 k).2.2.1 = some (tyX7 k) := by decide +kernel
abbrev cX7_init : ByteArray := prog_1_method_1_code
def yX7_init : MethodName := ⟨RX7, "<init>", "()V"⟩
abbrev cX7_append : ByteArray := prog_1_method_2_code
def yX7_append : MethodName := ⟨RX7, "append", "(J)I"⟩
abbrev cX7_load : ByteArray := prog_1_method_3_code
def yX7_load : MethodName := ⟨RX7, "load", "()I"⟩
abbrev cX7_loadError : ByteArray := prog_1_method_4_code
def yX7_loadError : MethodName := ⟨RX7, "loadError", "()I"⟩
abbrev cX7_loadStatement : ByteArray := prog_1_method_5_code
def yX7_loadStatement : MethodName := ⟨RX7, "loadStatement", "()I"⟩
abbrev cX7_count : ByteArray := prog_1_method_6_code
def yX7_count : MethodName := ⟨RX7, "count", "(I)I"⟩
abbrev cX7_pack : ByteArray := prog_1_method_7_code
def yX7_pack : MethodName := ⟨RX7, "pack", "(II)I"⟩
abbrev cX7_cable : ByteArray := prog_1_method_8_code
def yX7_cable : MethodName := ⟨RX7, "cable", "(III)I"⟩
abbrev cX7_trip : ByteArray := prog_1_method_10_code
def yX7_trip : MethodName := ⟨RX7, "trip", "(II)I"⟩
abbrev cX7_loan : ByteArray := prog_1_method_12_code
def yX7_loan : MethodName := ⟨RX7, "loan", "(II)I"⟩
abbrev cX7_now : ByteArray := prog_1_method_13_code
def yX7_now : MethodName := ⟨RX7, "now", "()I"⟩
abbrev cX7_total : ByteArray := prog_1_method_14_code
def yX7_total : MethodName := ⟨RX7, "total", "(I)J"⟩
abbrev cX7_usedPart : ByteArray := prog_1_method_15_code
def yX7_usedPart : MethodName := ⟨RX7, "usedPart", "()D"⟩
abbrev cX7_lend : ByteArray := prog_1_method_20_code
def yX7_lend : MethodName := ⟨RX7, "lend", "(III)I"⟩
abbrev cX7_recall : ByteArray := prog_1_method_21_code
def yX7_recall : MethodName := ⟨RX7, "recall", "(I)I"⟩
abbrev cX7_giveBack : ByteArray := prog_1_method_22_code
def yX7_giveBack : MethodName := ⟨RX7, "giveBack", "(I)I"⟩
abbrev cX7_forgive : ByteArray := prog_1_method_23_code
def yX7_forgive : MethodName := ⟨RX7, "forgive", "(I)I"⟩
abbrev cX7_mend : ByteArray := prog_1_method_24_code
def yX7_mend : MethodName := ⟨RX7, "mend", "(I)I"⟩
abbrev cX7_charge : ByteArray := prog_1_method_25_code
def yX7_charge : MethodName := ⟨RX7, "charge", "(II)I"⟩
abbrev cX7_drain : ByteArray := prog_1_method_26_code
def yX7_drain : MethodName := ⟨RX7, "drain", "(II)I"⟩
abbrev cX7_setReserve : ByteArray := prog_1_method_27_code
def yX7_setReserve : MethodName := ⟨RX7, "setReserve", "(II)I"⟩
abbrev cX7_setCable : ByteArray := prog_1_method_28_code
def yX7_setCable : MethodName := ⟨RX7, "setCable", "(IIII)I"⟩
abbrev cX7_addTrip : ByteArray := prog_1_method_29_code
def yX7_addTrip : MethodName := ⟨RX7, "addTrip", "(III)I"⟩
abbrev cX7_dropTrip : ByteArray := prog_1_method_30_code
def yX7_dropTrip : MethodName := ⟨RX7, "dropTrip", "(I)I"⟩
abbrev cX7_run : ByteArray := prog_1_method_31_code
def yX7_run : MethodName := ⟨RX7, "run", "(I)I"⟩
abbrev cX7_runToClosed : ByteArray := prog_1_method_32_code
def yX7_runToClosed : MethodName := ⟨RX7, "runToClosed", "(II)I"⟩
abbrev cX7_neediest : ByteArray := prog_1_method_40_code
def yX7_neediest : MethodName := ⟨RX7, "neediest", "()I"⟩
abbrev cX7_richest : ByteArray := prog_1_method_41_code
def yX7_richest : MethodName := ⟨RX7, "richest", "()I"⟩
abbrev cX7_undo : ByteArray := prog_1_method_44_code
def yX7_undo : MethodName := ⟨RX7, "undo", "()I"⟩
abbrev cX7_checkIndex : ByteArray := prog_1_method_47_code
def yX7_checkIndex : MethodName := ⟨RX7, "checkIndex", "(II)V"⟩
abbrev cX7_checkRange : ByteArray := prog_1_method_48_code
def yX7_checkRange : MethodName := ⟨RX7, "checkRange", "(III)V"⟩
abbrev cX7_sumOf : ByteArray := prog_1_method_49_code
def yX7_sumOf : MethodName := ⟨RX7, "sumOf", "([II)J"⟩
abbrev cX7_copyRow : ByteArray := prog_1_method_50_code
def yX7_copyRow : MethodName := ⟨RX7, "copyRow", "([I[I)V"⟩
def RX8 : String := "PackLoansLaw$Cable"
def TX8 : u_T := fun k => match k with
  | 0 => ("PackLoansLaw$Cable", "a", "I", true)
  | 1 => ("PackLoansLaw$Cable", "b", "I", true)
  | 2 => ("PackLoansLaw$Cable", "loss", "I", false)
  | 3 => ("PackLoansLaw$Cable", "rate", "I", false)
  | 4 => ("PackLoansLaw$Cable", "sent", "I", false)
  | _ => ("PackLoansLaw$Cable", "lost", "I", false)
def tyX8 : Nat → FieldType := fun k => match k with
  | 0 => .int
  | 1 => .int
  | 2 => .int
  | 3 => .int
  | 4 => .int
  | _ => .int
theorem nmX8 : ∀ a, a < 6 → ∀ b, b < 6 → a ≠ b → (TX8 a).2.1 ≠ (TX8 b).2.1 := by decide +kernel
theorem tyX8_ok : ∀ k, k < 6 → parseFieldDescriptor (TX8 k).2.2.1 = some (tyX8 k) := by decide +kernel
abbrev cX8_init : ByteArray := prog_10_method_1_code
def yX8_init : MethodName := ⟨RX8, "<init>", "(IIII)V"⟩
abbrev cX8_copy : ByteArray := prog_10_method_2_code
def yX8_copy : MethodName := ⟨RX8, "copy", "()LPackLoansLaw$Cable;"⟩
def RX9 : String := "PackLoansLaw$Contract"
def TX9 : u_T := fun k => match k with
  | 0 => ("PackLoansLaw$Contract", "lender", "I", true)
  | 1 => ("PackLoansLaw$Contract", "borrower", "I", true)
  | 2 => ("PackLoansLaw$Contract", "limit", "I", true)
  | 3 => ("PackLoansLaw$Contract", "notice", "I", true)
  | 4 => ("PackLoansLaw$Contract", "grace", "I", true)
  | _ => ("PackLoansLaw$Contract", "isBroken", "Z", false)
def tyX9 : Nat → FieldType := fun k => match k with
  | 0 => .int
  | 1 => .int
  | 2 => .int
  | 3 => .int
  | 4 => .int
  | _ => .boolean
theorem nmX9 : ∀ a, a < 6 → ∀ b, b < 6 → a ≠ b → (TX9 a).2.1 ≠ (TX9 b).2.1 := by decide +kernel
theorem tyX9_ok : ∀ k, k < 6 → parseFieldDescriptor (TX9 k).2.2.1 = some (tyX9 k) := by decide +kernel
abbrev cX9_init : ByteArray := prog_11_method_1_code
def yX9_init : MethodName := ⟨RX9, "<init>", "(IIIII)V"⟩
abbrev cX9_copy : ByteArray := prog_11_method_2_code
def yX9_copy : MethodName := ⟨RX9, "copy", "()LPackLoansLaw$Contract;"⟩
def RX10 : String := "PackLoansLaw$Loan"
def TX10 : u_T := fun k => match k with
  | 0 => ("PackLoansLaw$Loan", "contract", "I", true)
  | 1 => ("PackLoansLaw$Loan", "amount", "I", true)
  | 2 => ("PackLoansLaw$Loan", "sent", "I", false)
  | 3 => ("PackLoansLaw$Loan", "points", "I", false)
  | 4 => ("PackLoansLaw$Loan", "back", "I", false)
  | 5 => ("PackLoansLaw$Loan", "state", "I", false)
  | _ => ("PackLoansLaw$Loan", "due", "I", false)
def tyX10 : Nat → FieldType := fun k => match k with
  | 0 => .int
  | 1 => .int
  | 2 => .int
  | 3 => .int
  | 4 => .int
  | 5 => .int
  | _ => .int
theorem nmX10 : ∀ a, a < 7 → ∀ b, b < 7 → a ≠ b → (TX10 a).2.1 ≠ (TX10 b).2.1 := by decide +kernel
theorem tyX10_ok : ∀ k, k < 7 → parseFieldDescriptor (TX10 k).2.2.1 = some (tyX10 k) := by decide +kernel
abbrev cX10_init : ByteArray := prog_12_method_1_code
def yX10_init : MethodName := ⟨RX10, "<init>", "(III)V"⟩
abbrev cX10_copy : ByteArray := prog_12_method_2_code
def yX10_copy : MethodName := ⟨RX10, "copy", "()LPackLoansLaw$Loan;"⟩
def RX11 : String := "PackLoansLaw$Pack"
def TX11 : u_T := fun k => match k with
  | 0 => ("PackLoansLaw$Pack", "capacity", "I", true)
  | 1 => ("PackLoansLaw$Pack", "curve", "I", true)
  | 2 => ("PackLoansLaw$Pack", "charge", "I", false)
  | 3 => ("PackLoansLaw$Pack", "points", "I", false)
  | 4 => ("PackLoansLaw$Pack", "reserve", "I", false)
  | 5 => ("PackLoansLaw$Pack", "made", "I", false)
  | _ => ("PackLoansLaw$Pack", "missed", "I", false)
def tyX11 : Nat → FieldType := fun k => match k with
  | 0 => .int
  | 1 => .int
  | 2 => .int
  | 3 => .int
  | 4 => .int
  | 5 => .int
  | _ => .int
theorem nmX11 : ∀ a, a < 7 → ∀ b, b < 7 → a ≠ b → (TX11 a).2.1 ≠ (TX11 b).2.1 := by decide +kernel
theorem tyX11_ok : ∀ k, k < 7 → parseFieldDescriptor (TX11 k).2.2.1 = some (tyX11 k) := by decide +kernel
abbrev cX11_init : ByteArray := prog_13_method_1_code
def yX11_init : MethodName := ⟨RX11, "<init>", "(III)V"⟩
abbrev cX11_copy : ByteArray := prog_13_method_2_code
def yX11_copy : MethodName := ⟨RX11, "copy", "()LPackLoansLaw$Pack;"⟩
def RX12 : String := "PackLoansLaw$World"
def TX12 : u_T := fun k => match k with
  | 0 => ("PackLoansLaw$World", "fade", "I", false)
  | 1 => ("PackLoansLaw$World", "worth", "I", false)
  | 2 => ("PackLoansLaw$World", "time", "I", false)
  | 3 => ("PackLoansLaw$World", "taken", "J", false)
  | 4 => ("PackLoansLaw$World", "used", "J", false)
  | 5 => ("PackLoansLaw$World", "inCables", "J", false)
  | 6 => ("PackLoansLaw$World", "noRoom", "J", false)
  | 7 => ("PackLoansLaw$World", "curves", "Ljava/util/ArrayList;", false)
  | 8 => ("PackLoansLaw$World", "suns", "Ljava/util/ArrayList;", false)
  | 9 => ("PackLoansLaw$World", "trips", "Ljava/util/ArrayList;", false)
  | 10 => ("PackLoansLaw$World", "packs", "Ljava/util/ArrayList;", false)
  | 11 => ("PackLoansLaw$World", "cables", "Ljava/util/ArrayList;", false)
  | 12 => ("PackLoansLaw$World", "contracts", "Ljava/util/ArrayList;", false)
  | _ => ("PackLoansLaw$World", "loans", "Ljava/util/ArrayList;", false)
def tyX12 : Nat → FieldType := fun k => match k with
  | 0 => .int
  | 1 => .int
  | 2 => .int
  | 3 => .long
  | 4 => .long
  | 5 => .long
  | 6 => .long
  | 7 => .object "java/util/ArrayList"
  | 8 => .object "java/util/ArrayList"
  | 9 => .object "java/util/ArrayList"
  | 10 => .object "java/util/ArrayList"
  | 11 => .object "java/util/ArrayList"
  | 12 => .object "java/util/ArrayList"
  | _ => .object "java/util/ArrayList"
theorem nmX12 : ∀ a, a < 14 → ∀ b, b < 14 → a ≠ b → (TX12 a).2.1 ≠ (TX12 b).2.1 := by decide +kernel
theorem tyX12_ok : ∀ k, k < 14 → parseFieldDescriptor (TX12 k).2.2.1 = some (tyX12 k) := by decide +kernel
abbrev cX12_init : ByteArray := prog_14_method_1_code
def yX12_init : MethodName := ⟨RX12, "<init>", "()V"⟩
abbrev cX12_copy : ByteArray := prog_14_method_2_code
def yX12_copy : MethodName := ⟨RX12, "copy", "()LPackLoansLaw$World;"⟩
abbrev cX12_room : ByteArray := prog_14_method_3_code
def yX12_room : MethodName := ⟨RX12, "room", "(LPackLoansLaw$Pack;)I"⟩
abbrev cX12_quarter : ByteArray := prog_14_method_4_code
def yX12_quarter : MethodName := ⟨RX12, "quarter", "(LPackLoansLaw$Pack;)I"⟩
abbrev cX12_weight : ByteArray := prog_14_method_5_code
def yX12_weight : MethodName := ⟨RX12, "weight", "(LPackLoansLaw$Pack;)I"⟩
abbrev cX12_spill : ByteArray := prog_14_method_6_code
def yX12_spill : MethodName := ⟨RX12, "spill", "(LPackLoansLaw$Pack;)V"⟩
abbrev cX12_take : ByteArray := prog_14_method_7_code
def yX12_take : MethodName := ⟨RX12, "take", "(LPackLoansLaw$Pack;I)V"⟩
abbrev cX12_give : ByteArray := prog_14_method_8_code
def yX12_give : MethodName := ⟨RX12, "give", "(LPackLoansLaw$Pack;I)V"⟩
abbrev cX12_cable : ByteArray := prog_14_method_9_code
def yX12_cable : MethodName := ⟨RX12, "cable", "(II)LPackLoansLaw$Cable;"⟩
abbrev cX12_gain : ByteArray := prog_14_method_10_code
def yX12_gain : MethodName := ⟨RX12, "gain", "(II)I"⟩
abbrev cX12_owed : ByteArray := prog_14_method_11_code
def yX12_owed : MethodName := ⟨RX12, "owed", "(LPackLoansLaw$Loan;)I"⟩
abbrev cX12_outstanding : ByteArray := prog_14_method_12_code
def yX12_outstanding : MethodName := ⟨RX12, "outstanding", "(I)I"⟩
abbrev cX12_above : ByteArray := prog_14_method_13_code
def yX12_above : MethodName := ⟨RX12, "above", "(LPackLoansLaw$Pack;)I"⟩
abbrev cX12_hindrance : ByteArray := prog_14_method_14_code
def yX12_hindrance : MethodName := ⟨RX12, "hindrance", "(II)I"⟩
abbrev cX12_through : ByteArray := prog_14_method_16_code
def yX12_through : MethodName := ⟨RX12, "through", "(LPackLoansLaw$Cable;LPackLoansLaw$Pack;LPackLoansLaw$Pack;I)I"⟩
abbrev cX12_shine : ByteArray := prog_14_method_17_code
def yX12_shine : MethodName := ⟨RX12, "shine", "()V"⟩
abbrev cX12_travel : ByteArray := prog_14_method_18_code
def yX12_travel : MethodName := ⟨RX12, "travel", "([I)V"⟩
abbrev cX12_serve : ByteArray := prog_14_method_19_code
def yX12_serve : MethodName := ⟨RX12, "serve", "(LPackLoansLaw$Loan;)V"⟩
abbrev cX12_pass : ByteArray := prog_14_method_20_code
def yX12_pass : MethodName := ⟨RX12, "pass", "()V"⟩
def RX13 : String := "PackLoansModel"
def TX13 : u_T := fun k => match k with
  | _ => ("", "", "", false)
def tyX13 : Nat → FieldType := fun k => match k with
  | _ => .int
theorem nmX13 : ∀ a, a < 0 → ∀ b, b < 0 → a ≠ b → (TX13 a).2.1 ≠ (TX13 b).2.1 := by decide +kernel
theorem tyX13_ok : ∀ k, k < 0 → parseFieldDescriptor (TX13 k).2.2.1 = some (tyX13 k) := by decide +kernel
def RJx145de : String := "java/io/Serializable"
def TJx145de : u_T := fun k => match k with
  | _ => ("", "", "", false)
def tyJx145de : Nat → FieldType := fun k => match k with
  | _ => .int
theorem nmJx145de : ∀ a, a < 0 → ∀ b, b < 0 → a ≠ b → (TJx145de a).2.1 ≠ (TJx145de b).2.1 := by decide +kernel
theorem tyJx145de_ok : ∀ k, k < 0 → parseFieldDescriptor (TJx145de k).2.2.1 = some (tyJx145de k) := by decide +kernel
def RJ5 : String := "java/lang/AbstractStringBuilder"
def TJ5 : u_T := fun k => match k with
  | _ => ("", "", "", false)
def tyJ5 : Nat → FieldType := fun k => match k with
  | _ => .int
theorem nmJ5 : ∀ a, a < 0 → ∀ b, b < 0 → a ≠ b → (TJ5 a).2.1 ≠ (TJ5 b).2.1 := by decide +kernel
theorem tyJ5_ok : ∀ k, k < 0 → parseFieldDescriptor (TJ5 k).2.2.1 = some (tyJ5 k) := by decide +kernel
abbrev cJ5_init_d00df : ByteArray := prog_17_method_2_code
def yJ5_init_d00df : MethodName := ⟨RJ5, "<init>", "(I)V"⟩
abbrev cJ5_length_8abf5 : ByteArray := prog_17_method_6_code
def yJ5_length_8abf5 : MethodName := ⟨RJ5, "length", "()I"⟩
abbrev cJ5_ensureCapacityInternal_d00df : ByteArray := prog_17_method_9_code
def yJ5_ensureCapacityInternal_d00df : MethodName := ⟨RJ5, "ensureCapacityInternal", "(I)V"⟩
abbrev cJ5_newCapacity_0f7a4 : ByteArray := prog_17_method_10_code
def yJ5_newCapacity_0f7a4 : MethodName := ⟨RJ5, "newCapacity", "(I)I"⟩
abbrev cJ5_inflate_da8c8 : ByteArray := prog_17_method_11_code
def yJ5_inflate_da8c8 : MethodName := ⟨RJ5, "inflate", "()V"⟩
abbrev cJ5_append_cf1ce : ByteArray := prog_17_method_22_code
def yJ5_append_cf1ce : MethodName := ⟨RJ5, "append", "(Ljava/lang/String;)Ljava/lang/AbstractStringBuilder;"⟩
abbrev cJ5_appendNull_278bc : ByteArray := prog_17_method_26_code
def yJ5_appendNull_278bc : MethodName := ⟨RJ5, "appendNull", "()Ljava/lang/AbstractStringBuilder;"⟩
abbrev cJ5_append_3fe6f : ByteArray := prog_17_method_31_code
def yJ5_append_3fe6f : MethodName := ⟨RJ5, "append", "(C)Ljava/lang/AbstractStringBuilder;"⟩
abbrev cJ5_append_c97b9 : ByteArray := prog_17_method_32_code
def yJ5_append_c97b9 : MethodName := ⟨RJ5, "append", "(I)Ljava/lang/AbstractStringBuilder;"⟩
abbrev cJ5_getValue_6d5f1 : ByteArray := prog_17_method_64_code
def yJ5_getValue_6d5f1 : MethodName := ⟨RJ5, "getValue", "()[B"⟩
abbrev cJ5_isLatin1_aae02 : ByteArray := prog_17_method_68_code
def yJ5_isLatin1_aae02 : MethodName := ⟨RJ5, "isLatin1", "()Z"⟩
abbrev cJ5_inflateIfNeededFor_a7421 : ByteArray := prog_17_method_71_code
def yJ5_inflateIfNeededFor_a7421 : MethodName := ⟨RJ5, "inflateIfNeededFor", "(Ljava/lang/String;)V"⟩
abbrev cJ5_putStringAt_47b60 : ByteArray := prog_17_method_73_code
def yJ5_putStringAt_47b60 : MethodName := ⟨RJ5, "putStringAt", "(ILjava/lang/String;)V"⟩
def RJx2cfe8 : String := "java/lang/Appendable"
def TJx2cfe8 : u_T := fun k => match k with
  | _ => ("", "", "", false)
def tyJx2cfe8 : Nat → FieldType := fun k => match k with
  | _ => .int
theorem nmJx2cfe8 : ∀ a, a < 0 → ∀ b, b < 0 → a ≠ b → (TJx2cfe8 a).2.1 ≠ (TJx2cfe8 b).2.1 := by decide +kernel
theorem tyJx2cfe8_ok : ∀ k, k < 0 → parseFieldDescriptor (TJx2cfe8 k).2.2.1 = some (tyJx2cfe8 k) := by decide +kernel
def RJx9f9b0 : String := "java/lang/CharSequence"
def TJx9f9b0 : u_T := fun k => match k with
  | _ => ("", "", "", false)
def tyJx9f9b0 : Nat → FieldType := fun k => match k with
  | _ => .int
theorem nmJx9f9b0 : ∀ a, a < 0 → ∀ b, b < 0 → a ≠ b → (TJx9f9b0 a).2.1 ≠ (TJx9f9b0 b).2.1 := by decide +kernel
theorem tyJx9f9b0_ok : ∀ k, k < 0 → parseFieldDescriptor (TJx9f9b0 k).2.2.1 = some (tyJx9f9b0 k) := by decide +kernel
def RJx8e188 : String := "java/lang/Cloneable"
def TJx8e188 : u_T := fun k => match k with
  | _ => ("", "", "", false)
def tyJx8e188 : Nat → FieldType := fun k => match k with
  | _ => .int
theorem nmJx8e188 : ∀ a, a < 0 → ∀ b, b < 0 → a ≠ b → (TJx8e188 a).2.1 ≠ (TJx8e188 b).2.1 := by decide +kernel
theorem tyJx8e188_ok : ∀ k, k < 0 → parseFieldDescriptor (TJx8e188 k).2.2.1 = some (tyJx8e188 k) := by decide +kernel
def RJxb160c : String := "java/lang/Comparable"
def TJxb160c : u_T := fun k => match k with
  | _ => ("", "", "", false)
def tyJxb160c : Nat → FieldType := fun k => match k with
  | _ => .int
theorem nmJxb160c : ∀ a, a < 0 → ∀ b, b < 0 → a ≠ b → (TJxb160c a).2.1 ≠ (TJxb160c b).2.1 := by decide +kernel
theorem tyJxb160c_ok : ∀ k, k < 0 → parseFieldDescriptor (TJxb160c k).2.2.1 = some (tyJxb160c k) := by decide +kernel
def RJ6 : String := "java/lang/Integer"
def TJ6 : u_T := fun k => match k with
  | _ => ("", "", "", false)
def tyJ6 : Nat → FieldType := fun k => match k with
  | _ => .int
theorem nmJ6 : ∀ a, a < 0 → ∀ b, b < 0 → a ≠ b → (TJ6 a).2.1 ≠ (TJ6 b).2.1 := by decide +kernel
theorem tyJ6_ok : ∀ k, k < 0 → parseFieldDescriptor (TJ6 k).2.2.1 = some (tyJ6 k) := by decide +kernel
abbrev cJ6_getChars_ba4f3 : ByteArray := prog_25_method_12_code
def yJ6_getChars_ba4f3 : MethodName := ⟨RJ6, "getChars", "(II[B)I"⟩
abbrev cJ6_stringSize_0f7a4 : ByteArray := prog_25_method_13_code
def yJ6_stringSize_0f7a4 : MethodName := ⟨RJ6, "stringSize", "(I)I"⟩
def RJxab1ab : String := "java/lang/Iterable"
def TJxab1ab : u_T := fun k => match k with
  | _ => ("", "", "", false)
def tyJxab1ab : Nat → FieldType := fun k => match k with
  | _ => .int
theorem nmJxab1ab : ∀ a, a < 0 → ∀ b, b < 0 → a ≠ b → (TJxab1ab a).2.1 ≠ (TJxab1ab b).2.1 := by decide +kernel
theorem tyJxab1ab_ok : ∀ k, k < 0 → parseFieldDescriptor (TJxab1ab k).2.2.1 = some (tyJxab1ab k) := by decide +kernel
def RJ9 : String := "java/lang/Math"
def TJ9 : u_T := fun k => match k with
  | _ => ("", "", "", false)
def tyJ9 : Nat → FieldType := fun k => match k with
  | _ => .int
theorem nmJ9 : ∀ a, a < 0 → ∀ b, b < 0 → a ≠ b → (TJ9 a).2.1 ≠ (TJ9 b).2.1 := by decide +kernel
theorem tyJ9_ok : ∀ k, k < 0 → parseFieldDescriptor (TJ9 k).2.2.1 = some (tyJ9 k) := by decide +kernel
abbrev cJ9_max_7cf53 : ByteArray := prog_27_method_65_code
def yJ9_max_7cf53 : MethodName := ⟨RJ9, "max", "(II)I"⟩
abbrev cJ9_min_7cf53 : ByteArray := prog_27_method_69_code
def yJ9_min_7cf53 : MethodName := ⟨RJ9, "min", "(II)I"⟩
abbrev cJ9_min_f86c9 : ByteArray := prog_27_method_70_code
def yJ9_min_f86c9 : MethodName := ⟨RJ9, "min", "(JJ)J"⟩
def RJxd2413 : String := "java/lang/Number"
def TJxd2413 : u_T := fun k => match k with
  | _ => ("", "", "", false)
def tyJxd2413 : Nat → FieldType := fun k => match k with
  | _ => .int
theorem nmJxd2413 : ∀ a, a < 0 → ∀ b, b < 0 → a ≠ b → (TJxd2413 a).2.1 ≠ (TJxd2413 b).2.1 := by decide +kernel
theorem tyJxd2413_ok : ∀ k, k < 0 → parseFieldDescriptor (TJxd2413 k).2.2.1 = some (tyJxd2413 k) := by decide +kernel
def RJ0 : String := "java/lang/String"
def TJ0 : u_T := fun k => match k with
  | 0 => ("java/lang/String", "value", "[B", true)
  | 1 => ("java/lang/String", "coder", "B", true)
  | 2 => ("java/lang/String", "hash", "I", false)
  | _ => ("java/lang/String", "hashIsZero", "Z", false)
def tyJ0 : Nat → FieldType := fun k => match k with
  | 0 => .array .byte
  | 1 => .byte
  | 2 => .int
  | _ => .boolean
theorem nmJ0 : ∀ a, a < 4 → ∀ b, b < 4 → a ≠ b → (TJ0 a).2.1 ≠ (TJ0 b).2.1 := by decide +kernel
theorem tyJ0_ok : ∀ k, k < 4 → parseFieldDescriptor (TJ0 k).2.2.1 = some (tyJ0 k) := by decide +kernel
abbrev cJ0_init_81219 : ByteArray := prog_30_method_53_code
def yJ0_init_81219 : MethodName := ⟨RJ0, "<init>", "(Ljava/lang/StringBuilder;)V"⟩
abbrev cJ0_length_8abf5 : ByteArray := prog_30_method_54_code
def yJ0_length_8abf5 : MethodName := ⟨RJ0, "length", "()I"⟩
abbrev cJ0_charAt_5068e : ByteArray := prog_30_method_56_code
def yJ0_charAt_5068e : MethodName := ⟨RJ0, "charAt", "(I)C"⟩
abbrev cJ0_getBytes_840e7 : ByteArray := prog_30_method_147_code
def yJ0_getBytes_840e7 : MethodName := ⟨RJ0, "getBytes", "([BIB)V"⟩
abbrev cJ0_init_db425 : ByteArray := prog_30_method_150_code
def yJ0_init_db425 : MethodName := ⟨RJ0, "<init>", "(Ljava/lang/AbstractStringBuilder;Ljava/lang/Void;)V"⟩
abbrev cJ0_coder_7d493 : ByteArray := prog_30_method_152_code
def yJ0_coder_7d493 : MethodName := ⟨RJ0, "coder", "()B"⟩
abbrev cJ0_isLatin1_aae02 : ByteArray := prog_30_method_154_code
def yJ0_isLatin1_aae02 : MethodName := ⟨RJ0, "isLatin1", "()Z"⟩
abbrev cJ0_checkIndex_df160 : ByteArray := prog_30_method_155_code
def yJ0_checkIndex_df160 : MethodName := ⟨RJ0, "checkIndex", "(II)V"⟩
abbrev cJ0_checkBoundsOffCount_cabcc : ByteArray := prog_30_method_157_code
def yJ0_checkBoundsOffCount_cabcc : MethodName := ⟨RJ0, "checkBoundsOffCount", "(III)I"⟩
abbrev cJ0_checkBoundsBeginEnd_23922 : ByteArray := prog_30_method_158_code
def yJ0_checkBoundsBeginEnd_23922 : MethodName := ⟨RJ0, "checkBoundsBeginEnd", "(III)V"⟩
def RJ4 : String := "java/lang/StringBuilder"
def TJ4 : u_T := fun k => match k with
  | 0 => ("java/lang/AbstractStringBuilder", "value", "[B", false)
  | 1 => ("java/lang/AbstractStringBuilder", "coder", "B", false)
  | 2 => ("java/lang/AbstractStringBuilder", "maybeLatin1", "Z", false)
  | _ => ("java/lang/AbstractStringBuilder", "count", "I", false)
def tyJ4 : Nat → FieldType := fun k => match k with
  | 0 => .array .byte
  | 1 => .byte
  | 2 => .boolean
  | _ => .int
theorem nmJ4 : ∀ a, a < 4 → ∀ b, b < 4 → a ≠ b → (TJ4 a).2.1 ≠ (TJ4 b).2.1 := by decide +kernel
theorem tyJ4_ok : ∀ k, k < 4 → parseFieldDescriptor (TJ4 k).2.2.1 = some (tyJ4 k) := by decide +kernel
abbrev cJ4_init_da8c8 : ByteArray := prog_31_method_1_code
def yJ4_init_da8c8 : MethodName := ⟨RJ4, "<init>", "()V"⟩
abbrev cJ4_append_15ec4 : ByteArray := prog_31_method_7_code
def yJ4_append_15ec4 : MethodName := ⟨RJ4, "append", "(Ljava/lang/String;)Ljava/lang/StringBuilder;"⟩
abbrev cJ4_append_cf468 : ByteArray := prog_31_method_14_code
def yJ4_append_cf468 : MethodName := ⟨RJ4, "append", "(C)Ljava/lang/StringBuilder;"⟩
abbrev cJ4_append_bf812 : ByteArray := prog_31_method_15_code
def yJ4_append_bf812 : MethodName := ⟨RJ4, "append", "(I)Ljava/lang/StringBuilder;"⟩
abbrev cJ4_toString_0e30d : ByteArray := prog_31_method_42_code
def yJ4_toString_0e30d : MethodName := ⟨RJ4, "toString", "()Ljava/lang/String;"⟩
abbrev cJ4_length_8abf5 : ByteArray := prog_31_method_93_code
def yJ4_length_8abf5 : MethodName := ⟨RJ4, "length", "()I"⟩
def RJ1 : String := "java/lang/StringLatin1"
def TJ1 : u_T := fun k => match k with
  | _ => ("", "", "", false)
def tyJ1 : Nat → FieldType := fun k => match k with
  | _ => .int
theorem nmJ1 : ∀ a, a < 0 → ∀ b, b < 0 → a ≠ b → (TJ1 a).2.1 ≠ (TJ1 b).2.1 := by decide +kernel
theorem tyJ1_ok : ∀ k, k < 0 → parseFieldDescriptor (TJ1 k).2.2.1 = some (tyJ1 k) := by decide +kernel
abbrev cJ1_charAt_3b067 : ByteArray := prog_32_method_2_code
def yJ1_charAt_3b067 : MethodName := ⟨RJ1, "charAt", "([BI)C"⟩
abbrev cJ1_canEncode_fc78d : ByteArray := prog_32_method_3_code
def yJ1_canEncode_fc78d : MethodName := ⟨RJ1, "canEncode", "(C)Z"⟩
abbrev cJ1_inflate_0e8fd : ByteArray := prog_32_method_50_code
def yJ1_inflate_0e8fd : MethodName := ⟨RJ1, "inflate", "([BI[BII)V"⟩
def RJ2 : String := "java/lang/StringUTF16"
def TJ2 : u_T := fun k => match k with
  | _ => ("", "", "", false)
def tyJ2 : Nat → FieldType := fun k => match k with
  | _ => .int
theorem nmJ2 : ∀ a, a < 0 → ∀ b, b < 0 → a ≠ b → (TJ2 a).2.1 ≠ (TJ2 b).2.1 := by decide +kernel
theorem tyJ2_ok : ∀ k, k < 0 → parseFieldDescriptor (TJ2 k).2.2.1 = some (tyJ2 k) := by decide +kernel
abbrev cJ2_newBytesFor_77867 : ByteArray := prog_33_method_2_code
def yJ2_newBytesFor_77867 : MethodName := ⟨RJ2, "newBytesFor", "(I)[B"⟩
abbrev cJ2_newBytesLength_0f7a4 : ByteArray := prog_33_method_3_code
def yJ2_newBytesLength_0f7a4 : MethodName := ⟨RJ2, "newBytesLength", "(I)I"⟩
abbrev cJ2_putChar_b72d1 : ByteArray := prog_33_method_4_code
def yJ2_putChar_b72d1 : MethodName := ⟨RJ2, "putChar", "([BII)V"⟩
abbrev cJ2_getChar_3b067 : ByteArray := prog_33_method_5_code
def yJ2_getChar_3b067 : MethodName := ⟨RJ2, "getChar", "([BI)C"⟩
abbrev cJ2_length_9d52b : ByteArray := prog_33_method_6_code
def yJ2_length_9d52b : MethodName := ⟨RJ2, "length", "([B)I"⟩
abbrev cJ2_coderFromArrayLen_85cad : ByteArray := prog_33_method_15_code
def yJ2_coderFromArrayLen_85cad : MethodName := ⟨RJ2, "coderFromArrayLen", "([BI)B"⟩
abbrev cJ2_compress_39247 : ByteArray := prog_33_method_17_code
def yJ2_compress_39247 : MethodName := ⟨RJ2, "compress", "([BII)[B"⟩
abbrev cJ2_compress_5af95 : ByteArray := prog_33_method_22_code
def yJ2_compress_5af95 : MethodName := ⟨RJ2, "compress", "([BI[BII)I"⟩
abbrev cJ2_putCharSB_b72d1 : ByteArray := prog_33_method_71_code
def yJ2_putCharSB_b72d1 : MethodName := ⟨RJ2, "putCharSB", "([BII)V"⟩
abbrev cJ2_getChars_46870 : ByteArray := prog_33_method_77_code
def yJ2_getChars_46870 : MethodName := ⟨RJ2, "getChars", "(III[B)I"⟩
abbrev cJ2_putCharsAt_cd4e5 : ByteArray := prog_33_method_81_code
def yJ2_putCharsAt_cd4e5 : MethodName := ⟨RJ2, "putCharsAt", "([BICCCC)I"⟩
abbrev cJ2_charAt_3b067 : ByteArray := prog_33_method_83_code
def yJ2_charAt_3b067 : MethodName := ⟨RJ2, "charAt", "([BI)C"⟩
abbrev cJ2_inflate_0e8fd : ByteArray := prog_33_method_86_code
def yJ2_inflate_0e8fd : MethodName := ⟨RJ2, "inflate", "([BI[BII)V"⟩
abbrev cJ2_getChars_ba4f3 : ByteArray := prog_33_method_89_code
def yJ2_getChars_ba4f3 : MethodName := ⟨RJ2, "getChars", "(II[B)I"⟩
abbrev cJ2_checkIndex_2214a : ByteArray := prog_33_method_91_code
def yJ2_checkIndex_2214a : MethodName := ⟨RJ2, "checkIndex", "(I[B)V"⟩
abbrev cJ2_checkBoundsBeginEnd_d044e : ByteArray := prog_33_method_93_code
def yJ2_checkBoundsBeginEnd_d044e : MethodName := ⟨RJ2, "checkBoundsBeginEnd", "(II[B)V"⟩
abbrev cJ2_checkBoundsOffCount_d044e : ByteArray := prog_33_method_94_code
def yJ2_checkBoundsOffCount_d044e : MethodName := ⟨RJ2, "checkBoundsOffCount", "(II[B)V"⟩
def RJ10 : String := "java/lang/System"
def TJ10 : u_T := fun k => match k with
  | _ => ("", "", "", false)
def tyJ10 : Nat → FieldType := fun k => match k with
  | _ => .int
theorem nmJ10 : ∀ a, a < 0 → ∀ b, b < 0 → a ≠ b → (TJ10 a).2.1 ≠ (TJ10 b).2.1 := by decide +kernel
theorem tyJ10_ok : ∀ k, k < 0 → parseFieldDescriptor (TJ10 k).2.2.1 = some (tyJ10 k) := by decide +kernel
def RJxfd54e : String := "java/lang/constant/Constable"
def TJxfd54e : u_T := fun k => match k with
  | _ => ("", "", "", false)
def tyJxfd54e : Nat → FieldType := fun k => match k with
  | _ => .int
theorem nmJxfd54e : ∀ a, a < 0 → ∀ b, b < 0 → a ≠ b → (TJxfd54e a).2.1 ≠ (TJxfd54e b).2.1 := by decide +kernel
theorem tyJxfd54e_ok : ∀ k, k < 0 → parseFieldDescriptor (TJxfd54e k).2.2.1 = some (tyJxfd54e k) := by decide +kernel
def RJx3cf43 : String := "java/lang/constant/ConstantDesc"
def TJx3cf43 : u_T := fun k => match k with
  | _ => ("", "", "", false)
def tyJx3cf43 : Nat → FieldType := fun k => match k with
  | _ => .int
theorem nmJx3cf43 : ∀ a, a < 0 → ∀ b, b < 0 → a ≠ b → (TJx3cf43 a).2.1 ≠ (TJx3cf43 b).2.1 := by decide +kernel
theorem tyJx3cf43_ok : ∀ k, k < 0 → parseFieldDescriptor (TJx3cf43 k).2.2.1 = some (tyJx3cf43 k) := by decide +kernel
def RJxa1e45 : String := "java/util/AbstractCollection"
def TJxa1e45 : u_T := fun k => match k with
  | _ => ("", "", "", false)
def tyJxa1e45 : Nat → FieldType := fun k => match k with
  | _ => .int
theorem nmJxa1e45 : ∀ a, a < 0 → ∀ b, b < 0 → a ≠ b → (TJxa1e45 a).2.1 ≠ (TJxa1e45 b).2.1 := by decide +kernel
theorem tyJxa1e45_ok : ∀ k, k < 0 → parseFieldDescriptor (TJxa1e45 k).2.2.1 = some (tyJxa1e45 k) := by decide +kernel
abbrev cJxa1e45_init_da8c8 : ByteArray := prog_38_method_1_code
def yJxa1e45_init_da8c8 : MethodName := ⟨RJxa1e45, "<init>", "()V"⟩
def RJxc12de : String := "java/util/AbstractList"
def TJxc12de : u_T := fun k => match k with
  | _ => ("", "", "", false)
def tyJxc12de : Nat → FieldType := fun k => match k with
  | _ => .int
theorem nmJxc12de : ∀ a, a < 0 → ∀ b, b < 0 → a ≠ b → (TJxc12de a).2.1 ≠ (TJxc12de b).2.1 := by decide +kernel
theorem tyJxc12de_ok : ∀ k, k < 0 → parseFieldDescriptor (TJxc12de k).2.2.1 = some (tyJxc12de k) := by decide +kernel
abbrev cJxc12de_init_da8c8 : ByteArray := prog_39_method_1_code
def yJxc12de_init_da8c8 : MethodName := ⟨RJxc12de, "<init>", "()V"⟩
def RJx35411 : String := "java/util/ArrayList$Itr"
def TJx35411 : u_T := fun k => match k with
  | 0 => ("java/util/ArrayList$Itr", "cursor", "I", false)
  | 1 => ("java/util/ArrayList$Itr", "lastRet", "I", false)
  | 2 => ("java/util/ArrayList$Itr", "expectedModCount", "I", false)
  | _ => ("java/util/ArrayList$Itr", "this$0", "Ljava/util/ArrayList;", true)
def tyJx35411 : Nat → FieldType := fun k => match k with
  | 0 => .int
  | 1 => .int
  | 2 => .int
  | _ => .object "java/util/ArrayList"
theorem nmJx35411 : ∀ a, a < 4 → ∀ b, b < 4 → a ≠ b → (TJx35411 a).2.1 ≠ (TJx35411 b).2.1 := by decide +kernel
theorem tyJx35411_ok : ∀ k, k < 4 → parseFieldDescriptor (TJx35411 k).2.2.1 = some (tyJx35411 k) := by decide +kernel
abbrev cJx35411_init_45d68 : ByteArray := prog_41_method_1_code
def yJx35411_init_45d68 : MethodName := ⟨RJx35411, "<init>", "(Ljava/util/ArrayList;)V"⟩
abbrev cJx35411_hasNext_aae02 : ByteArray := prog_41_method_2_code
def yJx35411_hasNext_aae02 : MethodName := ⟨RJx35411, "hasNext", "()Z"⟩
abbrev cJx35411_next_0502b : ByteArray := prog_41_method_3_code
def yJx35411_next_0502b : MethodName := ⟨RJx35411, "next", "()Ljava/lang/Object;"⟩
abbrev cJx35411_checkForComodification_da8c8 : ByteArray := prog_41_method_6_code
def yJx35411_checkForComodification_da8c8 : MethodName := ⟨RJx35411, "checkForComodification", "()V"⟩
def RJx4a65c : String := "java/util/ArrayList"
def TJx4a65c : u_T := fun k => match k with
  | 0 => ("java/util/AbstractList", "modCount", "I", false)
  | 1 => ("java/util/ArrayList", "elementData", "[Ljava/lang/Object;", false)
  | _ => ("java/util/ArrayList", "size", "I", false)
def tyJx4a65c : Nat → FieldType := fun k => match k with
  | 0 => .int
  | 1 => .array (.object "java/lang/Object")
  | _ => .int
theorem nmJx4a65c : ∀ a, a < 3 → ∀ b, b < 3 → a ≠ b → (TJx4a65c a).2.1 ≠ (TJx4a65c b).2.1 := by decide +kernel
theorem tyJx4a65c_ok : ∀ k, k < 3 → parseFieldDescriptor (TJx4a65c k).2.2.1 = some (tyJx4a65c k) := by decide +kernel
abbrev cJx4a65c_init_da8c8 : ByteArray := prog_40_method_2_code
def yJx4a65c_init_da8c8 : MethodName := ⟨RJx4a65c, "<init>", "()V"⟩
abbrev cJx4a65c_grow_92f84 : ByteArray := prog_40_method_6_code
def yJx4a65c_grow_92f84 : MethodName := ⟨RJx4a65c, "grow", "(I)[Ljava/lang/Object;"⟩
abbrev cJx4a65c_grow_d5877 : ByteArray := prog_40_method_7_code
def yJx4a65c_grow_d5877 : MethodName := ⟨RJx4a65c, "grow", "()[Ljava/lang/Object;"⟩
abbrev cJx4a65c_size_8abf5 : ByteArray := prog_40_method_8_code
def yJx4a65c_size_8abf5 : MethodName := ⟨RJx4a65c, "size", "()I"⟩
abbrev cJx4a65c_isEmpty_aae02 : ByteArray := prog_40_method_9_code
def yJx4a65c_isEmpty_aae02 : MethodName := ⟨RJx4a65c, "isEmpty", "()Z"⟩
abbrev cJx4a65c_toArray_d5877 : ByteArray := prog_40_method_16_code
def yJx4a65c_toArray_d5877 : MethodName := ⟨RJx4a65c, "toArray", "()[Ljava/lang/Object;"⟩
abbrev cJx4a65c_elementData_915e3 : ByteArray := prog_40_method_18_code
def yJx4a65c_elementData_915e3 : MethodName := ⟨RJx4a65c, "elementData", "(I)Ljava/lang/Object;"⟩
abbrev cJx4a65c_get_915e3 : ByteArray := prog_40_method_20_code
def yJx4a65c_get_915e3 : MethodName := ⟨RJx4a65c, "get", "(I)Ljava/lang/Object;"⟩
abbrev cJx4a65c_add_72be8 : ByteArray := prog_40_method_24_code
def yJx4a65c_add_72be8 : MethodName := ⟨RJx4a65c, "add", "(Ljava/lang/Object;[Ljava/lang/Object;I)V"⟩
abbrev cJx4a65c_add_9ea2d : ByteArray := prog_40_method_25_code
def yJx4a65c_add_9ea2d : MethodName := ⟨RJx4a65c, "add", "(Ljava/lang/Object;)Z"⟩
abbrev cJx4a65c_remove_915e3 : ByteArray := prog_40_method_29_code
def yJx4a65c_remove_915e3 : MethodName := ⟨RJx4a65c, "remove", "(I)Ljava/lang/Object;"⟩
abbrev cJx4a65c_fastRemove_b59b0 : ByteArray := prog_40_method_39_code
def yJx4a65c_fastRemove_b59b0 : MethodName := ⟨RJx4a65c, "fastRemove", "([Ljava/lang/Object;I)V"⟩
abbrev cJx4a65c_addAll_f0b43 : ByteArray := prog_40_method_41_code
def yJx4a65c_addAll_f0b43 : MethodName := ⟨RJx4a65c, "addAll", "(Ljava/util/Collection;)Z"⟩
abbrev cJx4a65c_iterator_32c93 : ByteArray := prog_40_method_55_code
def yJx4a65c_iterator_32c93 : MethodName := ⟨RJx4a65c, "iterator", "()Ljava/util/Iterator;"⟩
def RJ7 : String := "java/util/Arrays"
def TJ7 : u_T := fun k => match k with
  | _ => ("", "", "", false)
def tyJ7 : Nat → FieldType := fun k => match k with
  | _ => .int
theorem nmJ7 : ∀ a, a < 0 → ∀ b, b < 0 → a ≠ b → (TJ7 a).2.1 ≠ (TJ7 b).2.1 := by decide +kernel
theorem tyJ7_ok : ∀ k, k < 0 → parseFieldDescriptor (TJ7 k).2.2.1 = some (tyJ7 k) := by decide +kernel
abbrev cJ7_fill_53178 : ByteArray := prog_42_method_103_code
def yJ7_fill_53178 : MethodName := ⟨RJ7, "fill", "([II)V"⟩
abbrev cJ7_copyOf_1904c : ByteArray := prog_42_method_119_code
def yJ7_copyOf_1904c : MethodName := ⟨RJ7, "copyOf", "([Ljava/lang/Object;I)[Ljava/lang/Object;"⟩
abbrev cJ7_copyOf_6403c : ByteArray := prog_42_method_120_code
def yJ7_copyOf_6403c : MethodName := ⟨RJ7, "copyOf", "([Ljava/lang/Object;ILjava/lang/Class;)[Ljava/lang/Object;"⟩
abbrev cJ7_copyOf_9075b : ByteArray := prog_42_method_121_code
def yJ7_copyOf_9075b : MethodName := ⟨RJ7, "copyOf", "([BI)[B"⟩
abbrev cJ7_checkLength_df160 : ByteArray := prog_42_method_131_code
def yJ7_checkLength_df160 : MethodName := ⟨RJ7, "checkLength", "(II)V"⟩
abbrev cJ7_copyOfRange_39247 : ByteArray := prog_42_method_132_code
def yJ7_copyOfRange_39247 : MethodName := ⟨RJ7, "copyOfRange", "([BII)[B"⟩
abbrev cJ7_copyOfRangeByte_39247 : ByteArray := prog_42_method_133_code
def yJ7_copyOfRangeByte_39247 : MethodName := ⟨RJ7, "copyOfRangeByte", "([BII)[B"⟩
def RJx5ef63 : String := "java/util/Collection"
def TJx5ef63 : u_T := fun k => match k with
  | _ => ("", "", "", false)
def tyJx5ef63 : Nat → FieldType := fun k => match k with
  | _ => .int
theorem nmJx5ef63 : ∀ a, a < 0 → ∀ b, b < 0 → a ≠ b → (TJx5ef63 a).2.1 ≠ (TJx5ef63 b).2.1 := by decide +kernel
theorem tyJx5ef63_ok : ∀ k, k < 0 → parseFieldDescriptor (TJx5ef63 k).2.2.1 = some (tyJx5ef63 k) := by decide +kernel
def RJx4d0d8 : String := "java/util/Iterator"
def TJx4d0d8 : u_T := fun k => match k with
  | _ => ("", "", "", false)
def tyJx4d0d8 : Nat → FieldType := fun k => match k with
  | _ => .int
theorem nmJx4d0d8 : ∀ a, a < 0 → ∀ b, b < 0 → a ≠ b → (TJx4d0d8 a).2.1 ≠ (TJx4d0d8 b).2.1 := by decide +kernel
theorem tyJx4d0d8_ok : ∀ k, k < 0 → parseFieldDescriptor (TJx4d0d8 k).2.2.1 = some (tyJx4d0d8 k) := by decide +kernel
def RJxbd725 : String := "java/util/List"
def TJxbd725 : u_T := fun k => match k with
  | _ => ("", "", "", false)
def tyJxbd725 : Nat → FieldType := fun k => match k with
  | _ => .int
theorem nmJxbd725 : ∀ a, a < 0 → ∀ b, b < 0 → a ≠ b → (TJxbd725 a).2.1 ≠ (TJxbd725 b).2.1 := by decide +kernel
theorem tyJxbd725_ok : ∀ k, k < 0 → parseFieldDescriptor (TJxbd725 k).2.2.1 = some (tyJxbd725 k) := by decide +kernel
def RJ15 : String := "java/util/Objects"
def TJ15 : u_T := fun k => match k with
  | _ => ("", "", "", false)
def tyJ15 : Nat → FieldType := fun k => match k with
  | _ => .int
theorem nmJ15 : ∀ a, a < 0 → ∀ b, b < 0 → a ≠ b → (TJ15 a).2.1 ≠ (TJ15 b).2.1 := by decide +kernel
theorem tyJ15_ok : ∀ k, k < 0 → parseFieldDescriptor (TJ15 k).2.2.1 = some (tyJ15 k) := by decide +kernel
abbrev cJ15_checkIndex_7cf53 : ByteArray := prog_46_method_17_code
def yJ15_checkIndex_7cf53 : MethodName := ⟨RJ15, "checkIndex", "(II)I"⟩
def RJxf0a74 : String := "java/util/RandomAccess"
def TJxf0a74 : u_T := fun k => match k with
  | _ => ("", "", "", false)
def tyJxf0a74 : Nat → FieldType := fun k => match k with
  | _ => .int
theorem nmJxf0a74 : ∀ a, a < 0 → ∀ b, b < 0 → a ≠ b → (TJxf0a74 a).2.1 ≠ (TJxf0a74 b).2.1 := by decide +kernel
theorem tyJxf0a74_ok : ∀ k, k < 0 → parseFieldDescriptor (TJxf0a74 k).2.2.1 = some (tyJxf0a74 k) := by decide +kernel
def RJxa66e6 : String := "java/util/SequencedCollection"
def TJxa66e6 : u_T := fun k => match k with
  | _ => ("", "", "", false)
def tyJxa66e6 : Nat → FieldType := fun k => match k with
  | _ => .int
theorem nmJxa66e6 : ∀ a, a < 0 → ∀ b, b < 0 → a ≠ b → (TJxa66e6 a).2.1 ≠ (TJxa66e6 b).2.1 := by decide +kernel
theorem tyJxa66e6_ok : ∀ k, k < 0 → parseFieldDescriptor (TJxa66e6 k).2.2.1 = some (tyJxa66e6 k) := by decide +kernel
def RJ8 : String := "jdk/internal/util/ArraysSupport"
def TJ8 : u_T := fun k => match k with
  | _ => ("", "", "", false)
def tyJ8 : Nat → FieldType := fun k => match k with
  | _ => .int
theorem nmJ8 : ∀ a, a < 0 → ∀ b, b < 0 → a ≠ b → (TJ8 a).2.1 ≠ (TJ8 b).2.1 := by decide +kernel
theorem tyJ8_ok : ∀ k, k < 0 → parseFieldDescriptor (TJ8 k).2.2.1 = some (tyJ8 k) := by decide +kernel
abbrev cJ8_newLength_cabcc : ByteArray := prog_49_method_27_code
def yJ8_newLength_cabcc : MethodName := ⟨RJ8, "newLength", "(III)I"⟩
abbrev cJ8_hugeLength_7cf53 : ByteArray := prog_49_method_28_code
def yJ8_hugeLength_7cf53 : MethodName := ⟨RJ8, "hugeLength", "(II)I"⟩
def RJ3 : String := "jdk/internal/util/Preconditions"
def TJ3 : u_T := fun k => match k with
  | _ => ("", "", "", false)
def tyJ3 : Nat → FieldType := fun k => match k with
  | _ => .int
theorem nmJ3 : ∀ a, a < 0 → ∀ b, b < 0 → a ≠ b → (TJ3 a).2.1 ≠ (TJ3 b).2.1 := by decide +kernel
theorem tyJ3_ok : ∀ k, k < 0 → parseFieldDescriptor (TJ3 k).2.2.1 = some (tyJ3 k) := by decide +kernel
abbrev cJ3_checkIndex_8e157 : ByteArray := prog_50_method_11_code
def yJ3_checkIndex_8e157 : MethodName := ⟨RJ3, "checkIndex", "(IILjava/util/function/BiFunction;)I"⟩
abbrev cJ3_checkFromToIndex_8c36e : ByteArray := prog_50_method_12_code
def yJ3_checkFromToIndex_8c36e : MethodName := ⟨RJ3, "checkFromToIndex", "(IIILjava/util/function/BiFunction;)I"⟩
abbrev cJ3_checkFromIndexSize_8c36e : ByteArray := prog_50_method_13_code
def yJ3_checkFromIndexSize_8c36e : MethodName := ⟨RJ3, "checkFromIndexSize", "(IIILjava/util/function/BiFunction;)I"⟩
def RL : String := "PackLoansLaw"
abbrev cL_at : ByteArray := method_2_code
def yL_at : MethodName := ⟨RL, "at", "([II)I"⟩
abbrev cL_load : ByteArray := method_3_code
def yL_load : MethodName := ⟨RL, "load", "(LPackLoans;Ljava/lang/String;)I"⟩
abbrev cL_drawn : ByteArray := method_4_code
def yL_drawn : MethodName := ⟨RL, "drawn", "([IILjava/lang/StringBuilder;)LPackLoansLaw$World;"⟩
abbrev cL_open : ByteArray := method_5_code
def yL_open : MethodName := ⟨RL, "open", "(LPackLoansLaw$World;I)I"⟩
abbrev cL_isSame : ByteArray := method_6_code
def yL_isSame : MethodName := ⟨RL, "isSame", "(LPackLoans;LPackLoansLaw$World;)Z"⟩
abbrev cL_act : ByteArray := method_7_code
def yL_act : MethodName := ⟨RL, "act", "(LPackLoans;[LPackLoansLaw$World;Ljava/util/ArrayList;I)Z"⟩
abbrev cL_isNoPack : ByteArray := method_8_code
def yL_isNoPack : MethodName := ⟨RL, "isNoPack", "(LPackLoans;IIZ)Z"⟩
abbrev cL_isNoLoan : ByteArray := method_9_code
def yL_isNoLoan : MethodName := ⟨RL, "isNoLoan", "(LPackLoans;IIIZ)Z"⟩
abbrev cL_isNoRun : ByteArray := method_10_code
def yL_isNoRun : MethodName := ⟨RL, "isNoRun", "(LPackLoans;I)Z"⟩
abbrev cL_law : ByteArray := code
def yL_law : MethodName := ⟨RL, "law", "([I)Z"⟩
abbrev vwCl : List vw_C := [(RJ0, TJ0, 4), (RJ4, TJ4, 4), (RJx35411, TJx35411, 4), (RJx4a65c, TJx4a65c, 3), (RX0, TX0, 3), (RX1, TX1, 8), (RX2, TX2, 17), (RX3, TX3, 8), (RX4, TX4, 14), (RX5, TX5, 5), (RX6, TX6, 2), (RX7, TX7, 6), (RX8, TX8, 6), (RX9, TX9, 6), (RX10, TX10, 7), (RX11, TX11, 7), (RX12, TX12, 14)]
