def RX0 : String := "SlidePark$1"
def TX0 : u_T := fun k => match k with
  | _ => ("", "", "", false)
def tyX0 : Nat → FieldType := fun k => match k with
  | _ => .int
theorem nmX0 : ∀ a, a < 0 → ∀ b, b < 0 → a ≠ b → (TX0 a).2.1 ≠ (TX0 b).2.1 := by decide +kernel
theorem tyX0_ok : ∀ k, k < 0 → parseFieldDescriptor (TX0 k).2.2.1 = some (tyX0 k) := by decide +kernel
def RX1 : String := "SlidePark$Bookings"
def TX1 : u_T := fun k => match k with
  | 0 => ("SlidePark$Bookings", "count", "I", false)
  | 1 => ("SlidePark$Bookings", "guests", "[I", true)
  | 2 => ("SlidePark$Bookings", "slides", "[I", true)
  | 3 => ("SlidePark$Bookings", "starts", "[I", true)
  | _ => ("SlidePark$Bookings", "ends", "[I", true)
def tyX1 : Nat → FieldType := fun k => match k with
  | 0 => .int
  | 1 => .array .int
  | 2 => .array .int
  | 3 => .array .int
  | _ => .array .int
theorem nmX1 : ∀ a, a < 5 → ∀ b, b < 5 → a ≠ b → (TX1 a).2.1 ≠ (TX1 b).2.1 := by decide +kernel
theorem tyX1_ok : ∀ k, k < 5 → parseFieldDescriptor (TX1 k).2.2.1 = some (tyX1 k) := by decide +kernel
abbrev cX1_init : ByteArray := prog_3_method_1_code
def yX1_init : MethodName := ⟨RX1, "<init>", "()V"⟩
abbrev cX1_copyFrom : ByteArray := prog_3_method_2_code
def yX1_copyFrom : MethodName := ⟨RX1, "copyFrom", "(LSlidePark$Bookings;)V"⟩
abbrev cX1_has : ByteArray := prog_3_method_3_code
def yX1_has : MethodName := ⟨RX1, "has", "(I)Z"⟩
abbrev cX1_isFull : ByteArray := prog_3_method_4_code
def yX1_isFull : MethodName := ⟨RX1, "isFull", "()Z"⟩
abbrev cX1_append : ByteArray := prog_3_method_5_code
def yX1_append : MethodName := ⟨RX1, "append", "(IIII)I"⟩
abbrev cX1_remove : ByteArray := prog_3_method_6_code
def yX1_remove : MethodName := ⟨RX1, "remove", "(I)V"⟩
abbrev cX1_isSlideFree : ByteArray := prog_3_method_7_code
def yX1_isSlideFree : MethodName := ⟨RX1, "isSlideFree", "(III)Z"⟩
abbrev cX1_areFree : ByteArray := prog_3_method_8_code
def yX1_areFree : MethodName := ⟨RX1, "areFree", "(IIII)Z"⟩
abbrev cX1_meets : ByteArray := prog_3_method_9_code
def yX1_meets : MethodName := ⟨RX1, "meets", "(III)Z"⟩
abbrev cX1_takesPlaceAt : ByteArray := prog_3_method_10_code
def yX1_takesPlaceAt : MethodName := ⟨RX1, "takesPlaceAt", "(II)Z"⟩
abbrev cX1_onSlideAt : ByteArray := prog_3_method_11_code
def yX1_onSlideAt : MethodName := ⟨RX1, "onSlideAt", "(II)I"⟩
abbrev cX1_nextOnSlide : ByteArray := prog_3_method_12_code
def yX1_nextOnSlide : MethodName := ⟨RX1, "nextOnSlide", "(II)I"⟩
abbrev cX1_rankByStart : ByteArray := prog_3_method_13_code
def yX1_rankByStart : MethodName := ⟨RX1, "rankByStart", "(I)I"⟩
abbrev cX1_watchedByEarliestEnd : ByteArray := prog_3_method_14_code
def yX1_watchedByEarliestEnd : MethodName := ⟨RX1, "watchedByEarliestEnd", "()I"⟩
abbrev cX1_earliestEndFrom : ByteArray := prog_3_method_15_code
def yX1_earliestEndFrom : MethodName := ⟨RX1, "earliestEndFrom", "(I)I"⟩
abbrev cX1_atOnceByStarts : ByteArray := prog_3_method_16_code
def yX1_atOnceByStarts : MethodName := ⟨RX1, "atOnceByStarts", "()I"⟩
abbrev cX1_atOnceBySweeping : ByteArray := prog_3_method_17_code
def yX1_atOnceBySweeping : MethodName := ⟨RX1, "atOnceBySweeping", "()I"⟩
abbrev cX1_nextStartOrEnd : ByteArray := prog_3_method_18_code
def yX1_nextStartOrEnd : MethodName := ⟨RX1, "nextStartOrEnd", "(I)I"⟩
abbrev cX1_startsLessEndsAt : ByteArray := prog_3_method_19_code
def yX1_startsLessEndsAt : MethodName := ⟨RX1, "startsLessEndsAt", "(I)I"⟩
def RX2 : String := "SlidePark$ChainTable"
def TX2 : u_T := fun k => match k with
  | 0 => ("SlidePark$ChainTable", "order", "[I", true)
  | _ => ("SlidePark$ChainTable", "longest", "[I", true)
def tyX2 : Nat → FieldType := fun k => match k with
  | 0 => .array .int
  | _ => .array .int
theorem nmX2 : ∀ a, a < 2 → ∀ b, b < 2 → a ≠ b → (TX2 a).2.1 ≠ (TX2 b).2.1 := by decide +kernel
theorem tyX2_ok : ∀ k, k < 2 → parseFieldDescriptor (TX2 k).2.2.1 = some (tyX2 k) := by decide +kernel
abbrev cX2_init : ByteArray := prog_4_method_1_code
def yX2_init : MethodName := ⟨RX2, "<init>", "()V"⟩
abbrev cX2_longestChain : ByteArray := prog_4_method_2_code
def yX2_longestChain : MethodName := ⟨RX2, "longestChain", "(LSlidePark$Bookings;)I"⟩
abbrev cX2_longestBefore : ByteArray := prog_4_method_3_code
def yX2_longestBefore : MethodName := ⟨RX2, "longestBefore", "(LSlidePark$Bookings;I)I"⟩
def RX3 : String := "SlidePark$Command"
def TX3 : u_T := fun k => match k with
  | _ => ("", "", "", false)
def tyX3 : Nat → FieldType := fun k => match k with
  | _ => .int
theorem nmX3 : ∀ a, a < 0 → ∀ b, b < 0 → a ≠ b → (TX3 a).2.1 ≠ (TX3 b).2.1 := by decide +kernel
theorem tyX3_ok : ∀ k, k < 0 → parseFieldDescriptor (TX3 k).2.2.1 = some (tyX3 k) := by decide +kernel
def RX4 : String := "SlidePark$CommandText"
def TX4 : u_T := fun k => match k with
  | 0 => ("SlidePark$CommandText", "signs", "[C", true)
  | 1 => ("SlidePark$CommandText", "length", "I", false)
  | 2 => ("SlidePark$CommandText", "place", "I", false)
  | _ => ("SlidePark$CommandText", "numbers", "[I", true)
def tyX4 : Nat → FieldType := fun k => match k with
  | 0 => .array .char
  | 1 => .int
  | 2 => .int
  | _ => .array .int
theorem nmX4 : ∀ a, a < 4 → ∀ b, b < 4 → a ≠ b → (TX4 a).2.1 ≠ (TX4 b).2.1 := by decide +kernel
theorem tyX4_ok : ∀ k, k < 4 → parseFieldDescriptor (TX4 k).2.2.1 = some (tyX4 k) := by decide +kernel
abbrev cX4_init : ByteArray := prog_6_method_1_code
def yX4_init : MethodName := ⟨RX4, "<init>", "()V"⟩
abbrev cX4_append : ByteArray := prog_6_method_2_code
def yX4_append : MethodName := ⟨RX4, "append", "(C)V"⟩
abbrev cX4_empty : ByteArray := prog_6_method_3_code
def yX4_empty : MethodName := ⟨RX4, "empty", "()V"⟩
abbrev cX4_rewind : ByteArray := prog_6_method_4_code
def yX4_rewind : MethodName := ⟨RX4, "rewind", "()V"⟩
abbrev cX4_countCommands : ByteArray := prog_6_method_5_code
def yX4_countCommands : MethodName := ⟨RX4, "countCommands", "()I"⟩
abbrev cX4_readCommand : ByteArray := prog_6_method_6_code
def yX4_readCommand : MethodName := ⟨RX4, "readCommand", "(I)LSlidePark$Command;"⟩
abbrev cX4_isNext : ByteArray := prog_6_method_7_code
def yX4_isNext : MethodName := ⟨RX4, "isNext", "(C)Z"⟩
abbrev cX4_takeSign : ByteArray := prog_6_method_8_code
def yX4_takeSign : MethodName := ⟨RX4, "takeSign", "(C)Z"⟩
abbrev cX4_takeKeyword : ByteArray := prog_6_method_9_code
def yX4_takeKeyword : MethodName := ⟨RX4, "takeKeyword", "()LSlidePark$Command;"⟩
abbrev cX4_lettersInCommon : ByteArray := prog_6_method_10_code
def yX4_lettersInCommon : MethodName := ⟨RX4, "lettersInCommon", "(Ljava/lang/String;)I"⟩
abbrev cX4_takeNumbers : ByteArray := prog_6_method_11_code
def yX4_takeNumbers : MethodName := ⟨RX4, "takeNumbers", "(LSlidePark$Command;)Z"⟩
abbrev cX4_takeNumber : ByteArray := prog_6_method_12_code
def yX4_takeNumber : MethodName := ⟨RX4, "takeNumber", "(II)Z"⟩
abbrev cX4_isDigitNext : ByteArray := prog_6_method_13_code
def yX4_isDigitNext : MethodName := ⟨RX4, "isDigitNext", "()Z"⟩
def RX5 : String := "SlidePark$Finishes"
def TX5 : u_T := fun k => match k with
  | 0 => ("SlidePark$Finishes", "count", "I", false)
  | 1 => ("SlidePark$Finishes", "guests", "[I", true)
  | 2 => ("SlidePark$Finishes", "slides", "[I", true)
  | _ => ("SlidePark$Finishes", "minutes", "[I", true)
def tyX5 : Nat → FieldType := fun k => match k with
  | 0 => .int
  | 1 => .array .int
  | 2 => .array .int
  | _ => .array .int
theorem nmX5 : ∀ a, a < 4 → ∀ b, b < 4 → a ≠ b → (TX5 a).2.1 ≠ (TX5 b).2.1 := by decide +kernel
theorem tyX5_ok : ∀ k, k < 4 → parseFieldDescriptor (TX5 k).2.2.1 = some (tyX5 k) := by decide +kernel
abbrev cX5_init : ByteArray := prog_7_method_1_code
def yX5_init : MethodName := ⟨RX5, "<init>", "()V"⟩
abbrev cX5_copyFrom : ByteArray := prog_7_method_2_code
def yX5_copyFrom : MethodName := ⟨RX5, "copyFrom", "(LSlidePark$Finishes;)V"⟩
abbrev cX5_rowOf : ByteArray := prog_7_method_3_code
def yX5_rowOf : MethodName := ⟨RX5, "rowOf", "(I)I"⟩
abbrev cX5_append : ByteArray := prog_7_method_4_code
def yX5_append : MethodName := ⟨RX5, "append", "(III)V"⟩
abbrev cX5_equalPairs : ByteArray := prog_7_method_5_code
def yX5_equalPairs : MethodName := ⟨RX5, "equalPairs", "()I"⟩
abbrev cX5_equalPairsFromRuns : ByteArray := prog_7_method_6_code
def yX5_equalPairsFromRuns : MethodName := ⟨RX5, "equalPairsFromRuns", "()I"⟩
def RX6 : String := "SlidePark$Guests"
def TX6 : u_T := fun k => match k with
  | 0 => ("SlidePark$Guests", "count", "I", false)
  | 1 => ("SlidePark$Guests", "purses", "[I", true)
  | _ => ("SlidePark$Guests", "ridden", "[I", true)
def tyX6 : Nat → FieldType := fun k => match k with
  | 0 => .int
  | 1 => .array .int
  | _ => .array .int
theorem nmX6 : ∀ a, a < 3 → ∀ b, b < 3 → a ≠ b → (TX6 a).2.1 ≠ (TX6 b).2.1 := by decide +kernel
theorem tyX6_ok : ∀ k, k < 3 → parseFieldDescriptor (TX6 k).2.2.1 = some (tyX6 k) := by decide +kernel
abbrev cX6_init : ByteArray := prog_8_method_1_code
def yX6_init : MethodName := ⟨RX6, "<init>", "()V"⟩
abbrev cX6_copyFrom : ByteArray := prog_8_method_2_code
def yX6_copyFrom : MethodName := ⟨RX6, "copyFrom", "(LSlidePark$Guests;)V"⟩
abbrev cX6_has : ByteArray := prog_8_method_3_code
def yX6_has : MethodName := ⟨RX6, "has", "(I)Z"⟩
abbrev cX6_append : ByteArray := prog_8_method_4_code
def yX6_append : MethodName := ⟨RX6, "append", "()I"⟩
abbrev cX6_allCoins : ByteArray := prog_8_method_5_code
def yX6_allCoins : MethodName := ⟨RX6, "allCoins", "()I"⟩
abbrev cX6_rankByRidden : ByteArray := prog_8_method_6_code
def yX6_rankByRidden : MethodName := ⟨RX6, "rankByRidden", "(I)I"⟩
abbrev cX6_isBefore : ByteArray := prog_8_method_7_code
def yX6_isBefore : MethodName := ⟨RX6, "isBefore", "(II)Z"⟩
def RX7 : String := "SlidePark$History"
def TX7 : u_T := fun k => match k with
  | 0 => ("SlidePark$History", "rows", "[LSlidePark$Office;", true)
  | 1 => ("SlidePark$History", "next", "I", false)
  | _ => ("SlidePark$History", "count", "I", false)
def tyX7 : Nat → FieldType := fun k => match k with
  | 0 => .array (.object "SlidePark$Office")
  | 1 => .int
  | _ => .int
theorem nmX7 : ∀ a, a < 3 → ∀ b, b < 3 → a ≠ b → (TX7 a).2.1 ≠ (TX7 b).2.1 := by decide +kernel
theorem tyX7_ok : ∀ k, k < 3 → parseFieldDescriptor (TX7 k).2.2.1 = some (tyX7 k) := by decide +kernel
abbrev cX7_init : ByteArray := prog_9_method_1_code
def yX7_init : MethodName := ⟨RX7, "<init>", "()V"⟩
abbrev cX7_prepare : ByteArray := prog_9_method_2_code
def yX7_prepare : MethodName := ⟨RX7, "prepare", "(LSlidePark$Office;)V"⟩
abbrev cX7_dropChanges : ByteArray := prog_9_method_3_code
def yX7_dropChanges : MethodName := ⟨RX7, "dropChanges", "(LSlidePark$Office;)V"⟩
abbrev cX7_keep : ByteArray := prog_9_method_4_code
def yX7_keep : MethodName := ⟨RX7, "keep", "()V"⟩
abbrev cX7_takeBack : ByteArray := prog_9_method_5_code
def yX7_takeBack : MethodName := ⟨RX7, "takeBack", "(LSlidePark$Office;)V"⟩
def RX8 : String := "SlidePark$Office"
def TX8 : u_T := fun k => match k with
  | 0 => ("SlidePark$Office", "now", "I", false)
  | 1 => ("SlidePark$Office", "till", "I", false)
  | 2 => ("SlidePark$Office", "paidBack", "I", false)
  | 3 => ("SlidePark$Office", "splashCount", "I", false)
  | 4 => ("SlidePark$Office", "slides", "LSlidePark$Slides;", true)
  | 5 => ("SlidePark$Office", "guests", "LSlidePark$Guests;", true)
  | 6 => ("SlidePark$Office", "bookings", "LSlidePark$Bookings;", true)
  | 7 => ("SlidePark$Office", "queues", "LSlidePark$Queues;", true)
  | _ => ("SlidePark$Office", "finishes", "LSlidePark$Finishes;", true)
def tyX8 : Nat → FieldType := fun k => match k with
  | 0 => .int
  | 1 => .int
  | 2 => .int
  | 3 => .int
  | 4 => .object "SlidePark$Slides"
  | 5 => .object "SlidePark$Guests"
  | 6 => .object "SlidePark$Bookings"
  | 7 => .object "SlidePark$Queues"
  | _ => .object "SlidePark$Finishes"
theorem nmX8 : ∀ a, a < 9 → ∀ b, b < 9 → a ≠ b → (TX8 a).2.1 ≠ (TX8 b).2.1 := by decide +kernel
theorem tyX8_ok : ∀ k, k < 9 → parseFieldDescriptor (TX8 k).2.2.1 = some (tyX8 k) := by decide +kernel
abbrev cX8_init : ByteArray := prog_10_method_1_code
def yX8_init : MethodName := ⟨RX8, "<init>", "()V"⟩
abbrev cX8_copyFrom : ByteArray := prog_10_method_2_code
def yX8_copyFrom : MethodName := ⟨RX8, "copyFrom", "(LSlidePark$Office;)V"⟩
abbrev cX8_tryBuild : ByteArray := prog_10_method_3_code
def yX8_tryBuild : MethodName := ⟨RX8, "tryBuild", "(II)I"⟩
abbrev cX8_tryGuest : ByteArray := prog_10_method_4_code
def yX8_tryGuest : MethodName := ⟨RX8, "tryGuest", "()I"⟩
abbrev cX8_tryBook : ByteArray := prog_10_method_5_code
def yX8_tryBook : MethodName := ⟨RX8, "tryBook", "(III)I"⟩
abbrev cX8_tryCancel : ByteArray := prog_10_method_6_code
def yX8_tryCancel : MethodName := ⟨RX8, "tryCancel", "(I)I"⟩
abbrev cX8_tryQueue : ByteArray := prog_10_method_7_code
def yX8_tryQueue : MethodName := ⟨RX8, "tryQueue", "(II)I"⟩
abbrev cX8_tryLeave : ByteArray := prog_10_method_8_code
def yX8_tryLeave : MethodName := ⟨RX8, "tryLeave", "(I)I"⟩
abbrev cX8_tryWait : ByteArray := prog_10_method_9_code
def yX8_tryWait : MethodName := ⟨RX8, "tryWait", "(I)I"⟩
abbrev cX8_isBookable : ByteArray := prog_10_method_10_code
def yX8_isBookable : MethodName := ⟨RX8, "isBookable", "(I)Z"⟩
abbrev cX8_isSlideFree : ByteArray := prog_10_method_11_code
def yX8_isSlideFree : MethodName := ⟨RX8, "isSlideFree", "(II)Z"⟩
abbrev cX8_endFrom : ByteArray := prog_10_method_12_code
def yX8_endFrom : MethodName := ⟨RX8, "endFrom", "(II)I"⟩
abbrev cX8_sellBooking : ByteArray := prog_10_method_13_code
def yX8_sellBooking : MethodName := ⟨RX8, "sellBooking", "(III)I"⟩
abbrev cX8_payBack : ByteArray := prog_10_method_14_code
def yX8_payBack : MethodName := ⟨RX8, "payBack", "(II)V"⟩
abbrev cX8_passOneMinute : ByteArray := prog_10_method_15_code
def yX8_passOneMinute : MethodName := ⟨RX8, "passOneMinute", "()I"⟩
abbrev cX8_serveQueue : ByteArray := prog_10_method_16_code
def yX8_serveQueue : MethodName := ⟨RX8, "serveQueue", "(I)V"⟩
abbrev cX8_finishBookings : ByteArray := prog_10_method_17_code
def yX8_finishBookings : MethodName := ⟨RX8, "finishBookings", "()I"⟩
abbrev cX8_finishBooking : ByteArray := prog_10_method_18_code
def yX8_finishBooking : MethodName := ⟨RX8, "finishBooking", "(I)V"⟩
abbrev cX8_freeMinuteByTrying : ByteArray := prog_10_method_19_code
def yX8_freeMinuteByTrying : MethodName := ⟨RX8, "freeMinuteByTrying", "(II)I"⟩
abbrev cX8_freeMinuteByGaps : ByteArray := prog_10_method_20_code
def yX8_freeMinuteByGaps : MethodName := ⟨RX8, "freeMinuteByGaps", "(II)I"⟩
abbrev cX8_busySlides : ByteArray := prog_10_method_21_code
def yX8_busySlides : MethodName := ⟨RX8, "busySlides", "()I"⟩
def RX9 : String := "SlidePark$Queues"
def TX9 : u_T := fun k => match k with
  | 0 => ("SlidePark$Queues", "lengths", "[I", true)
  | _ => ("SlidePark$Queues", "guests", "[I", true)
def tyX9 : Nat → FieldType := fun k => match k with
  | 0 => .array .int
  | _ => .array .int
theorem nmX9 : ∀ a, a < 2 → ∀ b, b < 2 → a ≠ b → (TX9 a).2.1 ≠ (TX9 b).2.1 := by decide +kernel
theorem tyX9_ok : ∀ k, k < 2 → parseFieldDescriptor (TX9 k).2.2.1 = some (tyX9 k) := by decide +kernel
abbrev cX9_init : ByteArray := prog_11_method_1_code
def yX9_init : MethodName := ⟨RX9, "<init>", "()V"⟩
abbrev cX9_copyFrom : ByteArray := prog_11_method_2_code
def yX9_copyFrom : MethodName := ⟨RX9, "copyFrom", "(LSlidePark$Queues;)V"⟩
abbrev cX9_isFull : ByteArray := prog_11_method_3_code
def yX9_isFull : MethodName := ⟨RX9, "isFull", "(I)Z"⟩
abbrev cX9_guestAt : ByteArray := prog_11_method_4_code
def yX9_guestAt : MethodName := ⟨RX9, "guestAt", "(II)I"⟩
abbrev cX9_slideOf : ByteArray := prog_11_method_5_code
def yX9_slideOf : MethodName := ⟨RX9, "slideOf", "(I)I"⟩
abbrev cX9_append : ByteArray := prog_11_method_6_code
def yX9_append : MethodName := ⟨RX9, "append", "(II)V"⟩
abbrev cX9_remove : ByteArray := prog_11_method_7_code
def yX9_remove : MethodName := ⟨RX9, "remove", "(II)V"⟩
def RX10 : String := "SlidePark$Slides"
def TX10 : u_T := fun k => match k with
  | 0 => ("SlidePark$Slides", "count", "I", false)
  | 1 => ("SlidePark$Slides", "durations", "[I", true)
  | 2 => ("SlidePark$Slides", "prices", "[I", true)
  | _ => ("SlidePark$Slides", "wetnesses", "[I", true)
def tyX10 : Nat → FieldType := fun k => match k with
  | 0 => .int
  | 1 => .array .int
  | 2 => .array .int
  | _ => .array .int
theorem nmX10 : ∀ a, a < 4 → ∀ b, b < 4 → a ≠ b → (TX10 a).2.1 ≠ (TX10 b).2.1 := by decide +kernel
theorem tyX10_ok : ∀ k, k < 4 → parseFieldDescriptor (TX10 k).2.2.1 = some (tyX10 k) := by decide +kernel
abbrev cX10_init : ByteArray := prog_12_method_1_code
def yX10_init : MethodName := ⟨RX10, "<init>", "()V"⟩
abbrev cX10_copyFrom : ByteArray := prog_12_method_2_code
def yX10_copyFrom : MethodName := ⟨RX10, "copyFrom", "(LSlidePark$Slides;)V"⟩
abbrev cX10_has : ByteArray := prog_12_method_3_code
def yX10_has : MethodName := ⟨RX10, "has", "(I)Z"⟩
abbrev cX10_append : ByteArray := prog_12_method_4_code
def yX10_append : MethodName := ⟨RX10, "append", "(II)I"⟩
abbrev cX10_dry : ByteArray := prog_12_method_5_code
def yX10_dry : MethodName := ⟨RX10, "dry", "(I)V"⟩
abbrev cX10_wet : ByteArray := prog_12_method_6_code
def yX10_wet : MethodName := ⟨RX10, "wet", "(I)V"⟩
abbrev cX10_rankByWetness : ByteArray := prog_12_method_7_code
def yX10_rankByWetness : MethodName := ⟨RX10, "rankByWetness", "(I)I"⟩
def RX11 : String := "SlidePark"
def TX11 : u_T := fun k => match k with
  | 0 => ("SlidePark", "office", "LSlidePark$Office;", true)
  | 1 => ("SlidePark", "saved", "LSlidePark$Office;", true)
  | 2 => ("SlidePark", "isSaved", "Z", false)
  | 3 => ("SlidePark", "history", "LSlidePark$History;", true)
  | 4 => ("SlidePark", "chains", "LSlidePark$ChainTable;", true)
  | 5 => ("SlidePark", "text", "LSlidePark$CommandText;", true)
  | 6 => ("SlidePark", "output", "Ljava/lang/StringBuilder;", true)
  | 7 => ("SlidePark", "latestError", "I", false)
  | _ => ("SlidePark", "latestFailure", "I", false)
def tyX11 : Nat → FieldType := fun k => match k with
  | 0 => .object "SlidePark$Office"
  | 1 => .object "SlidePark$Office"
  | 2 => .boolean
  | 3 => .object "SlidePark$History"
  | 4 => .object "SlidePark$ChainTable"
  | 5 => .object "SlidePark$CommandText"
  | 6 => .object "java/lang/StringBuilder"
  | 7 => .int
  | _ => .int
theorem nmX11 : ∀ a, a < 9 → ∀ b, b < 9 → a ≠ b → (TX11 a).2.1 ≠ (TX11 b).2.1 := by decide +kernel
theorem tyX11_ok : ∀ k, k < 9 → parseFieldDescriptor (TX11 k).2.2.1 = some (tyX11 k) := by decide +kernel
abbrev cX11_init : ByteArray := prog_1_method_1_code
def yX11_init : MethodName := ⟨RX11, "<init>", "()V"⟩
abbrev cX11_buildSlide : ByteArray := prog_1_method_2_code
def yX11_buildSlide : MethodName := ⟨RX11, "buildSlide", "(II)I"⟩
abbrev cX11_addGuest : ByteArray := prog_1_method_3_code
def yX11_addGuest : MethodName := ⟨RX11, "addGuest", "()I"⟩
abbrev cX11_book : ByteArray := prog_1_method_4_code
def yX11_book : MethodName := ⟨RX11, "book", "(III)I"⟩
abbrev cX11_cancel : ByteArray := prog_1_method_5_code
def yX11_cancel : MethodName := ⟨RX11, "cancel", "(I)I"⟩
abbrev cX11_joinQueue : ByteArray := prog_1_method_6_code
def yX11_joinQueue : MethodName := ⟨RX11, "joinQueue", "(II)I"⟩
abbrev cX11_leaveQueue : ByteArray := prog_1_method_7_code
def yX11_leaveQueue : MethodName := ⟨RX11, "leaveQueue", "(I)I"⟩
abbrev cX11_passMinutes : ByteArray := prog_1_method_8_code
def yX11_passMinutes : MethodName := ⟨RX11, "passMinutes", "(I)I"⟩
abbrev cX11_minute : ByteArray := prog_1_method_9_code
def yX11_minute : MethodName := ⟨RX11, "minute", "()I"⟩
abbrev cX11_slideCount : ByteArray := prog_1_method_10_code
def yX11_slideCount : MethodName := ⟨RX11, "slideCount", "()I"⟩
abbrev cX11_duration : ByteArray := prog_1_method_11_code
def yX11_duration : MethodName := ⟨RX11, "duration", "(I)I"⟩
abbrev cX11_price : ByteArray := prog_1_method_12_code
def yX11_price : MethodName := ⟨RX11, "price", "(I)I"⟩
abbrev cX11_wetness : ByteArray := prog_1_method_13_code
def yX11_wetness : MethodName := ⟨RX11, "wetness", "(I)I"⟩
abbrev cX11_rider : ByteArray := prog_1_method_14_code
def yX11_rider : MethodName := ⟨RX11, "rider", "(I)I"⟩
abbrev cX11_guestCount : ByteArray := prog_1_method_15_code
def yX11_guestCount : MethodName := ⟨RX11, "guestCount", "()I"⟩
abbrev cX11_coins : ByteArray := prog_1_method_16_code
def yX11_coins : MethodName := ⟨RX11, "coins", "(I)I"⟩
abbrev cX11_queueOf : ByteArray := prog_1_method_17_code
def yX11_queueOf : MethodName := ⟨RX11, "queueOf", "(I)I"⟩
abbrev cX11_queueLength : ByteArray := prog_1_method_18_code
def yX11_queueLength : MethodName := ⟨RX11, "queueLength", "(I)I"⟩
abbrev cX11_queuedGuest : ByteArray := prog_1_method_19_code
def yX11_queuedGuest : MethodName := ⟨RX11, "queuedGuest", "(II)I"⟩
abbrev cX11_bookingCount : ByteArray := prog_1_method_20_code
def yX11_bookingCount : MethodName := ⟨RX11, "bookingCount", "()I"⟩
abbrev cX11_bookedGuest : ByteArray := prog_1_method_21_code
def yX11_bookedGuest : MethodName := ⟨RX11, "bookedGuest", "(I)I"⟩
abbrev cX11_bookedSlide : ByteArray := prog_1_method_22_code
def yX11_bookedSlide : MethodName := ⟨RX11, "bookedSlide", "(I)I"⟩
abbrev cX11_start : ByteArray := prog_1_method_23_code
def yX11_start : MethodName := ⟨RX11, "start", "(I)I"⟩
abbrev cX11_hasStarted : ByteArray := prog_1_method_24_code
def yX11_hasStarted : MethodName := ⟨RX11, "hasStarted", "(I)Z"⟩
abbrev cX11_bookingByStart : ByteArray := prog_1_method_25_code
def yX11_bookingByStart : MethodName := ⟨RX11, "bookingByStart", "(I)I"⟩
abbrev cX11_isFree : ByteArray := prog_1_method_26_code
def yX11_isFree : MethodName := ⟨RX11, "isFree", "(II)Z"⟩
abbrev cX11_firstFree : ByteArray := prog_1_method_27_code
def yX11_firstFree : MethodName := ⟨RX11, "firstFree", "(II)I"⟩
abbrev cX11_firstFreeByGaps : ByteArray := prog_1_method_28_code
def yX11_firstFreeByGaps : MethodName := ⟨RX11, "firstFreeByGaps", "(II)I"⟩
abbrev cX11_mostWatched : ByteArray := prog_1_method_29_code
def yX11_mostWatched : MethodName := ⟨RX11, "mostWatched", "()I"⟩
abbrev cX11_mostWatchedByTable : ByteArray := prog_1_method_30_code
def yX11_mostWatchedByTable : MethodName := ⟨RX11, "mostWatchedByTable", "()I"⟩
abbrev cX11_mostAtOnce : ByteArray := prog_1_method_31_code
def yX11_mostAtOnce : MethodName := ⟨RX11, "mostAtOnce", "()I"⟩
abbrev cX11_mostAtOnceBySweep : ByteArray := prog_1_method_32_code
def yX11_mostAtOnceBySweep : MethodName := ⟨RX11, "mostAtOnceBySweep", "()I"⟩
abbrev cX11_finishCount : ByteArray := prog_1_method_33_code
def yX11_finishCount : MethodName := ⟨RX11, "finishCount", "()I"⟩
abbrev cX11_finishedGuest : ByteArray := prog_1_method_34_code
def yX11_finishedGuest : MethodName := ⟨RX11, "finishedGuest", "(I)I"⟩
abbrev cX11_finishedSlide : ByteArray := prog_1_method_35_code
def yX11_finishedSlide : MethodName := ⟨RX11, "finishedSlide", "(I)I"⟩
abbrev cX11_finishMinute : ByteArray := prog_1_method_36_code
def yX11_finishMinute : MethodName := ⟨RX11, "finishMinute", "(I)I"⟩
abbrev cX11_photoFinishes : ByteArray := prog_1_method_37_code
def yX11_photoFinishes : MethodName := ⟨RX11, "photoFinishes", "()I"⟩
abbrev cX11_photoFinishesByRuns : ByteArray := prog_1_method_38_code
def yX11_photoFinishesByRuns : MethodName := ⟨RX11, "photoFinishesByRuns", "()I"⟩
abbrev cX11_splashes : ByteArray := prog_1_method_39_code
def yX11_splashes : MethodName := ⟨RX11, "splashes", "()I"⟩
abbrev cX11_refundedCoins : ByteArray := prog_1_method_40_code
def yX11_refundedCoins : MethodName := ⟨RX11, "refundedCoins", "()I"⟩
abbrev cX11_officeCoins : ByteArray := prog_1_method_41_code
def yX11_officeCoins : MethodName := ⟨RX11, "officeCoins", "()I"⟩
abbrev cX11_rides : ByteArray := prog_1_method_42_code
def yX11_rides : MethodName := ⟨RX11, "rides", "(I)I"⟩
abbrev cX11_guestByRides : ByteArray := prog_1_method_43_code
def yX11_guestByRides : MethodName := ⟨RX11, "guestByRides", "(I)I"⟩
abbrev cX11_slideByWetness : ByteArray := prog_1_method_44_code
def yX11_slideByWetness : MethodName := ⟨RX11, "slideByWetness", "(I)I"⟩
abbrev cX11_meanCoins : ByteArray := prog_1_method_45_code
def yX11_meanCoins : MethodName := ⟨RX11, "meanCoins", "()D"⟩
abbrev cX11_busyShare : ByteArray := prog_1_method_46_code
def yX11_busyShare : MethodName := ⟨RX11, "busyShare", "()F"⟩
abbrev cX11_isConsistent : ByteArray := prog_1_method_47_code
def yX11_isConsistent : MethodName := ⟨RX11, "isConsistent", "()Z"⟩
abbrev cX11_feed : ByteArray := prog_1_method_48_code
def yX11_feed : MethodName := ⟨RX11, "feed", "(C)I"⟩
abbrev cX11_runCommands : ByteArray := prog_1_method_49_code
def yX11_runCommands : MethodName := ⟨RX11, "runCommands", "()I"⟩
abbrev cX11_writeSlide : ByteArray := prog_1_method_52_code
def yX11_writeSlide : MethodName := ⟨RX11, "writeSlide", "(I)I"⟩
abbrev cX11_outputChar : ByteArray := prog_1_method_53_code
def yX11_outputChar : MethodName := ⟨RX11, "outputChar", "(I)C"⟩
abbrev cX11_undoCount : ByteArray := prog_1_method_54_code
def yX11_undoCount : MethodName := ⟨RX11, "undoCount", "()I"⟩
abbrev cX11_undo : ByteArray := prog_1_method_55_code
def yX11_undo : MethodName := ⟨RX11, "undo", "()I"⟩
abbrev cX11_recorded : ByteArray := prog_1_method_58_code
def yX11_recorded : MethodName := ⟨RX11, "recorded", "(I)I"⟩
abbrev cX11_refuse : ByteArray := prog_1_method_59_code
def yX11_refuse : MethodName := ⟨RX11, "refuse", "(I)V"⟩
abbrev cX11_checkSlide : ByteArray := prog_1_method_60_code
def yX11_checkSlide : MethodName := ⟨RX11, "checkSlide", "(I)V"⟩
abbrev cX11_checkGuest : ByteArray := prog_1_method_61_code
def yX11_checkGuest : MethodName := ⟨RX11, "checkGuest", "(I)V"⟩
abbrev cX11_checkBooking : ByteArray := prog_1_method_62_code
def yX11_checkBooking : MethodName := ⟨RX11, "checkBooking", "(I)V"⟩
abbrev cX11_checkBookableMinute : ByteArray := prog_1_method_63_code
def yX11_checkBookableMinute : MethodName := ⟨RX11, "checkBookableMinute", "(I)V"⟩
abbrev cX11_checkFinish : ByteArray := prog_1_method_64_code
def yX11_checkFinish : MethodName := ⟨RX11, "checkFinish", "(I)V"⟩
abbrev cX11_found : ByteArray := prog_1_method_65_code
def yX11_found : MethodName := ⟨RX11, "found", "(I)I"⟩
abbrev cX11_perform : ByteArray := prog_1_method_66_code
def yX11_perform : MethodName := ⟨RX11, "perform", "(LSlidePark$Command;)I"⟩
abbrev cX11_writeBookings : ByteArray := prog_1_method_67_code
def yX11_writeBookings : MethodName := ⟨RX11, "writeBookings", "(I)V"⟩
def RX12 : String := "SlideParkModel"
def TX12 : u_T := fun k => match k with
  | _ => ("", "", "", false)
def tyX12 : Nat → FieldType := fun k => match k with
  | _ => .int
theorem nmX12 : ∀ a, a < 0 → ∀ b, b < 0 → a ≠ b → (TX12 a).2.1 ≠ (TX12 b).2.1 := by decide +kernel
theorem tyX12_ok : ∀ k, k < 0 → parseFieldDescriptor (TX12 k).2.2.1 = some (tyX12 k) := by decide +kernel
def RJx145de : String := "java/io/Serializable"
def TJx145de : u_T := fun k => match k with
  | _ => ("", "", "", false)
def tyJx145de : Nat → FieldType := fun k => match k with
  | _ => .int
theorem nmJx145de : ∀ a, a < 0 → ∀ b, b < 0 → a ≠ b → (TJx145de a).2.1 ≠ (TJx145de b).2.1 := by decide +kernel
theorem tyJx145de_ok : ∀ k, k < 0 → parseFieldDescriptor (TJx145de k).2.2.1 = some (tyJx145de k) := by decide +kernel
def RJ5 : String := "java/lang/AbstractStringBuilder"
def TJ5 : u_T := fun k => match k with
  | _ => ("", "", "", false)
def tyJ5 : Nat → FieldType := fun k => match k with
  | _ => .int
theorem nmJ5 : ∀ a, a < 0 → ∀ b, b < 0 → a ≠ b → (TJ5 a).2.1 ≠ (TJ5 b).2.1 := by decide +kernel
theorem tyJ5_ok : ∀ k, k < 0 → parseFieldDescriptor (TJ5 k).2.2.1 = some (tyJ5 k) := by decide +kernel
abbrev cJ5_init_d00df : ByteArray := prog_16_method_2_code
def yJ5_init_d00df : MethodName := ⟨RJ5, "<init>", "(I)V"⟩
abbrev cJ5_length_8abf5 : ByteArray := prog_16_method_6_code
def yJ5_length_8abf5 : MethodName := ⟨RJ5, "length", "()I"⟩
abbrev cJ5_ensureCapacityInternal_d00df : ByteArray := prog_16_method_9_code
def yJ5_ensureCapacityInternal_d00df : MethodName := ⟨RJ5, "ensureCapacityInternal", "(I)V"⟩
abbrev cJ5_newCapacity_0f7a4 : ByteArray := prog_16_method_10_code
def yJ5_newCapacity_0f7a4 : MethodName := ⟨RJ5, "newCapacity", "(I)I"⟩
abbrev cJ5_inflate_da8c8 : ByteArray := prog_16_method_11_code
def yJ5_inflate_da8c8 : MethodName := ⟨RJ5, "inflate", "()V"⟩
abbrev cJ5_setLength_d00df : ByteArray := prog_16_method_13_code
def yJ5_setLength_d00df : MethodName := ⟨RJ5, "setLength", "(I)V"⟩
abbrev cJ5_charAt_5068e : ByteArray := prog_16_method_14_code
def yJ5_charAt_5068e : MethodName := ⟨RJ5, "charAt", "(I)C"⟩
abbrev cJ5_append_cf1ce : ByteArray := prog_16_method_22_code
def yJ5_append_cf1ce : MethodName := ⟨RJ5, "append", "(Ljava/lang/String;)Ljava/lang/AbstractStringBuilder;"⟩
abbrev cJ5_appendNull_278bc : ByteArray := prog_16_method_26_code
def yJ5_appendNull_278bc : MethodName := ⟨RJ5, "appendNull", "()Ljava/lang/AbstractStringBuilder;"⟩
abbrev cJ5_append_3fe6f : ByteArray := prog_16_method_31_code
def yJ5_append_3fe6f : MethodName := ⟨RJ5, "append", "(C)Ljava/lang/AbstractStringBuilder;"⟩
abbrev cJ5_append_c97b9 : ByteArray := prog_16_method_32_code
def yJ5_append_c97b9 : MethodName := ⟨RJ5, "append", "(I)Ljava/lang/AbstractStringBuilder;"⟩
abbrev cJ5_getValue_6d5f1 : ByteArray := prog_16_method_64_code
def yJ5_getValue_6d5f1 : MethodName := ⟨RJ5, "getValue", "()[B"⟩
abbrev cJ5_isLatin1_aae02 : ByteArray := prog_16_method_68_code
def yJ5_isLatin1_aae02 : MethodName := ⟨RJ5, "isLatin1", "()Z"⟩
abbrev cJ5_inflateIfNeededFor_a7421 : ByteArray := prog_16_method_71_code
def yJ5_inflateIfNeededFor_a7421 : MethodName := ⟨RJ5, "inflateIfNeededFor", "(Ljava/lang/String;)V"⟩
abbrev cJ5_putStringAt_47b60 : ByteArray := prog_16_method_73_code
def yJ5_putStringAt_47b60 : MethodName := ⟨RJ5, "putStringAt", "(ILjava/lang/String;)V"⟩
def RJx2cfe8 : String := "java/lang/Appendable"
def TJx2cfe8 : u_T := fun k => match k with
  | _ => ("", "", "", false)
def tyJx2cfe8 : Nat → FieldType := fun k => match k with
  | _ => .int
theorem nmJx2cfe8 : ∀ a, a < 0 → ∀ b, b < 0 → a ≠ b → (TJx2cfe8 a).2.1 ≠ (TJx2cfe8 b).2.1 := by decide +kernel
theorem tyJx2cfe8_ok : ∀ k, k < 0 → parseFieldDescriptor (TJx2cfe8 k).2.2.1 = some (tyJx2cfe8 k) := by decide +kernel
def RJx00060 : String := "java/lang/ArrayIndexOutOfBoundsException"
def TJx00060 : u_T := fun k => match k with
  | 0 => ("java/lang/Throwable", "backtrace", "Ljava/lang/Object;", false)
  | 1 => ("java/lang/Throwable", "detailMessage", "Ljava/lang/String;", false)
  | 2 => ("java/lang/Throwable", "cause", "Ljava/lang/Throwable;", false)
  | 3 => ("java/lang/Throwable", "stackTrace", "[Ljava/lang/StackTraceElement;", false)
  | 4 => ("java/lang/Throwable", "depth", "I", false)
  | _ => ("java/lang/Throwable", "suppressedExceptions", "Ljava/util/List;", false)
def tyJx00060 : Nat → FieldType := fun k => match k with
  | 0 => .object "java/lang/Object"
  | 1 => .object "java/lang/String"
  | 2 => .object "java/lang/Throwable"
  | 3 => .array (.object "java/lang/StackTraceElement")
  | 4 => .int
  | _ => .object "java/util/List"
theorem nmJx00060 : ∀ a, a < 6 → ∀ b, b < 6 → a ≠ b → (TJx00060 a).2.1 ≠ (TJx00060 b).2.1 := by decide +kernel
theorem tyJx00060_ok : ∀ k, k < 6 → parseFieldDescriptor (TJx00060 k).2.2.1 = some (tyJx00060 k) := by decide +kernel
abbrev cJx00060_init_a7421 : ByteArray := prog_19_method_2_code
def yJx00060_init_a7421 : MethodName := ⟨RJx00060, "<init>", "(Ljava/lang/String;)V"⟩
abbrev cJx00060_init_d00df : ByteArray := prog_19_method_3_code
def yJx00060_init_d00df : MethodName := ⟨RJx00060, "<init>", "(I)V"⟩
def RJx9f9b0 : String := "java/lang/CharSequence"
def TJx9f9b0 : u_T := fun k => match k with
  | _ => ("", "", "", false)
def tyJx9f9b0 : Nat → FieldType := fun k => match k with
  | _ => .int
theorem nmJx9f9b0 : ∀ a, a < 0 → ∀ b, b < 0 → a ≠ b → (TJx9f9b0 a).2.1 ≠ (TJx9f9b0 b).2.1 := by decide +kernel
theorem tyJx9f9b0_ok : ∀ k, k < 0 → parseFieldDescriptor (TJx9f9b0 k).2.2.1 = some (tyJx9f9b0 k) := by decide +kernel
def RJx8e188 : String := "java/lang/Cloneable"
def TJx8e188 : u_T := fun k => match k with
  | _ => ("", "", "", false)
def tyJx8e188 : Nat → FieldType := fun k => match k with
  | _ => .int
theorem nmJx8e188 : ∀ a, a < 0 → ∀ b, b < 0 → a ≠ b → (TJx8e188 a).2.1 ≠ (TJx8e188 b).2.1 := by decide +kernel
theorem tyJx8e188_ok : ∀ k, k < 0 → parseFieldDescriptor (TJx8e188 k).2.2.1 = some (tyJx8e188 k) := by decide +kernel
def RJxb160c : String := "java/lang/Comparable"
def TJxb160c : u_T := fun k => match k with
  | _ => ("", "", "", false)
def tyJxb160c : Nat → FieldType := fun k => match k with
  | _ => .int
theorem nmJxb160c : ∀ a, a < 0 → ∀ b, b < 0 → a ≠ b → (TJxb160c a).2.1 ≠ (TJxb160c b).2.1 := by decide +kernel
theorem tyJxb160c_ok : ∀ k, k < 0 → parseFieldDescriptor (TJxb160c k).2.2.1 = some (tyJxb160c k) := by decide +kernel
def RJx29ce0 : String := "java/lang/Enum"
def TJx29ce0 : u_T := fun k => match k with
  | _ => ("", "", "", false)
def tyJx29ce0 : Nat → FieldType := fun k => match k with
  | _ => .int
theorem nmJx29ce0 : ∀ a, a < 0 → ∀ b, b < 0 → a ≠ b → (TJx29ce0 a).2.1 ≠ (TJx29ce0 b).2.1 := by decide +kernel
theorem tyJx29ce0_ok : ∀ k, k < 0 → parseFieldDescriptor (TJx29ce0 k).2.2.1 = some (tyJx29ce0 k) := by decide +kernel
abbrev cJx29ce0_ordinal_8abf5 : ByteArray := prog_23_method_2_code
def yJx29ce0_ordinal_8abf5 : MethodName := ⟨RJx29ce0, "ordinal", "()I"⟩
def RJ6 : String := "java/lang/Integer"
def TJ6 : u_T := fun k => match k with
  | _ => ("", "", "", false)
def tyJ6 : Nat → FieldType := fun k => match k with
  | _ => .int
theorem nmJ6 : ∀ a, a < 0 → ∀ b, b < 0 → a ≠ b → (TJ6 a).2.1 ≠ (TJ6 b).2.1 := by decide +kernel
theorem tyJ6_ok : ∀ k, k < 0 → parseFieldDescriptor (TJ6 k).2.2.1 = some (tyJ6 k) := by decide +kernel
abbrev cJ6_getChars_ba4f3 : ByteArray := prog_28_method_12_code
def yJ6_getChars_ba4f3 : MethodName := ⟨RJ6, "getChars", "(II[B)I"⟩
abbrev cJ6_stringSize_0f7a4 : ByteArray := prog_28_method_13_code
def yJ6_stringSize_0f7a4 : MethodName := ⟨RJ6, "stringSize", "(I)I"⟩
def RJ9 : String := "java/lang/Math"
def TJ9 : u_T := fun k => match k with
  | _ => ("", "", "", false)
def tyJ9 : Nat → FieldType := fun k => match k with
  | _ => .int
theorem nmJ9 : ∀ a, a < 0 → ∀ b, b < 0 → a ≠ b → (TJ9 a).2.1 ≠ (TJ9 b).2.1 := by decide +kernel
theorem tyJ9_ok : ∀ k, k < 0 → parseFieldDescriptor (TJ9 k).2.2.1 = some (tyJ9 k) := by decide +kernel
abbrev cJ9_max_7cf53 : ByteArray := prog_29_method_65_code
def yJ9_max_7cf53 : MethodName := ⟨RJ9, "max", "(II)I"⟩
abbrev cJ9_min_7cf53 : ByteArray := prog_29_method_69_code
def yJ9_min_7cf53 : MethodName := ⟨RJ9, "min", "(II)I"⟩
def RJxd2413 : String := "java/lang/Number"
def TJxd2413 : u_T := fun k => match k with
  | _ => ("", "", "", false)
def tyJxd2413 : Nat → FieldType := fun k => match k with
  | _ => .int
theorem nmJxd2413 : ∀ a, a < 0 → ∀ b, b < 0 → a ≠ b → (TJxd2413 a).2.1 ≠ (TJxd2413 b).2.1 := by decide +kernel
theorem tyJxd2413_ok : ∀ k, k < 0 → parseFieldDescriptor (TJxd2413 k).2.2.1 = some (tyJxd2413 k) := by decide +kernel
def RJ0 : String := "java/lang/String"
def TJ0 : u_T := fun k => match k with
  | 0 => ("java/lang/String", "value", "[B", true)
  | 1 => ("java/lang/String", "coder", "B", true)
  | 2 => ("java/lang/String", "hash", "I", false)
  | _ => ("java/lang/String", "hashIsZero", "Z", false)
def tyJ0 : Nat → FieldType := fun k => match k with
  | 0 => .array .byte
  | 1 => .byte
  | 2 => .int
  | _ => .boolean
theorem nmJ0 : ∀ a, a < 4 → ∀ b, b < 4 → a ≠ b → (TJ0 a).2.1 ≠ (TJ0 b).2.1 := by decide +kernel
theorem tyJ0_ok : ∀ k, k < 4 → parseFieldDescriptor (TJ0 k).2.2.1 = some (tyJ0 k) := by decide +kernel
abbrev cJ0_init_81219 : ByteArray := prog_32_method_53_code
def yJ0_init_81219 : MethodName := ⟨RJ0, "<init>", "(Ljava/lang/StringBuilder;)V"⟩
abbrev cJ0_length_8abf5 : ByteArray := prog_32_method_54_code
