/-! ===== BEGIN printed: names, fields, word lists, decode rows ===== -/
def RX0 : String := "BookExchange$Auctions"
def TX0 : u_T := fun k => match k with
  | 0 => ("BookExchange$Auctions", "house", "LBookExchange$House;", true)
  | _ => ("BookExchange$Auctions", "floor", "LBookExchange$Floor;", true)
def tyX0 : Nat → FieldType := fun k => match k with
  | 0 => .object "BookExchange$House"
  | _ => .object "BookExchange$Floor"
abbrev wsX00 : List Cond := u_ws RX0 TX0 2
theorem nmX0 : ∀ a, a < 2 → ∀ b, b < 2 → a ≠ b → (TX0 a).2.1 ≠ (TX0 b).2.1 := by decide +kernel
theorem tyX0_ok : ∀ k, k < 2 → parseFieldDescriptor (TX0 k).2.2.1 = some (tyX0 k) := by decide +kernel
abbrev cX0_init : ByteArray := prog_2_method_1_code
def yX0_init : MethodName := ⟨RX0, "<init>", "(LBookExchange$House;LBookExchange$Floor;)V"⟩
abbrev cX0_priceOf : ByteArray := prog_2_method_2_code
def yX0_priceOf : MethodName := ⟨RX0, "priceOf", "(LBookExchange$Book;)I"⟩
abbrev cX0_isNearer : ByteArray := prog_2_method_3_code
def yX0_isNearer : MethodName := ⟨RX0, "isNearer", "(III)Z"⟩
abbrev cX0_amountAt : ByteArray := prog_2_method_4_code
def yX0_amountAt : MethodName := ⟨RX0, "amountAt", "(LBookExchange$Book;ZI)I"⟩
abbrev cX0_open : ByteArray := prog_2_method_5_code
def yX0_open : MethodName := ⟨RX0, "open", "(LBookExchange$Book;)I"⟩
abbrev cX0_tradeAll : ByteArray := prog_2_method_6_code
def yX0_tradeAll : MethodName := ⟨RX0, "tradeAll", "(LBookExchange$Book;II)V"⟩
abbrev cX0_showAllAnew : ByteArray := prog_2_method_7_code
def yX0_showAllAnew : MethodName := ⟨RX0, "showAllAnew", "(LBookExchange$Order;)V"⟩
def RX1 : String := "BookExchange$Book"
def TX1 : u_T := fun k => match k with
  | 0 => ("BookExchange$Book", "number", "I", true)
  | 1 => ("BookExchange$Book", "first", "LBookExchange$Contract;", true)
  | 2 => ("BookExchange$Book", "second", "LBookExchange$Contract;", true)
  | 3 => ("BookExchange$Book", "phase", "I", false)
  | 4 => ("BookExchange$Book", "isShares", "Z", false)
  | 5 => ("BookExchange$Book", "bestBuy", "LBookExchange$Order;", false)
  | _ => ("BookExchange$Book", "bestSell", "LBookExchange$Order;", false)
def tyX1 : Nat → FieldType := fun k => match k with
  | 0 => .int
  | 1 => .object "BookExchange$Contract"
  | 2 => .object "BookExchange$Contract"
  | 3 => .int
  | 4 => .boolean
  | 5 => .object "BookExchange$Order"
  | _ => .object "BookExchange$Order"
abbrev wsX10 : List Cond := u_ws RX1 TX1 7
theorem nmX1 : ∀ a, a < 7 → ∀ b, b < 7 → a ≠ b → (TX1 a).2.1 ≠ (TX1 b).2.1 := by decide +kernel
theorem tyX1_ok : ∀ k, k < 7 → parseFieldDescriptor (TX1 k).2.2.1 = some (tyX1 k) := by decide +kernel
abbrev cX1_init : ByteArray := prog_3_method_1_code
def yX1_init : MethodName := ⟨RX1, "<init>", "(ILBookExchange$Contract;LBookExchange$Contract;)V"⟩
abbrev cX1_isSpread : ByteArray := prog_3_method_2_code
def yX1_isSpread : MethodName := ⟨RX1, "isSpread", "()Z"⟩
abbrev cX1_bestOn : ByteArray := prog_3_method_3_code
def yX1_bestOn : MethodName := ⟨RX1, "bestOn", "(Z)LBookExchange$Order;"⟩
abbrev cX1_insert : ByteArray := prog_3_method_4_code
def yX1_insert : MethodName := ⟨RX1, "insert", "(LBookExchange$Order;)V"⟩
abbrev cX1_remove : ByteArray := prog_3_method_5_code
def yX1_remove : MethodName := ⟨RX1, "remove", "(LBookExchange$Order;)V"⟩
def RX2 : String := "BookExchange$Contract"
def TX2 : u_T := fun k => match k with
  | 0 => ("BookExchange$Contract", "number", "I", true)
  | 1 => ("BookExchange$Contract", "mark", "I", false)
  | 2 => ("BookExchange$Contract", "middle", "I", false)
  | _ => ("BookExchange$Contract", "band", "I", false)
def tyX2 : Nat → FieldType := fun k => match k with
  | 0 => .int
  | 1 => .int
  | 2 => .int
  | _ => .int
abbrev wsX20 : List Cond := u_ws RX2 TX2 4
theorem nmX2 : ∀ a, a < 4 → ∀ b, b < 4 → a ≠ b → (TX2 a).2.1 ≠ (TX2 b).2.1 := by decide +kernel
theorem tyX2_ok : ∀ k, k < 4 → parseFieldDescriptor (TX2 k).2.2.1 = some (tyX2 k) := by decide +kernel
abbrev cX2_init : ByteArray := prog_4_method_1_code
def yX2_init : MethodName := ⟨RX2, "<init>", "(I)V"⟩
abbrev cX2_isTooFar : ByteArray := prog_4_method_2_code
def yX2_isTooFar : MethodName := ⟨RX2, "isTooFar", "(I)Z"⟩
def RX3 : String := "BookExchange$Defaults"
def TX3 : u_T := fun k => match k with
  | _ => ("BookExchange$Defaults", "house", "LBookExchange$House;", true)
def tyX3 : Nat → FieldType := fun k => match k with
  | _ => .object "BookExchange$House"
abbrev wsX30 : List Cond := u_ws RX3 TX3 1
theorem nmX3 : ∀ a, a < 1 → ∀ b, b < 1 → a ≠ b → (TX3 a).2.1 ≠ (TX3 b).2.1 := by decide +kernel
theorem tyX3_ok : ∀ k, k < 1 → parseFieldDescriptor (TX3 k).2.2.1 = some (tyX3 k) := by decide +kernel
abbrev cX3_init : ByteArray := prog_5_method_1_code
def yX3_init : MethodName := ⟨RX3, "<init>", "(LBookExchange$House;)V"⟩
abbrev cX3_takerFor : ByteArray := prog_5_method_2_code
def yX3_takerFor : MethodName := ⟨RX3, "takerFor", "(LBookExchange$Member;)LBookExchange$Member;"⟩
abbrev cX3_canTake : ByteArray := prog_5_method_3_code
def yX3_canTake : MethodName := ⟨RX3, "canTake", "(LBookExchange$Member;LBookExchange$Member;)Z"⟩
abbrev cX3_takeOver : ByteArray := prog_5_method_4_code
def yX3_takeOver : MethodName := ⟨RX3, "takeOver", "(LBookExchange$Member;LBookExchange$Member;)V"⟩
abbrev cX3_passOn : ByteArray := prog_5_method_5_code
def yX3_passOn : MethodName := ⟨RX3, "passOn", "(LBookExchange$Member;LBookExchange$Member;LBookExchange$Contract;I)V"⟩
abbrev cX3_tearUpAll : ByteArray := prog_5_method_6_code
def yX3_tearUpAll : MethodName := ⟨RX3, "tearUpAll", "(LBookExchange$Member;)V"⟩
abbrev cX3_tearUp : ByteArray := prog_5_method_7_code
def yX3_tearUp : MethodName := ⟨RX3, "tearUp", "(LBookExchange$Member;LBookExchange$Contract;)V"⟩
abbrev cX3_sizeAgainst : ByteArray := prog_5_method_8_code
def yX3_sizeAgainst : MethodName := ⟨RX3, "sizeAgainst", "(LBookExchange$Member;LBookExchange$Member;LBookExchange$Contract;)I"⟩
abbrev cX3_giveUpRest : ByteArray := prog_5_method_9_code
def yX3_giveUpRest : MethodName := ⟨RX3, "giveUpRest", "(LBookExchange$Member;LBookExchange$Contract;I)V"⟩
abbrev cX3_close : ByteArray := prog_5_method_10_code
def yX3_close : MethodName := ⟨RX3, "close", "(LBookExchange$Member;)V"⟩
abbrev cX3_coverByShares : ByteArray := prog_5_method_11_code
def yX3_coverByShares : MethodName := ⟨RX3, "coverByShares", "(I)I"⟩
abbrev cX3_coverRest : ByteArray := prog_5_method_12_code
def yX3_coverRest : MethodName := ⟨RX3, "coverRest", "(J)V"⟩
def RX4 : String := "BookExchange$Floor"
def TX4 : u_T := fun k => match k with
  | 0 => ("BookExchange$Floor", "books", "[LBookExchange$Book;", true)
  | 1 => ("BookExchange$Floor", "orders", "Ljava/util/ArrayList;", true)
  | _ => ("BookExchange$Floor", "lastStamp", "I", false)
def tyX4 : Nat → FieldType := fun k => match k with
  | 0 => .array (.object "BookExchange$Book")
  | 1 => .object "java/util/ArrayList"
  | _ => .int
abbrev wsX40 : List Cond := u_ws RX4 TX4 3
theorem nmX4 : ∀ a, a < 3 → ∀ b, b < 3 → a ≠ b → (TX4 a).2.1 ≠ (TX4 b).2.1 := by decide +kernel
theorem tyX4_ok : ∀ k, k < 3 → parseFieldDescriptor (TX4 k).2.2.1 = some (tyX4 k) := by decide +kernel
abbrev cX4_init : ByteArray := prog_6_method_1_code
def yX4_init : MethodName := ⟨RX4, "<init>", "([LBookExchange$Contract;)V"⟩
abbrev cX4_addOrder : ByteArray := prog_6_method_2_code
def yX4_addOrder : MethodName := ⟨RX4, "addOrder", "(LBookExchange$Member;LBookExchange$Book;ZII)LBookExchange$Order;"⟩
abbrev cX4_rest : ByteArray := prog_6_method_3_code
def yX4_rest : MethodName := ⟨RX4, "rest", "(LBookExchange$Order;)V"⟩
abbrev cX4_settle : ByteArray := prog_6_method_4_code
def yX4_settle : MethodName := ⟨RX4, "settle", "(LBookExchange$Order;)V"⟩
abbrev cX4_withdraw : ByteArray := prog_6_method_5_code
def yX4_withdraw : MethodName := ⟨RX4, "withdraw", "(LBookExchange$Order;)V"⟩
abbrev cX4_withdrawAll : ByteArray := prog_6_method_6_code
def yX4_withdrawAll : MethodName := ⟨RX4, "withdrawAll", "(LBookExchange$Member;)V"⟩
abbrev cX4_withdrawQuotes : ByteArray := prog_6_method_7_code
def yX4_withdrawQuotes : MethodName := ⟨RX4, "withdrawQuotes", "(LBookExchange$Member;LBookExchange$Book;)V"⟩
abbrev cX4_take : ByteArray := prog_6_method_8_code
def yX4_take : MethodName := ⟨RX4, "take", "(LBookExchange$Order;I)V"⟩
abbrev cX4_takeResting : ByteArray := prog_6_method_9_code
def yX4_takeResting : MethodName := ⟨RX4, "takeResting", "(LBookExchange$Order;I)V"⟩
abbrev cX4_takeShown : ByteArray := prog_6_method_10_code
def yX4_takeShown : MethodName := ⟨RX4, "takeShown", "(LBookExchange$Order;I)V"⟩
abbrev cX4_noteTrade : ByteArray := prog_6_method_11_code
def yX4_noteTrade : MethodName := ⟨RX4, "noteTrade", "(LBookExchange$Book;I)V"⟩
abbrev cX4_lowestReached : ByteArray := prog_6_method_12_code
def yX4_lowestReached : MethodName := ⟨RX4, "lowestReached", "()LBookExchange$Order;"⟩
abbrev cX4_bestOfAll : ByteArray := prog_6_method_13_code
def yX4_bestOfAll : MethodName := ⟨RX4, "bestOfAll", "(LBookExchange$Book;Z)LBookExchange$Order;"⟩
abbrev cX4_openSizes : ByteArray := prog_6_method_14_code
def yX4_openSizes : MethodName := ⟨RX4, "openSizes", "(LBookExchange$Member;LBookExchange$Book;)[I"⟩
abbrev cX4_addOpenSize : ByteArray := prog_6_method_15_code
def yX4_addOpenSize : MethodName := ⟨RX4, "addOpenSize", "([ILBookExchange$Book;ZI)V"⟩
abbrev cX4_addOpenSide : ByteArray := prog_6_method_16_code
def yX4_addOpenSide : MethodName := ⟨RX4, "addOpenSide", "([ILBookExchange$Contract;ZI)V"⟩
def RX5 : String := "BookExchange$House"
def TX5 : u_T := fun k => match k with
  | 0 => ("BookExchange$House", "contracts", "[LBookExchange$Contract;", true)
  | 1 => ("BookExchange$House", "members", "[LBookExchange$Member;", true)
  | 2 => ("BookExchange$House", "trades", "Ljava/util/ArrayList;", true)
  | 3 => ("BookExchange$House", "moves", "[I", true)
  | 4 => ("BookExchange$House", "capital", "I", false)
  | _ => ("BookExchange$House", "uncovered", "I", false)
def tyX5 : Nat → FieldType := fun k => match k with
  | 0 => .array (.object "BookExchange$Contract")
  | 1 => .array (.object "BookExchange$Member")
  | 2 => .object "java/util/ArrayList"
  | 3 => .array .int
  | 4 => .int
  | _ => .int
abbrev wsX50 : List Cond := u_ws RX5 TX5 6
theorem nmX5 : ∀ a, a < 6 → ∀ b, b < 6 → a ≠ b → (TX5 a).2.1 ≠ (TX5 b).2.1 := by decide +kernel
theorem tyX5_ok : ∀ k, k < 6 → parseFieldDescriptor (TX5 k).2.2.1 = some (tyX5 k) := by decide +kernel
abbrev cX5_init : ByteArray := prog_7_method_1_code
def yX5_init : MethodName := ⟨RX5, "<init>", "()V"⟩
abbrev cX5_moveOf : ByteArray := prog_7_method_2_code
def yX5_moveOf : MethodName := ⟨RX5, "moveOf", "(II)I"⟩
abbrev cX5_putMove : ByteArray := prog_7_method_3_code
def yX5_putMove : MethodName := ⟨RX5, "putMove", "(III)V"⟩
abbrev cX5_record : ByteArray := prog_7_method_4_code
def yX5_record : MethodName := ⟨RX5, "record", "(LBookExchange$Contract;LBookExchange$Member;LBookExchange$Member;II)V"⟩
abbrev cX5_deal : ByteArray := prog_7_method_5_code
def yX5_deal : MethodName := ⟨RX5, "deal", "(LBookExchange$Contract;LBookExchange$Member;LBookExchange$Member;II)V"⟩
abbrev cX5_dealInBook : ByteArray := prog_7_method_6_code
def yX5_dealInBook : MethodName := ⟨RX5, "dealInBook", "(LBookExchange$Book;LBookExchange$Member;LBookExchange$Member;II)V"⟩
abbrev cX5_positionFromTrades : ByteArray := prog_7_method_7_code
def yX5_positionFromTrades : MethodName := ⟨RX5, "positionFromTrades", "(LBookExchange$Member;LBookExchange$Contract;)I"⟩
abbrev cX5_fundsOf : ByteArray := prog_7_method_8_code
def yX5_fundsOf : MethodName := ⟨RX5, "fundsOf", "(LBookExchange$Member;)I"⟩
abbrev cX5_marginOf : ByteArray := prog_7_method_9_code
def yX5_marginOf : MethodName := ⟨RX5, "marginOf", "(LBookExchange$Member;LBookExchange$Member;)I"⟩
abbrev cX5_needOf : ByteArray := prog_7_method_10_code
def yX5_needOf : MethodName := ⟨RX5, "needOf", "(LBookExchange$Member;[I)I"⟩
abbrev cX5_forgetQuoteTrades : ByteArray := prog_7_method_11_code
def yX5_forgetQuoteTrades : MethodName := ⟨RX5, "forgetQuoteTrades", "()V"⟩
abbrev cX5_countBids : ByteArray := prog_7_method_12_code
def yX5_countBids : MethodName := ⟨RX5, "countBids", "()I"⟩
abbrev cX5_forgetBids : ByteArray := prog_7_method_13_code
def yX5_forgetBids : MethodName := ⟨RX5, "forgetBids", "()V"⟩
def RX6 : String := "BookExchange$Matching"
def TX6 : u_T := fun k => match k with
  | 0 => ("BookExchange$Matching", "house", "LBookExchange$House;", true)
  | 1 => ("BookExchange$Matching", "floor", "LBookExchange$Floor;", true)
  | 2 => ("BookExchange$Matching", "ways", "LBookExchange$Ways;", true)
  | _ => ("BookExchange$Matching", "taken", "Ljava/util/ArrayList;", true)
def tyX6 : Nat → FieldType := fun k => match k with
  | 0 => .object "BookExchange$House"
  | 1 => .object "BookExchange$Floor"
  | 2 => .object "BookExchange$Ways"
  | _ => .object "java/util/ArrayList"
abbrev wsX60 : List Cond := u_ws RX6 TX6 4
theorem nmX6 : ∀ a, a < 4 → ∀ b, b < 4 → a ≠ b → (TX6 a).2.1 ≠ (TX6 b).2.1 := by decide +kernel
theorem tyX6_ok : ∀ k, k < 4 → parseFieldDescriptor (TX6 k).2.2.1 = some (tyX6 k) := by decide +kernel
abbrev cX6_init : ByteArray := prog_8_method_1_code
def yX6_init : MethodName := ⟨RX6, "<init>", "(LBookExchange$House;LBookExchange$Floor;LBookExchange$Ways;)V"⟩
abbrev cX6_match : ByteArray := prog_8_method_2_code
def yX6_match : MethodName := ⟨RX6, "match", "(LBookExchange$Order;)V"⟩
abbrev cX6_gather : ByteArray := prog_8_method_3_code
def yX6_gather : MethodName := ⟨RX6, "gather", "(LBookExchange$Order;I)V"⟩
abbrev cX6_gatherLevel : ByteArray := prog_8_method_4_code
def yX6_gatherLevel : MethodName := ⟨RX6, "gatherLevel", "(LBookExchange$Order;)V"⟩
abbrev cX6_withdrawOwn : ByteArray := prog_8_method_5_code
def yX6_withdrawOwn : MethodName := ⟨RX6, "withdrawOwn", "(LBookExchange$Member;)Z"⟩
abbrev cX6_planTrades : ByteArray := prog_8_method_6_code
def yX6_planTrades : MethodName := ⟨RX6, "planTrades", "(LBookExchange$Order;II)V"⟩
abbrev cX6_planChain : ByteArray := prog_8_method_7_code
def yX6_planChain : MethodName := ⟨RX6, "planChain", "(LBookExchange$Contract;I)V"⟩
abbrev cX6_lowestTooFar : ByteArray := prog_8_method_8_code
def yX6_lowestTooFar : MethodName := ⟨RX6, "lowestTooFar", "()LBookExchange$Contract;"⟩
abbrev cX6_endsByHalt : ByteArray := prog_8_method_9_code
def yX6_endsByHalt : MethodName := ⟨RX6, "endsByHalt", "(LBookExchange$Contract;LBookExchange$Order;)Z"⟩
abbrev cX6_tradeInBook : ByteArray := prog_8_method_10_code
def yX6_tradeInBook : MethodName := ⟨RX6, "tradeInBook", "(LBookExchange$Order;I)V"⟩
abbrev cX6_setPortions : ByteArray := prog_8_method_11_code
def yX6_setPortions : MethodName := ⟨RX6, "setPortions", "(I)V"⟩
abbrev cX6_divideRest : ByteArray := prog_8_method_12_code
def yX6_divideRest : MethodName := ⟨RX6, "divideRest", "(I)V"⟩
abbrev cX6_tradeByLegs : ByteArray := prog_8_method_13_code
def yX6_tradeByLegs : MethodName := ⟨RX6, "tradeByLegs", "(LBookExchange$Order;I)V"⟩
def RX7 : String := "BookExchange$Member"
def TX7 : u_T := fun k => match k with
  | 0 => ("BookExchange$Member", "number", "I", true)
  | 1 => ("BookExchange$Member", "positions", "[I", true)
  | 2 => ("BookExchange$Member", "collateral", "I", false)
  | 3 => ("BookExchange$Member", "cash", "I", false)
  | 4 => ("BookExchange$Member", "share", "I", false)
  | 5 => ("BookExchange$Member", "protection", "I", false)
  | 6 => ("BookExchange$Member", "quoteTraded", "I", false)
  | 7 => ("BookExchange$Member", "given", "I", false)
  | 8 => ("BookExchange$Member", "bidAmount", "I", false)
  | 9 => ("BookExchange$Member", "hasBid", "Z", false)
  | _ => ("BookExchange$Member", "isOut", "Z", false)
def tyX7 : Nat → FieldType := fun k => match k with
  | 0 => .int
  | 1 => .array .int
  | 2 => .int
  | 3 => .int
  | 4 => .int
  | 5 => .int
  | 6 => .int
  | 7 => .int
  | 8 => .int
  | 9 => .boolean
  | _ => .boolean
abbrev wsX70 : List Cond := u_ws RX7 TX7 11
theorem nmX7 : ∀ a, a < 11 → ∀ b, b < 11 → a ≠ b → (TX7 a).2.1 ≠ (TX7 b).2.1 := by decide +kernel
theorem tyX7_ok : ∀ k, k < 11 → parseFieldDescriptor (TX7 k).2.2.1 = some (tyX7 k) := by decide +kernel
abbrev cX7_init : ByteArray := prog_9_method_1_code
def yX7_init : MethodName := ⟨RX7, "<init>", "(I)V"⟩
abbrev cX7_positionIn : ByteArray := prog_9_method_2_code
def yX7_positionIn : MethodName := ⟨RX7, "positionIn", "(LBookExchange$Contract;)I"⟩
def RX8 : String := "BookExchange$Order"
def TX8 : u_T := fun k => match k with
  | 0 => ("BookExchange$Order", "number", "I", true)
  | 1 => ("BookExchange$Order", "member", "LBookExchange$Member;", true)
  | 2 => ("BookExchange$Order", "book", "LBookExchange$Book;", true)
  | 3 => ("BookExchange$Order", "isBuy", "Z", true)
  | 4 => ("BookExchange$Order", "price", "I", true)
  | 5 => ("BookExchange$Order", "peak", "I", false)
  | 6 => ("BookExchange$Order", "trigger", "I", false)
  | 7 => ("BookExchange$Order", "isNow", "Z", false)
  | 8 => ("BookExchange$Order", "isQuote", "Z", false)
  | 9 => ("BookExchange$Order", "isReached", "Z", false)
  | 10 => ("BookExchange$Order", "state", "I", false)
  | 11 => ("BookExchange$Order", "left", "I", false)
  | 12 => ("BookExchange$Order", "shown", "I", false)
  | 13 => ("BookExchange$Order", "stamp", "I", false)
  | 14 => ("BookExchange$Order", "portion", "I", false)
  | 15 => ("BookExchange$Order", "traded", "LBookExchange$Contract;", false)
  | 16 => ("BookExchange$Order", "tradedPrice", "I", false)
  | _ => ("BookExchange$Order", "next", "LBookExchange$Order;", false)
def tyX8 : Nat → FieldType := fun k => match k with
  | 0 => .int
  | 1 => .object "BookExchange$Member"
  | 2 => .object "BookExchange$Book"
  | 3 => .boolean
  | 4 => .int
  | 5 => .int
  | 6 => .int
  | 7 => .boolean
  | 8 => .boolean
  | 9 => .boolean
  | 10 => .int
  | 11 => .int
  | 12 => .int
  | 13 => .int
  | 14 => .int
  | 15 => .object "BookExchange$Contract"
  | 16 => .int
  | _ => .object "BookExchange$Order"
abbrev wsX80 : List Cond := u_ws RX8 TX8 18
theorem nmX8 : ∀ a, a < 18 → ∀ b, b < 18 → a ≠ b → (TX8 a).2.1 ≠ (TX8 b).2.1 := by decide +kernel
theorem tyX8_ok : ∀ k, k < 18 → parseFieldDescriptor (TX8 k).2.2.1 = some (tyX8 k) := by decide +kernel
abbrev cX8_init : ByteArray := prog_10_method_1_code
def yX8_init : MethodName := ⟨RX8, "<init>", "(ILBookExchange$Member;LBookExchange$Book;ZII)V"⟩
abbrev cX8_isLive : ByteArray := prog_10_method_2_code
def yX8_isLive : MethodName := ⟨RX8, "isLive", "()Z"⟩
abbrev cX8_accepts : ByteArray := prog_10_method_3_code
def yX8_accepts : MethodName := ⟨RX8, "accepts", "(I)Z"⟩
abbrev cX8_isReachedBy : ByteArray := prog_10_method_4_code
def yX8_isReachedBy : MethodName := ⟨RX8, "isReachedBy", "(I)Z"⟩
abbrev cX8_isBetterThan : ByteArray := prog_10_method_5_code
def yX8_isBetterThan : MethodName := ⟨RX8, "isBetterThan", "(LBookExchange$Order;)Z"⟩
abbrev cX8_showAnew : ByteArray := prog_10_method_6_code
def yX8_showAnew : MethodName := ⟨RX8, "showAnew", "()V"⟩
def RX9 : String := "BookExchange$Trade"
def TX9 : u_T := fun k => match k with
  | 0 => ("BookExchange$Trade", "contract", "LBookExchange$Contract;", true)
  | 1 => ("BookExchange$Trade", "buyer", "LBookExchange$Member;", true)
  | 2 => ("BookExchange$Trade", "seller", "LBookExchange$Member;", true)
  | 3 => ("BookExchange$Trade", "price", "I", true)
  | 4 => ("BookExchange$Trade", "size", "I", true)
  | _ => ("BookExchange$Trade", "isBusted", "Z", false)
def tyX9 : Nat → FieldType := fun k => match k with
  | 0 => .object "BookExchange$Contract"
  | 1 => .object "BookExchange$Member"
  | 2 => .object "BookExchange$Member"
  | 3 => .int
  | 4 => .int
  | _ => .boolean
abbrev wsX90 : List Cond := u_ws RX9 TX9 6
theorem nmX9 : ∀ a, a < 6 → ∀ b, b < 6 → a ≠ b → (TX9 a).2.1 ≠ (TX9 b).2.1 := by decide +kernel
theorem tyX9_ok : ∀ k, k < 6 → parseFieldDescriptor (TX9 k).2.2.1 = some (tyX9 k) := by decide +kernel
abbrev cX9_init : ByteArray := prog_11_method_1_code
def yX9_init : MethodName := ⟨RX9, "<init>", "(LBookExchange$Contract;LBookExchange$Member;LBookExchange$Member;II)V"⟩
abbrev cX9_settle : ByteArray := prog_11_method_2_code
def yX9_settle : MethodName := ⟨RX9, "settle", "(I)V"⟩
def RX10 : String := "BookExchange$Ways"
def TX10 : u_T := fun k => match k with
  | _ => ("BookExchange$Ways", "books", "[LBookExchange$Book;", true)
def tyX10 : Nat → FieldType := fun k => match k with
  | _ => .array (.object "BookExchange$Book")
abbrev wsX100 : List Cond := u_ws RX10 TX10 1
theorem nmX10 : ∀ a, a < 1 → ∀ b, b < 1 → a ≠ b → (TX10 a).2.1 ≠ (TX10 b).2.1 := by decide +kernel
theorem tyX10_ok : ∀ k, k < 1 → parseFieldDescriptor (TX10 k).2.2.1 = some (tyX10 k) := by decide +kernel
abbrev cX10_init : ByteArray := prog_12_method_1_code
def yX10_init : MethodName := ⟨RX10, "<init>", "([LBookExchange$Book;)V"⟩
abbrev cX10_orderFor : ByteArray := prog_12_method_2_code
def yX10_orderFor : MethodName := ⟨RX10, "orderFor", "(IZ)LBookExchange$Order;"⟩
abbrev cX10_legAt : ByteArray := prog_12_method_3_code
def yX10_legAt : MethodName := ⟨RX10, "legAt", "(LBookExchange$Book;II)I"⟩
abbrev cX10_priceOf : ByteArray := prog_12_method_4_code
def yX10_priceOf : MethodName := ⟨RX10, "priceOf", "(LBookExchange$Book;IZ)I"⟩
abbrev cX10_bestWay : ByteArray := prog_12_method_5_code
def yX10_bestWay : MethodName := ⟨RX10, "bestWay", "(LBookExchange$Book;Z)I"⟩
def RX11 : String := "BookExchange"
def TX11 : u_T := fun k => match k with
  | 0 => ("BookExchange", "house", "LBookExchange$House;", true)
  | 1 => ("BookExchange", "floor", "LBookExchange$Floor;", true)
  | 2 => ("BookExchange", "ways", "LBookExchange$Ways;", true)
  | 3 => ("BookExchange", "matching", "LBookExchange$Matching;", true)
  | 4 => ("BookExchange", "auctions", "LBookExchange$Auctions;", true)
  | _ => ("BookExchange", "defaults", "LBookExchange$Defaults;", true)
def tyX11 : Nat → FieldType := fun k => match k with
  | 0 => .object "BookExchange$House"
  | 1 => .object "BookExchange$Floor"
  | 2 => .object "BookExchange$Ways"
  | 3 => .object "BookExchange$Matching"
  | 4 => .object "BookExchange$Auctions"
  | _ => .object "BookExchange$Defaults"
abbrev wsX110 : List Cond := u_ws RX11 TX11 6
theorem nmX11 : ∀ a, a < 6 → ∀ b, b < 6 → a ≠ b → (TX11 a).2.1 ≠ (TX11 b).2.1 := by decide +kernel
theorem tyX11_ok : ∀ k, k < 6 → parseFieldDescriptor (TX11 k).2.2.1 = some (tyX11 k) := by decide +kernel
abbrev cX11_init : ByteArray := prog_1_method_1_code
def yX11_init : MethodName := ⟨RX11, "<init>", "()V"⟩
abbrev cX11_call : ByteArray := prog_1_method_2_code
def yX11_call : MethodName := ⟨RX11, "call", "(I)I"⟩
abbrev cX11_shut : ByteArray := prog_1_method_3_code
def yX11_shut : MethodName := ⟨RX11, "shut", "(I)I"⟩
abbrev cX11_uncross : ByteArray := prog_1_method_4_code
def yX11_uncross : MethodName := ⟨RX11, "uncross", "(I)I"⟩
abbrev cX11_setShares : ByteArray := prog_1_method_5_code
def yX11_setShares : MethodName := ⟨RX11, "setShares", "(IZ)Z"⟩
abbrev cX11_setBand : ByteArray := prog_1_method_6_code
def yX11_setBand : MethodName := ⟨RX11, "setBand", "(III)V"⟩
abbrev cX11_deposit : ByteArray := prog_1_method_7_code
def yX11_deposit : MethodName := ⟨RX11, "deposit", "(II)I"⟩
abbrev cX11_setShare : ByteArray := prog_1_method_8_code
def yX11_setShare : MethodName := ⟨RX11, "setShare", "(II)I"⟩
abbrev cX11_setCapital : ByteArray := prog_1_method_9_code
def yX11_setCapital : MethodName := ⟨RX11, "setCapital", "(I)I"⟩
abbrev cX11_protect : ByteArray := prog_1_method_10_code
def yX11_protect : MethodName := ⟨RX11, "protect", "(II)I"⟩
abbrev cX11_setMove : ByteArray := prog_1_method_11_code
def yX11_setMove : MethodName := ⟨RX11, "setMove", "(III)I"⟩
abbrev cX11_order : ByteArray := prog_1_method_12_code
def yX11_order : MethodName := ⟨RX11, "order", "(IIZIII)I"⟩
abbrev cX11_now : ByteArray := prog_1_method_13_code
def yX11_now : MethodName := ⟨RX11, "now", "(IIZII)I"⟩
abbrev cX11_stop : ByteArray := prog_1_method_14_code
def yX11_stop : MethodName := ⟨RX11, "stop", "(IIZIII)I"⟩
abbrev cX11_quote : ByteArray := prog_1_method_15_code
def yX11_quote : MethodName := ⟨RX11, "quote", "(IIIII)I"⟩
abbrev cX11_cancel : ByteArray := prog_1_method_16_code
def yX11_cancel : MethodName := ⟨RX11, "cancel", "(I)I"⟩
abbrev cX11_bust : ByteArray := prog_1_method_17_code
def yX11_bust : MethodName := ⟨RX11, "bust", "(I)I"⟩
abbrev cX11_bid : ByteArray := prog_1_method_18_code
def yX11_bid : MethodName := ⟨RX11, "bid", "(II)I"⟩
abbrev cX11_fail : ByteArray := prog_1_method_19_code
def yX11_fail : MethodName := ⟨RX11, "fail", "(I)I"⟩
abbrev cX11_phase : ByteArray := prog_1_method_20_code
def yX11_phase : MethodName := ⟨RX11, "phase", "(I)I"⟩
abbrev cX11_orders : ByteArray := prog_1_method_21_code
def yX11_orders : MethodName := ⟨RX11, "orders", "()I"⟩
abbrev cX11_state : ByteArray := prog_1_method_22_code
def yX11_state : MethodName := ⟨RX11, "state", "(I)I"⟩
abbrev cX11_left : ByteArray := prog_1_method_23_code
def yX11_left : MethodName := ⟨RX11, "left", "(I)I"⟩
abbrev cX11_shows : ByteArray := prog_1_method_24_code
def yX11_shows : MethodName := ⟨RX11, "shows", "(I)I"⟩
abbrev cX11_best : ByteArray := prog_1_method_25_code
def yX11_best : MethodName := ⟨RX11, "best", "(IZ)I"⟩
abbrev cX11_bestByAll : ByteArray := prog_1_method_26_code
def yX11_bestByAll : MethodName := ⟨RX11, "bestByAll", "(IZ)I"⟩
abbrev cX11_way : ByteArray := prog_1_method_27_code
def yX11_way : MethodName := ⟨RX11, "way", "(IZ)I"⟩
abbrev cX11_wayPrice : ByteArray := prog_1_method_28_code
def yX11_wayPrice : MethodName := ⟨RX11, "wayPrice", "(IZ)I"⟩
abbrev cX11_auction : ByteArray := prog_1_method_29_code
def yX11_auction : MethodName := ⟨RX11, "auction", "(I)I"⟩
abbrev cX11_middle : ByteArray := prog_1_method_31_code
def yX11_middle : MethodName := ⟨RX11, "middle", "(I)I"⟩
abbrev cX11_trades : ByteArray := prog_1_method_32_code
def yX11_trades : MethodName := ⟨RX11, "trades", "()I"⟩
abbrev cX11_trade : ByteArray := prog_1_method_33_code
def yX11_trade : MethodName := ⟨RX11, "trade", "(II)I"⟩
abbrev cX11_position : ByteArray := prog_1_method_34_code
def yX11_position : MethodName := ⟨RX11, "position", "(II)I"⟩
abbrev cX11_positionByTrades : ByteArray := prog_1_method_35_code
def yX11_positionByTrades : MethodName := ⟨RX11, "positionByTrades", "(II)I"⟩
abbrev cX11_cash : ByteArray := prog_1_method_36_code
def yX11_cash : MethodName := ⟨RX11, "cash", "(I)I"⟩
abbrev cX11_funds : ByteArray := prog_1_method_37_code
def yX11_funds : MethodName := ⟨RX11, "funds", "(I)I"⟩
abbrev cX11_margin : ByteArray := prog_1_method_38_code
def yX11_margin : MethodName := ⟨RX11, "margin", "(I)I"⟩
abbrev cX11_need : ByteArray := prog_1_method_39_code
def yX11_need : MethodName := ⟨RX11, "need", "(I)I"⟩
abbrev cX11_share : ByteArray := prog_1_method_40_code
def yX11_share : MethodName := ⟨RX11, "share", "(I)I"⟩
abbrev cX11_isOut : ByteArray := prog_1_method_41_code
def yX11_isOut : MethodName := ⟨RX11, "isOut", "(I)Z"⟩
abbrev cX11_uncovered : ByteArray := prog_1_method_43_code
def yX11_uncovered : MethodName := ⟨RX11, "uncovered", "()I"⟩
abbrev cX11_requireIndex : ByteArray := prog_1_method_44_code
def yX11_requireIndex : MethodName := ⟨RX11, "requireIndex", "(II)V"⟩
abbrev cX11_requireRange : ByteArray := prog_1_method_45_code
def yX11_requireRange : MethodName := ⟨RX11, "requireRange", "(III)V"⟩
abbrev cX11_requirePrice : ByteArray := prog_1_method_46_code
def yX11_requirePrice : MethodName := ⟨RX11, "requirePrice", "(LBookExchange$Book;I)V"⟩
abbrev cX11_requireState : ByteArray := prog_1_method_47_code
def yX11_requireState : MethodName := ⟨RX11, "requireState", "(Z)V"⟩
abbrev cX11_requireRoom : ByteArray := prog_1_method_48_code
def yX11_requireRoom : MethodName := ⟨RX11, "requireRoom", "(LBookExchange$Member;I)V"⟩
abbrev cX11_memberAt : ByteArray := prog_1_method_49_code
def yX11_memberAt : MethodName := ⟨RX11, "memberAt", "(I)LBookExchange$Member;"⟩
abbrev cX11_contractAt : ByteArray := prog_1_method_50_code
def yX11_contractAt : MethodName := ⟨RX11, "contractAt", "(I)LBookExchange$Contract;"⟩
abbrev cX11_bookAt : ByteArray := prog_1_method_51_code
def yX11_bookAt : MethodName := ⟨RX11, "bookAt", "(I)LBookExchange$Book;"⟩
abbrev cX11_orderAt : ByteArray := prog_1_method_52_code
def yX11_orderAt : MethodName := ⟨RX11, "orderAt", "(I)LBookExchange$Order;"⟩
abbrev cX11_tradeAt : ByteArray := prog_1_method_53_code
def yX11_tradeAt : MethodName := ⟨RX11, "tradeAt", "(I)LBookExchange$Trade;"⟩
abbrev cX11_numberOf : ByteArray := prog_1_method_54_code
def yX11_numberOf : MethodName := ⟨RX11, "numberOf", "(LBookExchange$Order;)I"⟩
abbrev cX11_needNow : ByteArray := prog_1_method_55_code
def yX11_needNow : MethodName := ⟨RX11, "needNow", "(LBookExchange$Member;)I"⟩
abbrev cX11_isRefused : ByteArray := prog_1_method_56_code
def yX11_isRefused : MethodName := ⟨RX11, "isRefused", "(LBookExchange$Member;LBookExchange$Book;ZI)Z"⟩
abbrev cX11_isQuoteRefused : ByteArray := prog_1_method_57_code
def yX11_isQuoteRefused : MethodName := ⟨RX11, "isQuoteRefused", "(LBookExchange$Member;LBookExchange$Book;I)Z"⟩
abbrev cX11_letCome : ByteArray := prog_1_method_58_code
def yX11_letCome : MethodName := ⟨RX11, "letCome", "(LBookExchange$Order;)V"⟩
abbrev cX11_pullQuotes : ByteArray := prog_1_method_59_code
def yX11_pullQuotes : MethodName := ⟨RX11, "pullQuotes", "()V"⟩
def RX12 : String := "BookExchangeModel"
def TX12 : u_T := fun k => match k with
  | _ => ("", "", "", false)
def tyX12 : Nat → FieldType := fun k => match k with
  | _ => .int
abbrev wsX120 : List Cond := u_ws RX12 TX12 0
theorem nmX12 : ∀ a, a < 0 → ∀ b, b < 0 → a ≠ b → (TX12 a).2.1 ≠ (TX12 b).2.1 := by decide +kernel
theorem tyX12_ok : ∀ k, k < 0 → parseFieldDescriptor (TX12 k).2.2.1 = some (tyX12 k) := by decide +kernel
def RJx145de : String := "java/io/Serializable"
def TJx145de : u_T := fun k => match k with
  | _ => ("", "", "", false)
def tyJx145de : Nat → FieldType := fun k => match k with
  | _ => .int
abbrev wsJx145de0 : List Cond := u_ws RJx145de TJx145de 0
theorem nmJx145de : ∀ a, a < 0 → ∀ b, b < 0 → a ≠ b → (TJx145de a).2.1 ≠ (TJx145de b).2.1 := by decide +kernel
theorem tyJx145de_ok : ∀ k, k < 0 → parseFieldDescriptor (TJx145de k).2.2.1 = some (tyJx145de k) := by decide +kernel
def RJx8e188 : String := "java/lang/Cloneable"
def TJx8e188 : u_T := fun k => match k with
  | _ => ("", "", "", false)
def tyJx8e188 : Nat → FieldType := fun k => match k with
  | _ => .int
abbrev wsJx8e1880 : List Cond := u_ws RJx8e188 TJx8e188 0
theorem nmJx8e188 : ∀ a, a < 0 → ∀ b, b < 0 → a ≠ b → (TJx8e188 a).2.1 ≠ (TJx8e188 b).2.1 := by decide +kernel
theorem tyJx8e188_ok : ∀ k, k < 0 → parseFieldDescriptor (TJx8e188 k).2.2.1 = some (tyJx8e188 k) := by decide +kernel
def RJxab1ab : String := "java/lang/Iterable"
def TJxab1ab : u_T := fun k => match k with
  | _ => ("", "", "", false)
def tyJxab1ab : Nat → FieldType := fun k => match k with
  | _ => .int
abbrev wsJxab1ab0 : List Cond := u_ws RJxab1ab TJxab1ab 0
theorem nmJxab1ab : ∀ a, a < 0 → ∀ b, b < 0 → a ≠ b → (TJxab1ab a).2.1 ≠ (TJxab1ab b).2.1 := by decide +kernel
theorem tyJxab1ab_ok : ∀ k, k < 0 → parseFieldDescriptor (TJxab1ab k).2.2.1 = some (tyJxab1ab k) := by decide +kernel
def RJ9 : String := "java/lang/Math"
def TJ9 : u_T := fun k => match k with
  | _ => ("", "", "", false)
def tyJ9 : Nat → FieldType := fun k => match k with
  | _ => .int
abbrev wsJ90 : List Cond := u_ws RJ9 TJ9 0
theorem nmJ9 : ∀ a, a < 0 → ∀ b, b < 0 → a ≠ b → (TJ9 a).2.1 ≠ (TJ9 b).2.1 := by decide +kernel
theorem tyJ9_ok : ∀ k, k < 0 → parseFieldDescriptor (TJ9 k).2.2.1 = some (tyJ9 k) := by decide +kernel
abbrev cJ9_abs_0f7a4 : ByteArray := prog_22_method_59_code
def yJ9_abs_0f7a4 : MethodName := ⟨RJ9, "abs", "(I)I"⟩
abbrev cJ9_max_7cf53 : ByteArray := prog_22_method_65_code
def yJ9_max_7cf53 : MethodName := ⟨RJ9, "max", "(II)I"⟩
abbrev cJ9_min_7cf53 : ByteArray := prog_22_method_69_code
def yJ9_min_7cf53 : MethodName := ⟨RJ9, "min", "(II)I"⟩
abbrev cJ9_min_f86c9 : ByteArray := prog_22_method_70_code
def yJ9_min_f86c9 : MethodName := ⟨RJ9, "min", "(JJ)J"⟩
def RJ0 : String := "java/lang/String"
def TJ0 : u_T := fun k => match k with
  | _ => ("", "", "", false)
def tyJ0 : Nat → FieldType := fun k => match k with
  | _ => .int
abbrev wsJ00 : List Cond := u_ws RJ0 TJ0 0
theorem nmJ0 : ∀ a, a < 0 → ∀ b, b < 0 → a ≠ b → (TJ0 a).2.1 ≠ (TJ0 b).2.1 := by decide +kernel
theorem tyJ0_ok : ∀ k, k < 0 → parseFieldDescriptor (TJ0 k).2.2.1 = some (tyJ0 k) := by decide +kernel
def RJ10 : String := "java/lang/System"
def TJ10 : u_T := fun k => match k with
  | _ => ("", "", "", false)
def tyJ10 : Nat → FieldType := fun k => match k with
  | _ => .int
abbrev wsJ100 : List Cond := u_ws RJ10 TJ10 0
theorem nmJ10 : ∀ a, a < 0 → ∀ b, b < 0 → a ≠ b → (TJ10 a).2.1 ≠ (TJ10 b).2.1 := by decide +kernel
theorem tyJ10_ok : ∀ k, k < 0 → parseFieldDescriptor (TJ10 k).2.2.1 = some (tyJ10 k) := by decide +kernel
def RJxa1e45 : String := "java/util/AbstractCollection"
def TJxa1e45 : u_T := fun k => match k with
  | _ => ("", "", "", false)
def tyJxa1e45 : Nat → FieldType := fun k => match k with
  | _ => .int
abbrev wsJxa1e450 : List Cond := u_ws RJxa1e45 TJxa1e45 0
theorem nmJxa1e45 : ∀ a, a < 0 → ∀ b, b < 0 → a ≠ b → (TJxa1e45 a).2.1 ≠ (TJxa1e45 b).2.1 := by decide +kernel
theorem tyJxa1e45_ok : ∀ k, k < 0 → parseFieldDescriptor (TJxa1e45 k).2.2.1 = some (tyJxa1e45 k) := by decide +kernel
abbrev cJxa1e45_init_da8c8 : ByteArray := prog_27_method_1_code
def yJxa1e45_init_da8c8 : MethodName := ⟨RJxa1e45, "<init>", "()V"⟩
def RJxc12de : String := "java/util/AbstractList"
def TJxc12de : u_T := fun k => match k with
  | _ => ("", "", "", false)
def tyJxc12de : Nat → FieldType := fun k => match k with
  | _ => .int
abbrev wsJxc12de0 : List Cond := u_ws RJxc12de TJxc12de 0
theorem nmJxc12de : ∀ a, a < 0 → ∀ b, b < 0 → a ≠ b → (TJxc12de a).2.1 ≠ (TJxc12de b).2.1 := by decide +kernel
theorem tyJxc12de_ok : ∀ k, k < 0 → parseFieldDescriptor (TJxc12de k).2.2.1 = some (tyJxc12de k) := by decide +kernel
abbrev cJxc12de_init_da8c8 : ByteArray := prog_28_method_1_code
def yJxc12de_init_da8c8 : MethodName := ⟨RJxc12de, "<init>", "()V"⟩
def RJx4a65c : String := "java/util/ArrayList"
def TJx4a65c : u_T := fun k => match k with
  | 0 => ("java/util/AbstractList", "modCount", "I", false)
  | 1 => ("java/util/ArrayList", "elementData", "[Ljava/lang/Object;", false)
  | _ => ("java/util/ArrayList", "size", "I", false)
def tyJx4a65c : Nat → FieldType := fun k => match k with
  | 0 => .int
  | 1 => .array (.object "java/lang/Object")
  | _ => .int
abbrev wsJx4a65c0 : List Cond := u_ws RJx4a65c TJx4a65c 3
theorem nmJx4a65c : ∀ a, a < 3 → ∀ b, b < 3 → a ≠ b → (TJx4a65c a).2.1 ≠ (TJx4a65c b).2.1 := by decide +kernel
theorem tyJx4a65c_ok : ∀ k, k < 3 → parseFieldDescriptor (TJx4a65c k).2.2.1 = some (tyJx4a65c k) := by decide +kernel
abbrev cJx4a65c_init_da8c8 : ByteArray := prog_29_method_2_code
def yJx4a65c_init_da8c8 : MethodName := ⟨RJx4a65c, "<init>", "()V"⟩
abbrev cJx4a65c_grow_92f84 : ByteArray := prog_29_method_6_code
def yJx4a65c_grow_92f84 : MethodName := ⟨RJx4a65c, "grow", "(I)[Ljava/lang/Object;"⟩
abbrev cJx4a65c_grow_d5877 : ByteArray := prog_29_method_7_code
def yJx4a65c_grow_d5877 : MethodName := ⟨RJx4a65c, "grow", "()[Ljava/lang/Object;"⟩
abbrev cJx4a65c_size_8abf5 : ByteArray := prog_29_method_8_code
def yJx4a65c_size_8abf5 : MethodName := ⟨RJx4a65c, "size", "()I"⟩
abbrev cJx4a65c_elementData_915e3 : ByteArray := prog_29_method_18_code
def yJx4a65c_elementData_915e3 : MethodName := ⟨RJx4a65c, "elementData", "(I)Ljava/lang/Object;"⟩
abbrev cJx4a65c_get_915e3 : ByteArray := prog_29_method_20_code
def yJx4a65c_get_915e3 : MethodName := ⟨RJx4a65c, "get", "(I)Ljava/lang/Object;"⟩
abbrev cJx4a65c_add_72be8 : ByteArray := prog_29_method_24_code
def yJx4a65c_add_72be8 : MethodName := ⟨RJx4a65c, "add", "(Ljava/lang/Object;[Ljava/lang/Object;I)V"⟩
abbrev cJx4a65c_add_9ea2d : ByteArray := prog_29_method_25_code
def yJx4a65c_add_9ea2d : MethodName := ⟨RJx4a65c, "add", "(Ljava/lang/Object;)Z"⟩
abbrev cJx4a65c_clear_da8c8 : ByteArray := prog_29_method_40_code
def yJx4a65c_clear_da8c8 : MethodName := ⟨RJx4a65c, "clear", "()V"⟩
def RJ7 : String := "java/util/Arrays"
def TJ7 : u_T := fun k => match k with
  | _ => ("", "", "", false)
def tyJ7 : Nat → FieldType := fun k => match k with
  | _ => .int
abbrev wsJ70 : List Cond := u_ws RJ7 TJ7 0
theorem nmJ7 : ∀ a, a < 0 → ∀ b, b < 0 → a ≠ b → (TJ7 a).2.1 ≠ (TJ7 b).2.1 := by decide +kernel
theorem tyJ7_ok : ∀ k, k < 0 → parseFieldDescriptor (TJ7 k).2.2.1 = some (tyJ7 k) := by decide +kernel
abbrev cJ7_copyOf_1904c : ByteArray := prog_30_method_119_code
def yJ7_copyOf_1904c : MethodName := ⟨RJ7, "copyOf", "([Ljava/lang/Object;I)[Ljava/lang/Object;"⟩
abbrev cJ7_copyOf_6403c : ByteArray := prog_30_method_120_code
def yJ7_copyOf_6403c : MethodName := ⟨RJ7, "copyOf", "([Ljava/lang/Object;ILjava/lang/Class;)[Ljava/lang/Object;"⟩
def RJx5ef63 : String := "java/util/Collection"
def TJx5ef63 : u_T := fun k => match k with
  | _ => ("", "", "", false)
def tyJx5ef63 : Nat → FieldType := fun k => match k with
  | _ => .int
abbrev wsJx5ef630 : List Cond := u_ws RJx5ef63 TJx5ef63 0
theorem nmJx5ef63 : ∀ a, a < 0 → ∀ b, b < 0 → a ≠ b → (TJx5ef63 a).2.1 ≠ (TJx5ef63 b).2.1 := by decide +kernel
theorem tyJx5ef63_ok : ∀ k, k < 0 → parseFieldDescriptor (TJx5ef63 k).2.2.1 = some (tyJx5ef63 k) := by decide +kernel
def RJxbd725 : String := "java/util/List"
def TJxbd725 : u_T := fun k => match k with
  | _ => ("", "", "", false)
def tyJxbd725 : Nat → FieldType := fun k => match k with
  | _ => .int
abbrev wsJxbd7250 : List Cond := u_ws RJxbd725 TJxbd725 0
theorem nmJxbd725 : ∀ a, a < 0 → ∀ b, b < 0 → a ≠ b → (TJxbd725 a).2.1 ≠ (TJxbd725 b).2.1 := by decide +kernel
theorem tyJxbd725_ok : ∀ k, k < 0 → parseFieldDescriptor (TJxbd725 k).2.2.1 = some (tyJxbd725 k) := by decide +kernel
def RJ15 : String := "java/util/Objects"
def TJ15 : u_T := fun k => match k with
  | _ => ("", "", "", false)
def tyJ15 : Nat → FieldType := fun k => match k with
  | _ => .int
abbrev wsJ150 : List Cond := u_ws RJ15 TJ15 0
theorem nmJ15 : ∀ a, a < 0 → ∀ b, b < 0 → a ≠ b → (TJ15 a).2.1 ≠ (TJ15 b).2.1 := by decide +kernel
theorem tyJ15_ok : ∀ k, k < 0 → parseFieldDescriptor (TJ15 k).2.2.1 = some (tyJ15 k) := by decide +kernel
abbrev cJ15_checkIndex_7cf53 : ByteArray := prog_33_method_17_code
def yJ15_checkIndex_7cf53 : MethodName := ⟨RJ15, "checkIndex", "(II)I"⟩
def RJxf0a74 : String := "java/util/RandomAccess"
def TJxf0a74 : u_T := fun k => match k with
  | _ => ("", "", "", false)
def tyJxf0a74 : Nat → FieldType := fun k => match k with
  | _ => .int
abbrev wsJxf0a740 : List Cond := u_ws RJxf0a74 TJxf0a74 0
theorem nmJxf0a74 : ∀ a, a < 0 → ∀ b, b < 0 → a ≠ b → (TJxf0a74 a).2.1 ≠ (TJxf0a74 b).2.1 := by decide +kernel
theorem tyJxf0a74_ok : ∀ k, k < 0 → parseFieldDescriptor (TJxf0a74 k).2.2.1 = some (tyJxf0a74 k) := by decide +kernel
def RJxa66e6 : String := "java/util/SequencedCollection"
def TJxa66e6 : u_T := fun k => match k with
  | _ => ("", "", "", false)
def tyJxa66e6 : Nat → FieldType := fun k => match k with
  | _ => .int
abbrev wsJxa66e60 : List Cond := u_ws RJxa66e6 TJxa66e6 0
theorem nmJxa66e6 : ∀ a, a < 0 → ∀ b, b < 0 → a ≠ b → (TJxa66e6 a).2.1 ≠ (TJxa66e6 b).2.1 := by decide +kernel
theorem tyJxa66e6_ok : ∀ k, k < 0 → parseFieldDescriptor (TJxa66e6 k).2.2.1 = some (tyJxa66e6 k) := by decide +kernel
def RJ8 : String := "jdk/internal/util/ArraysSupport"
def TJ8 : u_T := fun k => match k with
  | _ => ("", "", "", false)
def tyJ8 : Nat → FieldType := fun k => match k with
  | _ => .int
abbrev wsJ80 : List Cond := u_ws RJ8 TJ8 0
theorem nmJ8 : ∀ a, a < 0 → ∀ b, b < 0 → a ≠ b → (TJ8 a).2.1 ≠ (TJ8 b).2.1 := by decide +kernel
theorem tyJ8_ok : ∀ k, k < 0 → parseFieldDescriptor (TJ8 k).2.2.1 = some (tyJ8 k) := by decide +kernel
abbrev cJ8_newLength_cabcc : ByteArray := prog_36_method_27_code
def yJ8_newLength_cabcc : MethodName := ⟨RJ8, "newLength", "(III)I"⟩
abbrev cJ8_hugeLength_7cf53 : ByteArray := prog_36_method_28_code
def yJ8_hugeLength_7cf53 : MethodName := ⟨RJ8, "hugeLength", "(II)I"⟩
def RJ3 : String := "jdk/internal/util/Preconditions"
def TJ3 : u_T := fun k => match k with
  | _ => ("", "", "", false)
def tyJ3 : Nat → FieldType := fun k => match k with
  | _ => .int
abbrev wsJ30 : List Cond := u_ws RJ3 TJ3 0
theorem nmJ3 : ∀ a, a < 0 → ∀ b, b < 0 → a ≠ b → (TJ3 a).2.1 ≠ (TJ3 b).2.1 := by decide +kernel
theorem tyJ3_ok : ∀ k, k < 0 → parseFieldDescriptor (TJ3 k).2.2.1 = some (tyJ3 k) := by decide +kernel
abbrev cJ3_checkIndex_8e157 : ByteArray := prog_37_method_11_code
def yJ3_checkIndex_8e157 : MethodName := ⟨RJ3, "checkIndex", "(IILjava/util/function/BiFunction;)I"⟩
def RL : String := "BookExchangeLaw"
abbrev cL_draw : ByteArray := method_2_code
def yL_draw : MethodName := ⟨RL, "draw", "([II)I"⟩
abbrev cL_ofUncross : ByteArray := method_3_code
def yL_ofUncross : MethodName := ⟨RL, "ofUncross", "(LBookExchange;I)I"⟩
abbrev cL_ofOrder : ByteArray := method_4_code
def yL_ofOrder : MethodName := ⟨RL, "ofOrder", "(LBookExchange;IIZIII)I"⟩
abbrev cL_ofNow : ByteArray := method_5_code
def yL_ofNow : MethodName := ⟨RL, "ofNow", "(LBookExchange;IIZII)I"⟩
abbrev cL_ofStop : ByteArray := method_6_code
def yL_ofStop : MethodName := ⟨RL, "ofStop", "(LBookExchange;IIZIII)I"⟩
abbrev cL_ofQuote : ByteArray := method_7_code
def yL_ofQuote : MethodName := ⟨RL, "ofQuote", "(LBookExchange;IIIII)I"⟩
abbrev cL_ofCancel : ByteArray := method_8_code
def yL_ofCancel : MethodName := ⟨RL, "ofCancel", "(LBookExchange;I)I"⟩
abbrev cL_ofBust : ByteArray := method_9_code
def yL_ofBust : MethodName := ⟨RL, "ofBust", "(LBookExchange;I)I"⟩
abbrev cL_ofFail : ByteArray := method_10_code
def yL_ofFail : MethodName := ⟨RL, "ofFail", "(LBookExchange;I)I"⟩
abbrev cL_ofDeposit : ByteArray := method_11_code
def yL_ofDeposit : MethodName := ⟨RL, "ofDeposit", "(LBookExchange;II)I"⟩
abbrev cL_ofBid : ByteArray := method_12_code
def yL_ofBid : MethodName := ⟨RL, "ofBid", "(LBookExchange;II)I"⟩
abbrev cL_notes : ByteArray := method_13_code
def yL_notes : MethodName := ⟨RL, "notes", "(LBookExchange;[I[IIIIZ)Z"⟩
abbrev cL_priceFor : ByteArray := method_14_code
def yL_priceFor : MethodName := ⟨RL, "priceFor", "(II)I"⟩
abbrev cL_step : ByteArray := method_15_code
def yL_step : MethodName := ⟨RL, "step", "(LBookExchange;[I[IIII)Z"⟩
abbrev cL_ofCancel2 : ByteArray := method_16_code
def yL_ofCancel2 : MethodName := ⟨RL, "ofCancel2", "(LBookExchange;)I"⟩
abbrev cL_fails : ByteArray := method_17_code
def yL_fails : MethodName := ⟨RL, "fails", "(LBookExchange;[II)Z"⟩
abbrev cL_isWhole : ByteArray := method_18_code
def yL_isWhole : MethodName := ⟨RL, "isWhole", "(LBookExchange;[I[I)Z"⟩
abbrev cL_areOrders : ByteArray := method_19_code
def yL_areOrders : MethodName := ⟨RL, "areOrders", "(LBookExchange;[I[I)Z"⟩
abbrev cL_areTrades : ByteArray := method_20_code
def yL_areTrades : MethodName := ⟨RL, "areTrades", "(LBookExchange;I)Z"⟩
abbrev cL_law : ByteArray := code
def yL_law : MethodName := ⟨RL, "law", "([I)Z"⟩
