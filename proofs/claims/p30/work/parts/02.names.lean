def RX0 : String := "PurseOfNineBowls$Ahead"
def TX0 : u_T := fun k => match k with
  | 0 => ("PurseOfNineBowls$Ahead", "line", "[LPurseOfNineBowls$Table;", true)
  | _ => ("PurseOfNineBowls$Ahead", "chosen", "[I", true)
def tyX0 : Nat → FieldType := fun k => match k with
  | 0 => .array (.object "PurseOfNineBowls$Table")
  | _ => .array (.int)
theorem nmX0 : ∀ a, a < 2 → ∀ b, b < 2 → a ≠ b → (TX0 a).2.1 ≠ (TX0 b).2.1 := by decide +kernel
theorem tyX0_ok : ∀ k, k < 2 → parseFieldDescriptor (TX0 k).2.2.1 = some (tyX0 k) := by decide +kernel
def RX1 : String := "PurseOfNineBowls$Emptying"
def TX1 : u_T := fun k => match k with
  | 0 => ("PurseOfNineBowls$Emptying", "rings", "[J", true)
  | 1 => ("PurseOfNineBowls$Emptying", "firsts", "[I", true)
  | 2 => ("PurseOfNineBowls$Emptying", "slots", "[I", true)
  | 3 => ("PurseOfNineBowls$Emptying", "from", "LPurseOfNineBowls$Table;", true)
  | 4 => ("PurseOfNineBowls$Emptying", "to", "LPurseOfNineBowls$Table;", true)
  | 5 => ("PurseOfNineBowls$Emptying", "held", "I", false)
  | 6 => ("PurseOfNineBowls$Emptying", "moves", "I", false)
  | _ => ("PurseOfNineBowls$Emptying", "first", "I", false)
def tyX1 : Nat → FieldType := fun k => match k with
  | 0 => .array (.long)
  | 1 => .array (.int)
  | 2 => .array (.int)
  | 3 => .object "PurseOfNineBowls$Table"
  | 4 => .object "PurseOfNineBowls$Table"
  | 5 => .int
  | 6 => .int
  | _ => .int
theorem nmX1 : ∀ a, a < 8 → ∀ b, b < 8 → a ≠ b → (TX1 a).2.1 ≠ (TX1 b).2.1 := by decide +kernel
theorem tyX1_ok : ∀ k, k < 8 → parseFieldDescriptor (TX1 k).2.2.1 = some (tyX1 k) := by decide +kernel
def RX2 : String := "PurseOfNineBowls$Letters"
def TX2 : u_T := fun k => match k with
  | 0 => ("PurseOfNineBowls$Letters", "letters", "[I", true)
  | _ => ("PurseOfNineBowls$Letters", "held", "I", false)
def tyX2 : Nat → FieldType := fun k => match k with
  | 0 => .array (.int)
  | _ => .int
theorem nmX2 : ∀ a, a < 2 → ∀ b, b < 2 → a ≠ b → (TX2 a).2.1 ≠ (TX2 b).2.1 := by decide +kernel
theorem tyX2_ok : ∀ k, k < 2 → parseFieldDescriptor (TX2 k).2.2.1 = some (tyX2 k) := by decide +kernel
def RX3 : String := "PurseOfNineBowls$Table"
def TX3 : u_T := fun k => match k with
  | 0 => ("PurseOfNineBowls$Table", "kinds", "[I", true)
  | 1 => ("PurseOfNineBowls$Table", "beans", "[I", true)
  | 2 => ("PurseOfNineBowls$Table", "purses", "[I", true)
  | 3 => ("PurseOfNineBowls$Table", "held", "I", false)
  | 4 => ("PurseOfNineBowls$Table", "fullness", "I", false)
  | 5 => ("PurseOfNineBowls$Table", "lent", "I", false)
  | 6 => ("PurseOfNineBowls$Table", "turn", "I", false)
  | 7 => ("PurseOfNineBowls$Table", "moves", "I", false)
  | 8 => ("PurseOfNineBowls$Table", "hands", "I", false)
  | 9 => ("PurseOfNineBowls$Table", "last", "I", false)
  | 10 => ("PurseOfNineBowls$Table", "sown", "I", false)
  | _ => ("PurseOfNineBowls$Table", "taken", "I", false)
def tyX3 : Nat → FieldType := fun k => match k with
  | 0 => .array (.int)
  | 1 => .array (.int)
  | 2 => .array (.int)
  | 3 => .int
  | 4 => .int
  | 5 => .int
  | 6 => .int
  | 7 => .int
  | 8 => .int
  | 9 => .int
  | 10 => .int
  | _ => .int
theorem nmX3 : ∀ a, a < 12 → ∀ b, b < 12 → a ≠ b → (TX3 a).2.1 ≠ (TX3 b).2.1 := by decide +kernel
theorem tyX3_ok : ∀ k, k < 12 → parseFieldDescriptor (TX3 k).2.2.1 = some (tyX3 k) := by decide +kernel
def RX4 : String := "PurseOfNineBowls$Ways"
def TX4 : u_T := fun k => match k with
  | 0 => ("PurseOfNineBowls$Ways", "ways", "[J", true)
  | _ => ("PurseOfNineBowls$Ways", "asked", "[I", true)
def tyX4 : Nat → FieldType := fun k => match k with
  | 0 => .array (.long)
  | _ => .array (.int)
theorem nmX4 : ∀ a, a < 2 → ∀ b, b < 2 → a ≠ b → (TX4 a).2.1 ≠ (TX4 b).2.1 := by decide +kernel
theorem tyX4_ok : ∀ k, k < 2 → parseFieldDescriptor (TX4 k).2.2.1 = some (tyX4 k) := by decide +kernel
def RX5 : String := "PurseOfNineBowls"
def TX5 : u_T := fun k => match k with
  | 0 => ("PurseOfNineBowls", "now", "LPurseOfNineBowls$Table;", true)
  | 1 => ("PurseOfNineBowls", "pictured", "LPurseOfNineBowls$Table;", true)
  | 2 => ("PurseOfNineBowls", "hasPicture", "Z", false)
  | 3 => ("PurseOfNineBowls", "trial", "LPurseOfNineBowls$Table;", true)
  | 4 => ("PurseOfNineBowls", "second", "LPurseOfNineBowls$Table;", true)
  | 5 => ("PurseOfNineBowls", "text", "LPurseOfNineBowls$Letters;", true)
  | 6 => ("PurseOfNineBowls", "ahead", "LPurseOfNineBowls$Ahead;", true)
  | 7 => ("PurseOfNineBowls", "emptying", "LPurseOfNineBowls$Emptying;", true)
  | 8 => ("PurseOfNineBowls", "ways", "LPurseOfNineBowls$Ways;", true)
  | 9 => ("PurseOfNineBowls", "told", "[I", true)
  | 10 => ("PurseOfNineBowls", "toldHeld", "I", false)
  | _ => ("PurseOfNineBowls", "refused", "[I", true)
def tyX5 : Nat → FieldType := fun k => match k with
  | 0 => .object "PurseOfNineBowls$Table"
  | 1 => .object "PurseOfNineBowls$Table"
  | 2 => .boolean
  | 3 => .object "PurseOfNineBowls$Table"
  | 4 => .object "PurseOfNineBowls$Table"
  | 5 => .object "PurseOfNineBowls$Letters"
  | 6 => .object "PurseOfNineBowls$Ahead"
  | 7 => .object "PurseOfNineBowls$Emptying"
  | 8 => .object "PurseOfNineBowls$Ways"
  | 9 => .array (.int)
  | 10 => .int
  | _ => .array (.int)
theorem nmX5 : ∀ a, a < 12 → ∀ b, b < 12 → a ≠ b → (TX5 a).2.1 ≠ (TX5 b).2.1 := by decide +kernel
theorem tyX5_ok : ∀ k, k < 12 → parseFieldDescriptor (TX5 k).2.2.1 = some (tyX5 k) := by decide +kernel
def RX6 : String := "PurseOfNineBowlsModel"
def TX6 : u_T := fun k => match k with
  | 0 => ("PurseOfNineBowlsModel", "thrown", "I", false)
  | 1 => ("PurseOfNineBowlsModel", "kinds", "[I", true)
  | 2 => ("PurseOfNineBowlsModel", "beans", "[I", true)
  | 3 => ("PurseOfNineBowlsModel", "bowlMany", "I", false)
  | 4 => ("PurseOfNineBowlsModel", "fullness", "I", false)
  | 5 => ("PurseOfNineBowlsModel", "lent", "I", false)
  | 6 => ("PurseOfNineBowlsModel", "purses", "[I", true)
  | 7 => ("PurseOfNineBowlsModel", "turn", "I", false)
  | 8 => ("PurseOfNineBowlsModel", "moveMany", "I", false)
  | 9 => ("PurseOfNineBowlsModel", "refused", "[I", true)
  | 10 => ("PurseOfNineBowlsModel", "letters", "[I", true)
  | 11 => ("PurseOfNineBowlsModel", "letterMany", "I", false)
  | 12 => ("PurseOfNineBowlsModel", "rowNow", "[I", true)
  | 13 => ("PurseOfNineBowlsModel", "rowMany", "I", false)
  | 14 => ("PurseOfNineBowlsModel", "handMany", "I", false)
  | 15 => ("PurseOfNineBowlsModel", "lastGot", "I", false)
  | 16 => ("PurseOfNineBowlsModel", "sownMany", "I", false)
  | 17 => ("PurseOfNineBowlsModel", "won", "I", false)
  | 18 => ("PurseOfNineBowlsModel", "isAside", "Z", false)
  | 19 => ("PurseOfNineBowlsModel", "frames", "[I", true)
  | 20 => ("PurseOfNineBowlsModel", "badAt", "I", false)
  | 21 => ("PurseOfNineBowlsModel", "kindsAside", "[I", true)
  | 22 => ("PurseOfNineBowlsModel", "found", "I", false)
  | 23 => ("PurseOfNineBowlsModel", "been", "[I", true)
  | 24 => ("PurseOfNineBowlsModel", "ways", "[J", true)
  | 25 => ("PurseOfNineBowlsModel", "waysThen", "[J", true)
  | 26 => ("PurseOfNineBowlsModel", "framesKept", "[I", true)
  | 27 => ("PurseOfNineBowlsModel", "kindsKept", "[I", true)
  | 28 => ("PurseOfNineBowlsModel", "manyKept", "I", false)
  | 29 => ("PurseOfNineBowlsModel", "fullKept", "I", false)
  | 30 => ("PurseOfNineBowlsModel", "lentKept", "I", false)
  | _ => ("PurseOfNineBowlsModel", "movesKept", "I", false)
def tyX6 : Nat → FieldType := fun k => match k with
  | 0 => .int
  | 1 => .array (.int)
  | 2 => .array (.int)
  | 3 => .int
  | 4 => .int
  | 5 => .int
  | 6 => .array (.int)
  | 7 => .int
  | 8 => .int
  | 9 => .array (.int)
  | 10 => .array (.int)
  | 11 => .int
  | 12 => .array (.int)
  | 13 => .int
  | 14 => .int
  | 15 => .int
  | 16 => .int
  | 17 => .int
  | 18 => .boolean
  | 19 => .array (.int)
  | 20 => .int
  | 21 => .array (.int)
  | 22 => .int
  | 23 => .array (.int)
  | 24 => .array (.long)
  | 25 => .array (.long)
  | 26 => .array (.int)
  | 27 => .array (.int)
  | 28 => .int
  | 29 => .int
  | 30 => .int
  | _ => .int
theorem nmX6 : ∀ a, a < 32 → ∀ b, b < 32 → a ≠ b → (TX6 a).2.1 ≠ (TX6 b).2.1 := by decide +kernel
theorem tyX6_ok : ∀ k, k < 32 → parseFieldDescriptor (TX6 k).2.2.1 = some (tyX6 k) := by decide +kernel
def RJ9 : String := "java/lang/Math"
def RJ10 : String := "java/lang/System"
def RJ7 : String := "java/util/Arrays"
def yX0_init : MethodName := ⟨RX0, "<init>", "()V"⟩
def yX0_gainFor : MethodName := ⟨RX0, "gainFor", "(LPurseOfNineBowls$Table;I)I"⟩
def yX0_bowlFor : MethodName := ⟨RX0, "bowlFor", "(LPurseOfNineBowls$Table;I)I"⟩
def yX0_gainOf : MethodName := ⟨RX0, "gainOf", "([LPurseOfNineBowls$Table;[IIIII)I"⟩
def yX1_init : MethodName := ⟨RX1, "<init>", "()V"⟩
def yX1_seek : MethodName := ⟨RX1, "seek", "(LPurseOfNineBowls$Table;I)V"⟩
def yX1_goOnFrom : MethodName := ⟨RX1, "goOnFrom", "(III)V"⟩
def yX1_keep : MethodName := ⟨RX1, "keep", "(JI)V"⟩
def yX2_init : MethodName := ⟨RX2, "<init>", "()V"⟩
def yX2_add : MethodName := ⟨RX2, "add", "(I)Z"⟩
def yX2_clear : MethodName := ⟨RX2, "clear", "()V"⟩
def yX2_playOn : MethodName := ⟨RX2, "playOn", "(LPurseOfNineBowls$Table;)I"⟩
def yX2_stuckAt : MethodName := ⟨RX2, "stuckAt", "()I"⟩
def yX2_stuckIn : MethodName := ⟨RX2, "stuckIn", "(I)I"⟩
def yX2_letterAt : MethodName := ⟨RX2, "letterAt", "(I)I"⟩
def yX2_digitAt : MethodName := ⟨RX2, "digitAt", "(I)I"⟩
def yX2_digitsFrom : MethodName := ⟨RX2, "digitsFrom", "(II)I"⟩
def yX2_behindStatement : MethodName := ⟨RX2, "behindStatement", "(I)I"⟩
def yX2_mostDigits : MethodName := ⟨RX2, "mostDigits", "(I)I"⟩
def yX2_leastDigits : MethodName := ⟨RX2, "leastDigits", "(I)I"⟩
def yX2_kindFor : MethodName := ⟨RX2, "kindFor", "(I)I"⟩
def yX2_apply : MethodName := ⟨RX2, "apply", "(ILPurseOfNineBowls$Table;)Z"⟩
def yX2_addBowl : MethodName := ⟨RX2, "addBowl", "(ILPurseOfNineBowls$Table;)Z"⟩
def yX2_makeMoves : MethodName := ⟨RX2, "makeMoves", "(ILPurseOfNineBowls$Table;)Z"⟩
def yX3_init : MethodName := ⟨RX3, "<init>", "()V"⟩
def yX3_copyFrom : MethodName := ⟨RX3, "copyFrom", "(LPurseOfNineBowls$Table;)V"⟩
def yX3_has : MethodName := ⟨RX3, "has", "(I)Z"⟩
def yX3_addBowl : MethodName := ⟨RX3, "addBowl", "(II)Z"⟩
def yX3_kindOf : MethodName := ⟨RX3, "kindOf", "(I)I"⟩
def yX3_beansOf : MethodName := ⟨RX3, "beansOf", "(I)I"⟩
def yX3_purseOf : MethodName := ⟨RX3, "purseOf", "(I)I"⟩
def yX3_lay : MethodName := ⟨RX3, "lay", "(II)V"⟩
def yX3_swapBeans : MethodName := ⟨RX3, "swapBeans", "(II)V"⟩
def yX3_allBeans : MethodName := ⟨RX3, "allBeans", "()I"⟩
def yX3_sameBeans : MethodName := ⟨RX3, "sameBeans", "(LPurseOfNineBowls$Table;)Z"⟩
def yX3_soundsFrom : MethodName := ⟨RX3, "soundsFrom", "(I)I"⟩
def yX3_isFull : MethodName := ⟨RX3, "isFull", "(I)Z"⟩
def yX3_takes : MethodName := ⟨RX3, "takes", "(I)Z"⟩
def yX3_canMove : MethodName := ⟨RX3, "canMove", "(I)Z"⟩
def yX3_makeMove : MethodName := ⟨RX3, "makeMove", "(I)V"⟩
def yX3_sowHand : MethodName := ⟨RX3, "sowHand", "(I)Z"⟩
def yX3_rightOrLeftOf : MethodName := ⟨RX3, "rightOrLeftOf", "(I)I"⟩
def yX3_takeSingle : MethodName := ⟨RX3, "takeSingle", "()Z"⟩
def yX3_beansInOne : MethodName := ⟨RX3, "beansInOne", "()J"⟩
def yX3_layFrom : MethodName := ⟨RX3, "layFrom", "(J)V"⟩
def yX4_init : MethodName := ⟨RX4, "<init>", "()V"⟩
def yX4_toLay : MethodName := ⟨RX4, "toLay", "(LPurseOfNineBowls$Table;[II)J"⟩
def yX4_layOneMore : MethodName := ⟨RX4, "layOneMore", "(II)V"⟩
def yX4_bowlToAsk : MethodName := ⟨RX4, "bowlToAsk", "(LPurseOfNineBowls$Table;[II)I"⟩
def yX5_init : MethodName := ⟨RX5, "<init>", "()V"⟩
def yX5_letter : MethodName := ⟨RX5, "letter", "(I)I"⟩
def yX5_game : MethodName := ⟨RX5, "game", "()I"⟩
def yX5_bowl : MethodName := ⟨RX5, "bowl", "(II)I"⟩
def yX5_put : MethodName := ⟨RX5, "put", "(II)I"⟩
def yX5_set : MethodName := ⟨RX5, "set", "(II)I"⟩
def yX5_move : MethodName := ⟨RX5, "move", "(I)I"⟩
def yX5_by : MethodName := ⟨RX5, "by", "(II)I"⟩
def yX5_behind : MethodName := ⟨RX5, "behind", "(II)I"⟩
def yX5_empties : MethodName := ⟨RX5, "empties", "(I)I"⟩
def yX5_longest : MethodName := ⟨RX5, "longest", "()I"⟩
def yX5_best : MethodName := ⟨RX5, "best", "(I)I"⟩
def yX5_worth : MethodName := ⟨RX5, "worth", "(I)I"⟩
def yX5_lost : MethodName := ⟨RX5, "lost", "()I"⟩
def yX5_back : MethodName := ⟨RX5, "back", "(I)I"⟩
def yX5_loop : MethodName := ⟨RX5, "loop", "(II)I"⟩
def yX5_toEmpty : MethodName := ⟨RX5, "toEmpty", "(II)I"⟩
def yX5_price : MethodName := ⟨RX5, "price", "(I)I"⟩
def yX5_sold : MethodName := ⟨RX5, "sold", "(I)I"⟩
def yX5_change : MethodName := ⟨RX5, "change", "()I"⟩
def yX5_fair : MethodName := ⟨RX5, "fair", "()I"⟩
def yX5_sounds : MethodName := ⟨RX5, "sounds", "(I)I"⟩
def yX5_next : MethodName := ⟨RX5, "next", "(I)I"⟩
def yX5_played : MethodName := ⟨RX5, "played", "(I)I"⟩
def yX5_row : MethodName := ⟨RX5, "row", "(I)I"⟩
def yX5_judge : MethodName := ⟨RX5, "judge", "()I"⟩
def yX5_lots : MethodName := ⟨RX5, "lots", "(II)I"⟩
def yX5_image : MethodName := ⟨RX5, "image", "()I"⟩
def yX5_on : MethodName := ⟨RX5, "on", "()I"⟩
def yX5_count : MethodName := ⟨RX5, "count", "(I)I"⟩
def yX5_refuse : MethodName := ⟨RX5, "refuse", "(I)I"⟩
def yX5_refuseFar : MethodName := ⟨RX5, "refuseFar", "(I)I"⟩
def yX5_tryMove : MethodName := ⟨RX5, "tryMove", "(I)Z"⟩
def yX5_roundOf : MethodName := ⟨RX5, "roundOf", "(I)I"⟩
def yX5_entryOf : MethodName := ⟨RX5, "entryOf", "(II)I"⟩
def yX5_worthChange : MethodName := ⟨RX5, "worthChange", "(II)I"⟩
def yX5_refusalToLay : MethodName := ⟨RX5, "refusalToLay", "(I)I"⟩
def yX5_playRow : MethodName := ⟨RX5, "playRow", "()I"⟩
def yX5_playLot : MethodName := ⟨RX5, "playLot", "(I)I"⟩
def yX6_in : MethodName := ⟨RX6, "in", "(JJJ)Z"⟩
def yX6_init : MethodName := ⟨RX6, "<init>", "()V"⟩
def yX6_refuse : MethodName := ⟨RX6, "refuse", "(I)I"⟩
def yX6_isBowl : MethodName := ⟨RX6, "isBowl", "(I)Z"⟩
def yX6_soundsFrom : MethodName := ⟨RX6, "soundsFrom", "(I)I"⟩
def yX6_takes : MethodName := ⟨RX6, "takes", "(I)Z"⟩
def yX6_beside : MethodName := ⟨RX6, "beside", "(I)I"⟩
def yX6_sowsHand : MethodName := ⟨RX6, "sowsHand", "(I)I"⟩
def yX6_sows : MethodName := ⟨RX6, "sows", "(I)V"⟩
def yX6_canMove : MethodName := ⟨RX6, "canMove", "(I)Z"⟩
def yX6_moves : MethodName := ⟨RX6, "moves", "(I)V"⟩
def yX6_keeps : MethodName := ⟨RX6, "keeps", "(I)V"⟩
def yX6_lays : MethodName := ⟨RX6, "lays", "(I)V"⟩
def yX6_letter : MethodName := ⟨RX6, "letter", "(I)I"⟩
def yX6_letterAt : MethodName := ⟨RX6, "letterAt", "(I)I"⟩
def yX6_isDigit : MethodName := ⟨RX6, "isDigit", "(I)Z"⟩
def yX6_kindOf : MethodName := ⟨RX6, "kindOf", "(I)I"⟩
def yX6_digitsFrom : MethodName := ⟨RX6, "digitsFrom", "(II)I"⟩
def yX6_passes : MethodName := ⟨RX6, "passes", "(I)I"⟩
def yX6_digit : MethodName := ⟨RX6, "digit", "(I)I"⟩
def yX6_doesSowings : MethodName := ⟨RX6, "doesSowings", "(I)Z"⟩
def yX6_does : MethodName := ⟨RX6, "does", "(I)Z"⟩
def yX6_exchanges : MethodName := ⟨RX6, "exchanges", "(II)V"⟩
def yX6_game : MethodName := ⟨RX6, "game", "()I"⟩
def yX6_bowl : MethodName := ⟨RX6, "bowl", "(II)I"⟩
def yX6_put : MethodName := ⟨RX6, "put", "(II)I"⟩
def yX6_set : MethodName := ⟨RX6, "set", "(II)I"⟩
def yX6_move : MethodName := ⟨RX6, "move", "(I)I"⟩
def yX6_all : MethodName := ⟨RX6, "all", "()I"⟩
def yX6_by : MethodName := ⟨RX6, "by", "(II)I"⟩
def yX6_behind : MethodName := ⟨RX6, "behind", "(II)I"⟩
def yX6_empties : MethodName := ⟨RX6, "empties", "(I)I"⟩
def yX6_longest : MethodName := ⟨RX6, "longest", "()I"⟩
def yX6_seeks : MethodName := ⟨RX6, "seeks", "(II)I"⟩
def yX6_best : MethodName := ⟨RX6, "best", "(I)I"⟩
def yX6_worthOf : MethodName := ⟨RX6, "worthOf", "(I)I"⟩
def yX6_told : MethodName := ⟨RX6, "told", "(I)I"⟩
def yX6_worth : MethodName := ⟨RX6, "worth", "(I)I"⟩
def yX6_lost : MethodName := ⟨RX6, "lost", "()I"⟩
def yX6_records : MethodName := ⟨RX6, "records", "(I)V"⟩
def yX6_isLike : MethodName := ⟨RX6, "isLike", "(II)Z"⟩
def yX6_records200 : MethodName := ⟨RX6, "records200", "(I)I"⟩
def yX6_back : MethodName := ⟨RX6, "back", "(I)I"⟩
def yX6_loop : MethodName := ⟨RX6, "loop", "(II)I"⟩
def yX6_isEmptied : MethodName := ⟨RX6, "isEmptied", "(III)Z"⟩
def yX6_toEmpty : MethodName := ⟨RX6, "toEmpty", "(II)I"⟩
def yX6_worthBy : MethodName := ⟨RX6, "worthBy", "(II)I"⟩
def yX6_price : MethodName := ⟨RX6, "price", "(I)I"⟩
def yX6_sold : MethodName := ⟨RX6, "sold", "(I)I"⟩
def yX6_change : MethodName := ⟨RX6, "change", "()I"⟩
def yX6_fair : MethodName := ⟨RX6, "fair", "()I"⟩
def yX6_isRow : MethodName := ⟨RX6, "isRow", "()Z"⟩
def yX6_waysOf : MethodName := ⟨RX6, "waysOf", "(I)I"⟩
def yX6_sounds : MethodName := ⟨RX6, "sounds", "(I)I"⟩
def yX6_next : MethodName := ⟨RX6, "next", "(I)I"⟩
def yX6_row : MethodName := ⟨RX6, "row", "(I)I"⟩
def yX6_plays : MethodName := ⟨RX6, "plays", "()I"⟩
def yX6_played : MethodName := ⟨RX6, "played", "(I)I"⟩
def yX6_judge : MethodName := ⟨RX6, "judge", "()I"⟩
def yX6_lots : MethodName := ⟨RX6, "lots", "(II)I"⟩
def yX6_image : MethodName := ⟨RX6, "image", "()I"⟩
def yX6_on : MethodName := ⟨RX6, "on", "()I"⟩
def yX6_count : MethodName := ⟨RX6, "count", "(I)I"⟩
def yJ9_max_7cf53 : MethodName := ⟨RJ9, "max", "(II)I"⟩
def yJ9_min_7cf53 : MethodName := ⟨RJ9, "min", "(II)I"⟩
def yJ9_min_f86c9 : MethodName := ⟨RJ9, "min", "(JJ)J"⟩
def yJ7_fill_d0a16 : MethodName := ⟨RJ7, "fill", "([JJ)V"⟩
def yJ7_fill_53178 : MethodName := ⟨RJ7, "fill", "([II)V"⟩
def yL_law : MethodName := ⟨"PurseOfNineBowlsLaw", "law", "([I)Z"⟩
def x_cl : List vw_C := [(RX0, TX0, 2), (RX1, TX1, 8), (RX2, TX2, 2), (RX3, TX3, 12), (RX4, TX4, 2), (RX5, TX5, 12), (RX6, TX6, 32)]
/-- the types of the fields, by the number of their class -/
def x_ty (ci : Nat) : Nat → FieldType := match ci with
  | 0 => tyX0
  | 1 => tyX1
  | 2 => tyX2
  | 3 => tyX3
  | 4 => tyX4
  | 5 => tyX5
  | _ => tyX6
theorem x_ty_ok : ∀ (ci : Nat) (r : vw_C), x_cl[ci]? = some r → (∀ k, k < r.2.2 → parseFieldDescriptor (r.2.1 k).2.2.1 = some (x_ty ci k)) ∧ (∀ a, a < r.2.2 → ∀ b, b < r.2.2 → a ≠ b → (r.2.1 a).2.1 ≠ (r.2.1 b).2.1) := by
  intro ci r h
  match ci, h with
  | 0, h => cases h; exact ⟨tyX0_ok, nmX0⟩
  | 1, h => cases h; exact ⟨tyX1_ok, nmX1⟩
  | 2, h => cases h; exact ⟨tyX2_ok, nmX2⟩
  | 3, h => cases h; exact ⟨tyX3_ok, nmX3⟩
  | 4, h => cases h; exact ⟨tyX4_ok, nmX4⟩
  | 5, h => cases h; exact ⟨tyX5_ok, nmX5⟩
  | 6, h => cases h; exact ⟨tyX6_ok, nmX6⟩
  | n + 7, h => simp [x_cl] at h
def x_nw : List Cond := [.methodLinkNest "PurseOfNineBowls" (9) ({ cls := "PurseOfNineBowls$Table", name := "<init>", desc := "()V" }) "PurseOfNineBowls", .fieldLinkNest "PurseOfNineBowls$Ways" (25) "PurseOfNineBowls$Table" "held" "I" "PurseOfNineBowls", .fieldLinkNest "PurseOfNineBowls$Emptying" (72) "PurseOfNineBowls$Table" "held" "I" "PurseOfNineBowls", .fieldLinkNest "PurseOfNineBowls$Ahead" (40) "PurseOfNineBowls$Table" "held" "I" "PurseOfNineBowls", .fieldLinkNest "PurseOfNineBowls" (147) "PurseOfNineBowls$Table" "held" "I" "PurseOfNineBowls", .fieldLinkNest "PurseOfNineBowls" (109) "PurseOfNineBowls$Table" "fullness" "I" "PurseOfNineBowls", .fieldLinkNest "PurseOfNineBowls$Letters" (56) "PurseOfNineBowls$Table" "fullness" "I" "PurseOfNineBowls", .fieldLinkNest "PurseOfNineBowls" (112) "PurseOfNineBowls$Table" "lent" "I" "PurseOfNineBowls", .fieldLinkNest "PurseOfNineBowls$Letters" (61) "PurseOfNineBowls$Table" "lent" "I" "PurseOfNineBowls", .fieldLinkNest "PurseOfNineBowls" (115) "PurseOfNineBowls$Table" "turn" "I" "PurseOfNineBowls", .fieldLinkNest "PurseOfNineBowls$Letters" (64) "PurseOfNineBowls$Table" "turn" "I" "PurseOfNineBowls", .fieldLinkNest "PurseOfNineBowls" (121) "PurseOfNineBowls$Table" "moves" "I" "PurseOfNineBowls", .fieldLinkNest "PurseOfNineBowls$Letters" (84) "PurseOfNineBowls$Table" "moves" "I" "PurseOfNineBowls", .fieldLinkNest "PurseOfNineBowls" (134) "PurseOfNineBowls$Table" "hands" "I" "PurseOfNineBowls", .fieldLinkNest "PurseOfNineBowls" (137) "PurseOfNineBowls$Table" "last" "I" "PurseOfNineBowls", .fieldLinkNest "PurseOfNineBowls" (140) "PurseOfNineBowls$Table" "sown" "I" "PurseOfNineBowls", .fieldLinkNest "PurseOfNineBowls$Ahead" (52) "PurseOfNineBowls$Table" "taken" "I" "PurseOfNineBowls", .fieldLinkNest "PurseOfNineBowls" (128) "PurseOfNineBowls$Table" "taken" "I" "PurseOfNineBowls", .methodLinkNest "PurseOfNineBowls" (31) ({ cls := "PurseOfNineBowls$Letters", name := "<init>", desc := "()V" }) "PurseOfNineBowls", .fieldLinkNest "PurseOfNineBowls" (76) "PurseOfNineBowls$Letters" "held" "I" "PurseOfNineBowls", .methodLinkNest "PurseOfNineBowls$Ahead" (21) ({ cls := "PurseOfNineBowls$Table", name := "<init>", desc := "()V" }) "PurseOfNineBowls", .methodLinkNest "PurseOfNineBowls" (45) ({ cls := "PurseOfNineBowls$Emptying", name := "<init>", desc := "()V" }) "PurseOfNineBowls", .methodLinkNest "PurseOfNineBowls$Emptying" (24) ({ cls := "PurseOfNineBowls$Table", name := "<init>", desc := "()V" }) "PurseOfNineBowls", .fieldLinkNest "PurseOfNineBowls" (173) "PurseOfNineBowls$Emptying" "moves" "I" "PurseOfNineBowls", .fieldLinkNest "PurseOfNineBowls" (174) "PurseOfNineBowls$Emptying" "first" "I" "PurseOfNineBowls", .methodLinkNest "PurseOfNineBowls" (52) ({ cls := "PurseOfNineBowls$Ways", name := "<init>", desc := "()V" }) "PurseOfNineBowls"]
theorem x_nw_in : ∀ w ∈ x_nw, w ∈ lw_tbl := by
  have h : x_nw = [75, 83, 84, 85, 86, 88, 89, 91, 92, 94, 95, 97, 98, 100, 102, 104, 106, 107, 136, 142, 156, 166, 171, 179, 181, 202].filterMap (fun i => lw_tbl[i]?) := by decide +kernel
  intro w hw
  rw [h] at hw
  obtain ⟨i, -, hi⟩ := List.mem_filterMap.mp hw
  exact List.mem_of_getElem? hi
/-- the words that a contract may carry -/
def x_tb : List Cond := lw_tbl.filter goodWord
theorem x_tb_in {w : Cond} (h : w ∈ lw_tbl) (g : goodWord w = true) : w ∈ x_tb := List.mem_filter.mpr ⟨h, g⟩
theorem x_tb_good : ∀ w ∈ x_tb, ((w.onTables && w.keeps) = true ∨ ∃ ty, w = .arrayClass ty) := fun w h => good_of_word (List.mem_filter.mp h).2
theorem wsX0_in : ∀ w ∈ u_ws RX0 TX0 2, w ∈ x_tb := by
  have h : u_ws RX0 TX0 2 = [159, 161].filterMap (fun i => lw_tbl[i]?) := by decide +kernel
  have g : (u_ws RX0 TX0 2).all goodWord = true := by decide +kernel
  intro w hw
  have g1 := List.all_eq_true.mp g w hw
  rw [h] at hw
  obtain ⟨i, -, hi⟩ := List.mem_filterMap.mp hw
  exact x_tb_in (List.mem_of_getElem? hi) g1
theorem wsX1_in : ∀ w ∈ u_ws RX1 TX1 8, w ∈ x_tb := by
  have h : u_ws RX1 TX1 8 = [182, 184, 186, 188, 190, 192, 194, 196].filterMap (fun i => lw_tbl[i]?) := by decide +kernel
  have g : (u_ws RX1 TX1 8).all goodWord = true := by decide +kernel
  intro w hw
  have g1 := List.all_eq_true.mp g w hw
  rw [h] at hw
  obtain ⟨i, -, hi⟩ := List.mem_filterMap.mp hw
  exact x_tb_in (List.mem_of_getElem? hi) g1
theorem wsX2_in : ∀ w ∈ u_ws RX2 TX2 2, w ∈ x_tb := by
  have h : u_ws RX2 TX2 2 = [143, 145].filterMap (fun i => lw_tbl[i]?) := by decide +kernel
  have g : (u_ws RX2 TX2 2).all goodWord = true := by decide +kernel
  intro w hw
  have g1 := List.all_eq_true.mp g w hw
  rw [h] at hw
  obtain ⟨i, -, hi⟩ := List.mem_filterMap.mp hw
  exact x_tb_in (List.mem_of_getElem? hi) g1
theorem wsX3_in : ∀ w ∈ u_ws RX3 TX3 12, w ∈ x_tb := by
  have h : u_ws RX3 TX3 12 = [108, 110, 112, 114, 116, 118, 120, 122, 124, 126, 128, 130].filterMap (fun i => lw_tbl[i]?) := by decide +kernel
  have g : (u_ws RX3 TX3 12).all goodWord = true := by decide +kernel
  intro w hw
  have g1 := List.all_eq_true.mp g w hw
  rw [h] at hw
  obtain ⟨i, -, hi⟩ := List.mem_filterMap.mp hw
  exact x_tb_in (List.mem_of_getElem? hi) g1
theorem wsX4_in : ∀ w ∈ u_ws RX4 TX4 2, w ∈ x_tb := by
  have h : u_ws RX4 TX4 2 = [208, 210].filterMap (fun i => lw_tbl[i]?) := by decide +kernel
  have g : (u_ws RX4 TX4 2).all goodWord = true := by decide +kernel
  intro w hw
  have g1 := List.all_eq_true.mp g w hw
  rw [h] at hw
  obtain ⟨i, -, hi⟩ := List.mem_filterMap.mp hw
  exact x_tb_in (List.mem_of_getElem? hi) g1
theorem wsX5_in : ∀ w ∈ u_ws RX5 TX5 12, w ∈ x_tb := by
  have h : u_ws RX5 TX5 12 = [225, 227, 229, 231, 233, 235, 237, 239, 241, 243, 245, 247].filterMap (fun i => lw_tbl[i]?) := by decide +kernel
  have g : (u_ws RX5 TX5 12).all goodWord = true := by decide +kernel
  intro w hw
  have g1 := List.all_eq_true.mp g w hw
  rw [h] at hw
  obtain ⟨i, -, hi⟩ := List.mem_filterMap.mp hw
  exact x_tb_in (List.mem_of_getElem? hi) g1
theorem wsX6_in : ∀ w ∈ u_ws RX6 TX6 32, w ∈ x_tb := by
  have h : u_ws RX6 TX6 32 = [661, 663, 665, 667, 669, 671, 673, 675, 677, 679, 681, 683, 685, 687, 689, 691, 693, 695, 697, 699, 701, 703, 705, 707, 709, 711, 713, 715, 717, 719, 721, 723].filterMap (fun i => lw_tbl[i]?) := by decide +kernel
  have g : (u_ws RX6 TX6 32).all goodWord = true := by decide +kernel
  intro w hw
  have g1 := List.all_eq_true.mp g w hw
  rw [h] at hw
  obtain ⟨i, -, hi⟩ := List.mem_filterMap.mp hw
  exact x_tb_in (List.mem_of_getElem? hi) g1
theorem x_ws_in : ∀ (ci : Nat) (r : vw_C), x_cl[ci]? = some r → ∀ w ∈ u_ws r.1 r.2.1 r.2.2, w ∈ x_tb := by
  intro ci r h
  match ci, h with
  | 0, h => cases h; exact wsX0_in
  | 1, h => cases h; exact wsX1_in
  | 2, h => cases h; exact wsX2_in
  | 3, h => cases h; exact wsX3_in
  | 4, h => cases h; exact wsX4_in
  | 5, h => cases h; exact wsX5_in
  | 6, h => cases h; exact wsX6_in
  | n + 7, h => simp [x_cl] at h
theorem insX0 : Cond.instantiable RX0 2 ∈ x_tb := x_tb_in (List.mem_of_getElem? (i := 149) (by decide +kernel)) rfl
theorem iniX0 : Cond.initialized RX0 ∈ x_tb := x_tb_in (List.mem_of_getElem? (i := 58) (by decide +kernel)) rfl
theorem insX1 : Cond.instantiable RX1 8 ∈ x_tb := x_tb_in (List.mem_of_getElem? (i := 165) (by decide +kernel)) rfl
theorem iniX1 : Cond.initialized RX1 ∈ x_tb := x_tb_in (List.mem_of_getElem? (i := 59) (by decide +kernel)) rfl
theorem insX2 : Cond.instantiable RX2 2 ∈ x_tb := x_tb_in (List.mem_of_getElem? (i := 135) (by decide +kernel)) rfl
theorem iniX2 : Cond.initialized RX2 ∈ x_tb := x_tb_in (List.mem_of_getElem? (i := 57) (by decide +kernel)) rfl
theorem insX3 : Cond.instantiable RX3 12 ∈ x_tb := x_tb_in (List.mem_of_getElem? (i := 74) (by decide +kernel)) rfl
theorem iniX3 : Cond.initialized RX3 ∈ x_tb := x_tb_in (List.mem_of_getElem? (i := 56) (by decide +kernel)) rfl
theorem insX4 : Cond.instantiable RX4 2 ∈ x_tb := x_tb_in (List.mem_of_getElem? (i := 201) (by decide +kernel)) rfl
theorem iniX4 : Cond.initialized RX4 ∈ x_tb := x_tb_in (List.mem_of_getElem? (i := 60) (by decide +kernel)) rfl
theorem insX5 : Cond.instantiable RX5 12 ∈ x_tb := x_tb_in (List.mem_of_getElem? (i := 66) (by decide +kernel)) rfl
theorem iniX5 : Cond.initialized RX5 ∈ x_tb := x_tb_in (List.mem_of_getElem? (i := 55) (by decide +kernel)) rfl
theorem insX6 : Cond.instantiable RX6 32 ∈ x_tb := x_tb_in (List.mem_of_getElem? (i := 625) (by decide +kernel)) rfl
theorem iniX6 : Cond.initialized RX6 ∈ x_tb := x_tb_in (List.mem_of_getElem? (i := 61) (by decide +kernel)) rfl
theorem x_ini : ∀ (ci : Nat) (r : vw_C), x_cl[ci]? = some r → Cond.initialized r.1 ∈ x_tb ∧ Cond.instantiable r.1 r.2.2 ∈ x_tb := by
  intro ci r h
  match ci, h with
  | 0, h => cases h; exact ⟨iniX0, insX0⟩
  | 1, h => cases h; exact ⟨iniX1, insX1⟩
  | 2, h => cases h; exact ⟨iniX2, insX2⟩
  | 3, h => cases h; exact ⟨iniX3, insX3⟩
  | 4, h => cases h; exact ⟨iniX4, insX4⟩
  | 5, h => cases h; exact ⟨iniX5, insX5⟩
  | 6, h => cases h; exact ⟨iniX6, insX6⟩
  | n + 7, h => simp [x_cl] at h
theorem iniJ9 : Cond.initialized RJ9 ∈ x_tb := x_tb_in (List.mem_of_getElem? (i := 63) (by decide +kernel)) rfl
theorem iniJ10 : Cond.initialized RJ10 ∈ x_tb := x_tb_in (List.mem_of_getElem? (i := 62) (by decide +kernel)) rfl
theorem iniJ7 : Cond.initialized RJ7 ∈ x_tb := x_tb_in (List.mem_of_getElem? (i := 64) (by decide +kernel)) rfl
theorem x_acI : Cond.arrayClass .int ∈ x_tb := x_tb_in (List.mem_of_getElem? (i := 133) (by decide +kernel)) rfl
theorem x_acJ : Cond.arrayClass .long ∈ x_tb := x_tb_in (List.mem_of_getElem? (i := 199) (by decide +kernel)) rfl
theorem x_aoT : Cond.arrayOver (.object RX3) ∈ lw_tbl := List.mem_of_getElem? (i := 155) (by decide +kernel)
theorem x_obC : Cond.code objectInit ⟨#[0xb1]⟩ 1 none ∈ x_tb := x_tb_in (List.mem_of_getElem? (i := 72) (by decide +kernel)) rfl
theorem x_obI : Cond.instanceMethod objectInit ∈ x_tb := x_tb_in (List.mem_of_getElem? (i := 71) (by decide +kernel)) rfl
theorem x_cpN : Cond.native arraycopyName ∈ x_tb := x_tb_in (List.mem_of_getElem? (i := 272) (by decide +kernel)) rfl
theorem x_cpS : Cond.static arraycopyName ∈ x_tb := x_tb_in (List.mem_of_getElem? (i := 271) (by decide +kernel)) rfl
