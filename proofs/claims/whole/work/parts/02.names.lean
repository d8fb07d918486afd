/-! names of the program, printed by wip/gen/names.py out of what TURN printed -/
def RX0 : String := "EclipseSeats$Duel"
def TX0 : u_T := fun k => match k with
  | 0 => ("EclipseSeats$Duel", "firstGets", "[I", true)
  | 1 => ("EclipseSeats$Duel", "secondGets", "[I", true)
  | 2 => ("EclipseSeats$Duel", "firstMost", "[I", true)
  | _ => ("EclipseSeats$Duel", "secondMost", "[I", true)
def tyX0 : Nat → FieldType := fun k => match k with
  | 0 => .array .int
  | 1 => .array .int
  | 2 => .array .int
  | _ => .array .int
theorem nmX0 : ∀ a, a < 4 → ∀ b, b < 4 → a ≠ b → (TX0 a).2.1 ≠ (TX0 b).2.1 := by decide +kernel
theorem tyX0_ok : ∀ k, k < 4 → parseFieldDescriptor (TX0 k).2.2.1 = some (tyX0 k) := by decide +kernel
abbrev cX0_init : ByteArray := prog_2_method_1_code
def yX0_init : MethodName := ⟨RX0, "<init>", "()V"⟩
abbrev cX0_work : ByteArray := prog_2_method_2_code
def yX0_work : MethodName := ⟨RX0, "work", "(LEclipseSeats$Hill;II)V"⟩
abbrev cX0_rests : ByteArray := prog_2_method_3_code
def yX0_rests : MethodName := ⟨RX0, "rests", "(II)Z"⟩
abbrev cX0_gets : ByteArray := prog_2_method_4_code
def yX0_gets : MethodName := ⟨RX0, "gets", "(LEclipseSeats$Hill;IIII)I"⟩
def RX1 : String := "EclipseSeats$Guess"
def TX1 : u_T := fun k => match k with
  | _ => ("EclipseSeats$Guess", "worths", "[I", true)
def tyX1 : Nat → FieldType := fun k => match k with
  | _ => .array .int
theorem nmX1 : ∀ a, a < 1 → ∀ b, b < 1 → a ≠ b → (TX1 a).2.1 ≠ (TX1 b).2.1 := by decide +kernel
theorem tyX1_ok : ∀ k, k < 1 → parseFieldDescriptor (TX1 k).2.2.1 = some (tyX1 k) := by decide +kernel
abbrev cX1_init : ByteArray := prog_3_method_1_code
def yX1_init : MethodName := ⟨RX1, "<init>", "()V"⟩
abbrev cX1_kindsOf : ByteArray := prog_3_method_2_code
def yX1_kindsOf : MethodName := ⟨RX1, "kindsOf", "(LEclipseSeats$Hill;I)I"⟩
abbrev cX1_nextFor : ByteArray := prog_3_method_3_code
def yX1_nextFor : MethodName := ⟨RX1, "nextFor", "(LEclipseSeats$Hill;I)I"⟩
abbrev cX1_fits : ByteArray := prog_3_method_4_code
def yX1_fits : MethodName := ⟨RX1, "fits", "(LEclipseSeats$Hill;II)Z"⟩
abbrev cX1_mostAlike : ByteArray := prog_3_method_5_code
def yX1_mostAlike : MethodName := ⟨RX1, "mostAlike", "(III)I"⟩
abbrev cX1_likeOnes : ByteArray := prog_3_method_6_code
def yX1_likeOnes : MethodName := ⟨RX1, "likeOnes", "(I)I"⟩
def RX2 : String := "EclipseSeats$Hill"
def TX2 : u_T := fun k => match k with
  | 0 => ("EclipseSeats$Hill", "track", "I", false)
  | 1 => ("EclipseSeats$Hill", "dark", "I", false)
  | 2 => ("EclipseSeats$Hill", "heights", "[I", true)
  | 3 => ("EclipseSeats$Hill", "bidders", "I", false)
  | 4 => ("EclipseSeats$Hill", "kinds", "[I", true)
  | 5 => ("EclipseSeats$Hill", "heads", "[I", true)
  | 6 => ("EclipseSeats$Hill", "purses", "[I", true)
  | 7 => ("EclipseSeats$Hill", "paid", "[I", true)
  | 8 => ("EclipseSeats$Hill", "seats", "[I", true)
  | 9 => ("EclipseSeats$Hill", "noteCount", "I", false)
  | 10 => ("EclipseSeats$Hill", "notes", "[I", true)
  | 11 => ("EclipseSeats$Hill", "steps", "I", false)
  | _ => ("EclipseSeats$Hill", "past", "[I", true)
def tyX2 : Nat → FieldType := fun k => match k with
  | 0 => .int
  | 1 => .int
  | 2 => .array .int
  | 3 => .int
  | 4 => .array .int
  | 5 => .array .int
  | 6 => .array .int
  | 7 => .array .int
  | 8 => .array .int
  | 9 => .int
  | 10 => .array .int
  | 11 => .int
  | _ => .array .int
theorem nmX2 : ∀ a, a < 13 → ∀ b, b < 13 → a ≠ b → (TX2 a).2.1 ≠ (TX2 b).2.1 := by decide +kernel
theorem tyX2_ok : ∀ k, k < 13 → parseFieldDescriptor (TX2 k).2.2.1 = some (tyX2 k) := by decide +kernel
abbrev cX2_init : ByteArray := prog_4_method_1_code
def yX2_init : MethodName := ⟨RX2, "<init>", "()V"⟩
abbrev cX2_begin : ByteArray := prog_4_method_2_code
def yX2_begin : MethodName := ⟨RX2, "begin", "(II)V"⟩
abbrev cX2_copyOf : ByteArray := prog_4_method_3_code
def yX2_copyOf : MethodName := ⟨RX2, "copyOf", "(LEclipseSeats$Hill;)V"⟩
abbrev cX2_addBidder : ByteArray := prog_4_method_4_code
def yX2_addBidder : MethodName := ⟨RX2, "addBidder", "(II)I"⟩
abbrev cX2_remember : ByteArray := prog_4_method_5_code
def yX2_remember : MethodName := ⟨RX2, "remember", "()V"⟩
abbrev cX2_stepBack : ByteArray := prog_4_method_6_code
def yX2_stepBack : MethodName := ⟨RX2, "stepBack", "()V"⟩
abbrev cX2_darkIn : ByteArray := prog_4_method_7_code
def yX2_darkIn : MethodName := ⟨RX2, "darkIn", "(I)I"⟩
abbrev cX2_holder : ByteArray := prog_4_method_8_code
def yX2_holder : MethodName := ⟨RX2, "holder", "(I)I"⟩
abbrev cX2_isOpenTo : ByteArray := prog_4_method_9_code
def yX2_isOpenTo : MethodName := ⟨RX2, "isOpenTo", "(II)Z"⟩
abbrev cX2_freeYards : ByteArray := prog_4_method_10_code
def yX2_freeYards : MethodName := ⟨RX2, "freeYards", "()I"⟩
abbrev cX2_hides : ByteArray := prog_4_method_11_code
def yX2_hides : MethodName := ⟨RX2, "hides", "(III)Z"⟩
abbrev cX2_isHidden : ByteArray := prog_4_method_12_code
def yX2_isHidden : MethodName := ⟨RX2, "isHidden", "(III)Z"⟩
abbrev cX2_seenIn : ByteArray := prog_4_method_13_code
def yX2_seenIn : MethodName := ⟨RX2, "seenIn", "(II)I"⟩
abbrev cX2_seenNow : ByteArray := prog_4_method_14_code
def yX2_seenNow : MethodName := ⟨RX2, "seenNow", "(I)I"⟩
abbrev cX2_seenByAll : ByteArray := prog_4_method_15_code
def yX2_seenByAll : MethodName := ⟨RX2, "seenByAll", "()I"⟩
abbrev cX2_openSeats : ByteArray := prog_4_method_16_code
def yX2_openSeats : MethodName := ⟨RX2, "openSeats", "()I"⟩
abbrev cX2_paidByAll : ByteArray := prog_4_method_17_code
def yX2_paidByAll : MethodName := ⟨RX2, "paidByAll", "()I"⟩
abbrev cX2_worthIn : ByteArray := prog_4_method_18_code
def yX2_worthIn : MethodName := ⟨RX2, "worthIn", "(II)I"⟩
abbrev cX2_bid : ByteArray := prog_4_method_19_code
def yX2_bid : MethodName := ⟨RX2, "bid", "(II)I"⟩
abbrev cX2_topBidder : ByteArray := prog_4_method_20_code
def yX2_topBidder : MethodName := ⟨RX2, "topBidder", "(I)I"⟩
abbrev cX2_price : ByteArray := prog_4_method_21_code
def yX2_price : MethodName := ⟨RX2, "price", "(II)I"⟩
abbrev cX2_harm : ByteArray := prog_4_method_22_code
def yX2_harm : MethodName := ⟨RX2, "harm", "(II)I"⟩
def RX3 : String := "EclipseSeats$Kinds"
def TX3 : u_T := fun k => match k with
  | _ => ("", "", "", false)
def tyX3 : Nat → FieldType := fun k => match k with
  | _ => .int
theorem nmX3 : ∀ a, a < 0 → ∀ b, b < 0 → a ≠ b → (TX3 a).2.1 ≠ (TX3 b).2.1 := by decide +kernel
theorem tyX3_ok : ∀ k, k < 0 → parseFieldDescriptor (TX3 k).2.2.1 = some (tyX3 k) := by decide +kernel
abbrev cX3_worth : ByteArray := prog_5_method_2_code
def yX3_worth : MethodName := ⟨RX3, "worth", "(III)I"⟩
abbrev cX3_head : ByteArray := prog_5_method_3_code
def yX3_head : MethodName := ⟨RX3, "head", "(I)I"⟩
def RX4 : String := "EclipseSeats$Seating"
def TX4 : u_T := fun k => match k with
  | 0 => ("EclipseSeats$Seating", "scores", "[I", true)
  | 1 => ("EclipseSeats$Seating", "worths", "[I", true)
  | 2 => ("EclipseSeats$Seating", "tops", "[I", true)
  | _ => ("EclipseSeats$Seating", "score", "I", false)
def tyX4 : Nat → FieldType := fun k => match k with
  | 0 => .array .int
  | 1 => .array .int
  | 2 => .array .int
  | _ => .int
theorem nmX4 : ∀ a, a < 4 → ∀ b, b < 4 → a ≠ b → (TX4 a).2.1 ≠ (TX4 b).2.1 := by decide +kernel
theorem tyX4_ok : ∀ k, k < 4 → parseFieldDescriptor (TX4 k).2.2.1 = some (tyX4 k) := by decide +kernel
abbrev cX4_init : ByteArray := prog_6_method_1_code
def yX4_init : MethodName := ⟨RX4, "<init>", "()V"⟩
abbrev cX4_work : ByteArray := prog_6_method_2_code
def yX4_work : MethodName := ⟨RX4, "work", "(LEclipseSeats$Hill;)V"⟩
abbrev cX4_total : ByteArray := prog_6_method_3_code
def yX4_total : MethodName := ⟨RX4, "total", "()I"⟩
abbrev cX4_seatFor : ByteArray := prog_6_method_4_code
def yX4_seatFor : MethodName := ⟨RX4, "seatFor", "(I)I"⟩
abbrev cX4_lookAt : ByteArray := prog_6_method_5_code
def yX4_lookAt : MethodName := ⟨RX4, "lookAt", "(LEclipseSeats$Hill;I)V"⟩
abbrev cX4_spread : ByteArray := prog_6_method_6_code
def yX4_spread : MethodName := ⟨RX4, "spread", "(LEclipseSeats$Hill;II)V"⟩
abbrev cX4_seatShift : ByteArray := prog_6_method_7_code
def yX4_seatShift : MethodName := ⟨RX4, "seatShift", "(I)I"⟩
def RX5 : String := "EclipseSeats$Text"
def TX5 : u_T := fun k => match k with
  | 0 => ("EclipseSeats$Text", "bytes", "[B", true)
  | 1 => ("EclipseSeats$Text", "length", "I", false)
  | 2 => ("EclipseSeats$Text", "at", "I", false)
  | 3 => ("EclipseSeats$Text", "token", "I", false)
  | 4 => ("EclipseSeats$Text", "start", "I", false)
  | _ => ("EclipseSeats$Text", "value", "I", false)
def tyX5 : Nat → FieldType := fun k => match k with
  | 0 => .array .byte
  | 1 => .int
  | 2 => .int
  | 3 => .int
  | 4 => .int
  | _ => .int
theorem nmX5 : ∀ a, a < 6 → ∀ b, b < 6 → a ≠ b → (TX5 a).2.1 ≠ (TX5 b).2.1 := by decide +kernel
theorem tyX5_ok : ∀ k, k < 6 → parseFieldDescriptor (TX5 k).2.2.1 = some (tyX5 k) := by decide +kernel
abbrev cX5_init : ByteArray := prog_7_method_1_code
def yX5_init : MethodName := ⟨RX5, "<init>", "()V"⟩
abbrev cX5_readInto : ByteArray := prog_7_method_2_code
def yX5_readInto : MethodName := ⟨RX5, "readInto", "(LEclipseSeats$Hill;)I"⟩
abbrev cX5_takeItem : ByteArray := prog_7_method_3_code
def yX5_takeItem : MethodName := ⟨RX5, "takeItem", "(LEclipseSeats$Hill;Z)Z"⟩
abbrev cX5_takeTrack : ByteArray := prog_7_method_4_code
def yX5_takeTrack : MethodName := ⟨RX5, "takeTrack", "(LEclipseSeats$Hill;)Z"⟩
abbrev cX5_takeDark : ByteArray := prog_7_method_5_code
def yX5_takeDark : MethodName := ⟨RX5, "takeDark", "(LEclipseSeats$Hill;)Z"⟩
abbrev cX5_takeHeights : ByteArray := prog_7_method_6_code
def yX5_takeHeights : MethodName := ⟨RX5, "takeHeights", "(LEclipseSeats$Hill;)Z"⟩
abbrev cX5_takeBidder : ByteArray := prog_7_method_7_code
def yX5_takeBidder : MethodName := ⟨RX5, "takeBidder", "(LEclipseSeats$Hill;)Z"⟩
abbrev cX5_takeSeat : ByteArray := prog_7_method_8_code
def yX5_takeSeat : MethodName := ⟨RX5, "takeSeat", "(LEclipseSeats$Hill;)Z"⟩
abbrev cX5_takeNumber : ByteArray := prog_7_method_9_code
def yX5_takeNumber : MethodName := ⟨RX5, "takeNumber", "(I)Z"⟩
abbrev cX5_takeStop : ByteArray := prog_7_method_10_code
def yX5_takeStop : MethodName := ⟨RX5, "takeStop", "()Z"⟩
abbrev cX5_step : ByteArray := prog_7_method_11_code
def yX5_step : MethodName := ⟨RX5, "step", "()V"⟩
abbrev cX5_isWord : ByteArray := prog_7_method_12_code
def yX5_isWord : MethodName := ⟨RX5, "isWord", "(Ljava/lang/String;)Z"⟩
abbrev cX5_isLetter : ByteArray := prog_7_method_13_code
def yX5_isLetter : MethodName := ⟨RX5, "isLetter", "(I)Z"⟩
abbrev cX5_isFigure : ByteArray := prog_7_method_14_code
def yX5_isFigure : MethodName := ⟨RX5, "isFigure", "(I)Z"⟩
def RX6 : String := "EclipseSeats"
def TX6 : u_T := fun k => match k with
  | 0 => ("EclipseSeats", "now", "LEclipseSeats$Hill;", true)
  | 1 => ("EclipseSeats", "draft", "LEclipseSeats$Hill;", true)
  | 2 => ("EclipseSeats", "images", "[LEclipseSeats$Hill;", true)
  | 3 => ("EclipseSeats", "text", "LEclipseSeats$Text;", true)
  | 4 => ("EclipseSeats", "seating", "LEclipseSeats$Seating;", true)
  | 5 => ("EclipseSeats", "duel", "LEclipseSeats$Duel;", true)
  | 6 => ("EclipseSeats", "guess", "LEclipseSeats$Guess;", true)
  | 7 => ("EclipseSeats", "above", "I", false)
  | 8 => ("EclipseSeats", "below", "I", false)
  | 9 => ("EclipseSeats", "badCalls", "I", false)
  | 10 => ("EclipseSeats", "noCalls", "I", false)
  | _ => ("EclipseSeats", "fullCalls", "I", false)
def tyX6 : Nat → FieldType := fun k => match k with
  | 0 => .object "EclipseSeats$Hill"
  | 1 => .object "EclipseSeats$Hill"
  | 2 => .array (.object "EclipseSeats$Hill")
  | 3 => .object "EclipseSeats$Text"
  | 4 => .object "EclipseSeats$Seating"
  | 5 => .object "EclipseSeats$Duel"
  | 6 => .object "EclipseSeats$Guess"
  | 7 => .int
  | 8 => .int
  | 9 => .int
  | 10 => .int
  | _ => .int
theorem nmX6 : ∀ a, a < 12 → ∀ b, b < 12 → a ≠ b → (TX6 a).2.1 ≠ (TX6 b).2.1 := by decide +kernel
theorem tyX6_ok : ∀ k, k < 12 → parseFieldDescriptor (TX6 k).2.2.1 = some (tyX6 k) := by decide +kernel
abbrev cX6_init : ByteArray := prog_1_method_1_code
def yX6_init : MethodName := ⟨RX6, "<init>", "()V"⟩
abbrev cX6_hill : ByteArray := prog_1_method_2_code
def yX6_hill : MethodName := ⟨RX6, "hill", "(II)I"⟩
abbrev cX6_track : ByteArray := prog_1_method_3_code
def yX6_track : MethodName := ⟨RX6, "track", "(II)I"⟩
abbrev cX6_height : ByteArray := prog_1_method_4_code
def yX6_height : MethodName := ⟨RX6, "height", "(II)I"⟩
abbrev cX6_one : ByteArray := prog_1_method_5_code
def yX6_one : MethodName := ⟨RX6, "one", "(II)I"⟩
abbrev cX6_type : ByteArray := prog_1_method_6_code
def yX6_type : MethodName := ⟨RX6, "type", "(I)I"⟩
abbrev cX6_clear : ByteArray := prog_1_method_7_code
def yX6_clear : MethodName := ⟨RX6, "clear", "()I"⟩
abbrev cX6_read : ByteArray := prog_1_method_8_code
def yX6_read : MethodName := ⟨RX6, "read", "()I"⟩
abbrev cX6_sell : ByteArray := prog_1_method_9_code
def yX6_sell : MethodName := ⟨RX6, "sell", "(I)I"⟩
abbrev cX6_leave : ByteArray := prog_1_method_10_code
def yX6_leave : MethodName := ⟨RX6, "leave", "(I)I"⟩
abbrev cX6_moves : ByteArray := prog_1_method_11_code
def yX6_moves : MethodName := ⟨RX6, "moves", "(II)I"⟩
abbrev cX6_undo : ByteArray := prog_1_method_12_code
def yX6_undo : MethodName := ⟨RX6, "undo", "()I"⟩
abbrev cX6_of : ByteArray := prog_1_method_13_code
def yX6_of : MethodName := ⟨RX6, "of", "(II)I"⟩
abbrev cX6_yard : ByteArray := prog_1_method_14_code
def yX6_yard : MethodName := ⟨RX6, "yard", "(II)I"⟩
abbrev cX6_sees : ByteArray := prog_1_method_15_code
def yX6_sees : MethodName := ⟨RX6, "sees", "(II)I"⟩
abbrev cX6_gives : ByteArray := prog_1_method_16_code
def yX6_gives : MethodName := ⟨RX6, "gives", "(II)I"⟩
abbrev cX6_auction : ByteArray := prog_1_method_17_code
def yX6_auction : MethodName := ⟨RX6, "auction", "(II)I"⟩
abbrev cX6_hurt : ByteArray := prog_1_method_18_code
def yX6_hurt : MethodName := ⟨RX6, "hurt", "(II)I"⟩
abbrev cX6_best : ByteArray := prog_1_method_19_code
def yX6_best : MethodName := ⟨RX6, "best", "(II)I"⟩
abbrev cX6_all : ByteArray := prog_1_method_20_code
def yX6_all : MethodName := ⟨RX6, "all", "(I)I"⟩
abbrev cX6_move : ByteArray := prog_1_method_21_code
def yX6_move : MethodName := ⟨RX6, "move", "(I)I"⟩
abbrev cX6_note : ByteArray := prog_1_method_22_code
def yX6_note : MethodName := ⟨RX6, "note", "(IIII)I"⟩
abbrev cX6_forget : ByteArray := prog_1_method_23_code
def yX6_forget : MethodName := ⟨RX6, "forget", "()I"⟩
abbrev cX6_is : ByteArray := prog_1_method_24_code
def yX6_is : MethodName := ⟨RX6, "is", "(I)I"⟩
abbrev cX6_offer : ByteArray := prog_1_method_25_code
def yX6_offer : MethodName := ⟨RX6, "offer", "(I)I"⟩
abbrev cX6_two : ByteArray := prog_1_method_26_code
def yX6_two : MethodName := ⟨RX6, "two", "(III)I"⟩
abbrev cX6_clouds : ByteArray := prog_1_method_27_code
def yX6_clouds : MethodName := ⟨RX6, "clouds", "(I)I"⟩
abbrev cX6_eclipses : ByteArray := prog_1_method_28_code
def yX6_eclipses : MethodName := ⟨RX6, "eclipses", "(II)I"⟩
abbrev cX6_part : ByteArray := prog_1_method_29_code
def yX6_part : MethodName := ⟨RX6, "part", "(I)J"⟩
abbrev cX6_image : ByteArray := prog_1_method_30_code
def yX6_image : MethodName := ⟨RX6, "image", "(I)I"⟩
abbrev cX6_from : ByteArray := prog_1_method_31_code
def yX6_from : MethodName := ⟨RX6, "from", "(I)I"⟩
abbrev cX6_status : ByteArray := prog_1_method_32_code
def yX6_status : MethodName := ⟨RX6, "status", "(I)I"⟩
abbrev cX6_count : ByteArray := prog_1_method_33_code
def yX6_count : MethodName := ⟨RX6, "count", "(I)I"⟩
abbrev cX6_digest : ByteArray := prog_1_method_34_code
def yX6_digest : MethodName := ⟨RX6, "digest", "()J"⟩
abbrev cX6_howMany : ByteArray := prog_1_method_35_code
def yX6_howMany : MethodName := ⟨RX6, "howMany", "(I)I"⟩
abbrev cX6_bad : ByteArray := prog_1_method_36_code
def yX6_bad : MethodName := ⟨RX6, "bad", "(I)I"⟩
abbrev cX6_no : ByteArray := prog_1_method_37_code
def yX6_no : MethodName := ⟨RX6, "no", "()I"⟩
abbrev cX6_full : ByteArray := prog_1_method_38_code
def yX6_full : MethodName := ⟨RX6, "full", "()I"⟩
abbrev cX6_isBidder : ByteArray := prog_1_method_39_code
def yX6_isBidder : MethodName := ⟨RX6, "isBidder", "(I)Z"⟩
abbrev cX6_isYard : ByteArray := prog_1_method_40_code
def yX6_isYard : MethodName := ⟨RX6, "isYard", "(I)Z"⟩
abbrev cX6_isTrack : ByteArray := prog_1_method_41_code
def yX6_isTrack : MethodName := ⟨RX6, "isTrack", "(II)Z"⟩
abbrev cX6_within : ByteArray := prog_1_method_42_code
def yX6_within : MethodName := ⟨RX6, "within", "(II)Z"⟩
abbrev cX6_darkFrom : ByteArray := prog_1_method_43_code
def yX6_darkFrom : MethodName := ⟨RX6, "darkFrom", "(III)I"⟩
abbrev cX6_darkOver : ByteArray := prog_1_method_44_code
def yX6_darkOver : MethodName := ⟨RX6, "darkOver", "(III)I"⟩
abbrev cX6_commonDivisor : ByteArray := prog_1_method_45_code
def yX6_commonDivisor : MethodName := ⟨RX6, "commonDivisor", "(II)I"⟩
def RX7 : String := "EclipseSeatsModel"
def TX7 : u_T := fun k => match k with
  | 0 => ("EclipseSeatsModel", "refused", "[I", true)
  | 1 => ("EclipseSeatsModel", "many", "I", false)
  | 2 => ("EclipseSeatsModel", "line", "I", false)
  | 3 => ("EclipseSeatsModel", "dark", "I", false)
  | 4 => ("EclipseSeatsModel", "noteMany", "I", false)
  | 5 => ("EclipseSeatsModel", "heights", "[I", true)
  | 6 => ("EclipseSeatsModel", "kinds", "[I", true)
  | 7 => ("EclipseSeatsModel", "purses", "[I", true)
  | 8 => ("EclipseSeatsModel", "paid", "[I", true)
  | 9 => ("EclipseSeatsModel", "seats", "[I", true)
  | 10 => ("EclipseSeatsModel", "noteOne", "[I", true)
  | 11 => ("EclipseSeatsModel", "noteSeconds", "[I", true)
  | 12 => ("EclipseSeatsModel", "noteHeight", "[I", true)
  | 13 => ("EclipseSeatsModel", "noteWorth", "[I", true)
  | 14 => ("EclipseSeatsModel", "text", "[I", true)
  | 15 => ("EclipseSeatsModel", "typed", "I", false)
  | 16 => ("EclipseSeatsModel", "readAt", "I", false)
  | 17 => ("EclipseSeatsModel", "readTrack", "I", false)
  | 18 => ("EclipseSeatsModel", "readDark", "I", false)
  | 19 => ("EclipseSeatsModel", "readMany", "I", false)
  | 20 => ("EclipseSeatsModel", "readOnes", "[I", true)
  | 21 => ("EclipseSeatsModel", "readHeights", "[I", true)
  | 22 => ("EclipseSeatsModel", "readNumber", "I", false)
  | 23 => ("EclipseSeatsModel", "ahead", "[I", true)
  | 24 => ("EclipseSeatsModel", "undoMany", "I", false)
  | 25 => ("EclipseSeatsModel", "aside", "[I", true)
  | 26 => ("EclipseSeatsModel", "bestSeats", "[I", true)
  | 27 => ("EclipseSeatsModel", "above", "J", false)
  | 28 => ("EclipseSeatsModel", "below", "J", false)
  | 29 => ("EclipseSeatsModel", "images", "[I", true)
  | 30 => ("EclipseSeatsModel", "isKept", "[I", true)
  | _ => ("EclipseSeatsModel", "h0", "J", false)
def tyX7 : Nat → FieldType := fun k => match k with
  | 0 => .array .int
  | 1 => .int
  | 2 => .int
  | 3 => .int
  | 4 => .int
  | 5 => .array .int
  | 6 => .array .int
  | 7 => .array .int
  | 8 => .array .int
  | 9 => .array .int
  | 10 => .array .int
  | 11 => .array .int
  | 12 => .array .int
  | 13 => .array .int
  | 14 => .array .int
  | 15 => .int
  | 16 => .int
  | 17 => .int
  | 18 => .int
  | 19 => .int
  | 20 => .array .int
  | 21 => .array .int
  | 22 => .int
  | 23 => .array .int
  | 24 => .int
  | 25 => .array .int
  | 26 => .array .int
  | 27 => .long
  | 28 => .long
  | 29 => .array .int
  | 30 => .array .int
  | _ => .long
theorem nmX7 : ∀ a, a < 32 → ∀ b, b < 32 → a ≠ b → (TX7 a).2.1 ≠ (TX7 b).2.1 := by decide +kernel
theorem tyX7_ok : ∀ k, k < 32 → parseFieldDescriptor (TX7 k).2.2.1 = some (tyX7 k) := by decide +kernel
abbrev cX7_bad : ByteArray := prog_9_method_1_code
def yX7_bad : MethodName := ⟨RX7, "bad", "()I"⟩
abbrev cX7_ten : ByteArray := prog_9_method_2_code
def yX7_ten : MethodName := ⟨RX7, "ten", "()I"⟩
abbrev cX7_no : ByteArray := prog_9_method_3_code
def yX7_no : MethodName := ⟨RX7, "no", "()I"⟩
abbrev cX7_full : ByteArray := prog_9_method_4_code
def yX7_full : MethodName := ⟨RX7, "full", "()I"⟩
abbrev cX7_in : ByteArray := prog_9_method_5_code
def yX7_in : MethodName := ⟨RX7, "in", "(III)Z"⟩
abbrev cX7_has : ByteArray := prog_9_method_6_code
def yX7_has : MethodName := ⟨RX7, "has", "(II)Z"⟩
abbrev cX7_lesser : ByteArray := prog_9_method_7_code
def yX7_lesser : MethodName := ⟨RX7, "lesser", "(II)I"⟩
abbrev cX7_init : ByteArray := prog_9_method_8_code
def yX7_init : MethodName := ⟨RX7, "<init>", "()V"⟩
abbrev cX7_begin : ByteArray := prog_9_method_9_code
def yX7_begin : MethodName := ⟨RX7, "begin", "(II)V"⟩
abbrev cX7_isOne : ByteArray := prog_9_method_10_code
def yX7_isOne : MethodName := ⟨RX7, "isOne", "(I)Z"⟩
abbrev cX7_isYard : ByteArray := prog_9_method_11_code
def yX7_isYard : MethodName := ⟨RX7, "isYard", "(I)Z"⟩
abbrev cX7_hill : ByteArray := prog_9_method_12_code
def yX7_hill : MethodName := ⟨RX7, "hill", "(II)I"⟩
abbrev cX7_track : ByteArray := prog_9_method_13_code
def yX7_track : MethodName := ⟨RX7, "track", "(II)I"⟩
abbrev cX7_height : ByteArray := prog_9_method_14_code
def yX7_height : MethodName := ⟨RX7, "height", "(II)I"⟩
abbrev cX7_addOne : ByteArray := prog_9_method_15_code
def yX7_addOne : MethodName := ⟨RX7, "addOne", "(II)I"⟩
abbrev cX7_one : ByteArray := prog_9_method_16_code
def yX7_one : MethodName := ⟨RX7, "one", "(II)I"⟩
abbrev cX7_type : ByteArray := prog_9_method_17_code
def yX7_type : MethodName := ⟨RX7, "type", "(I)I"⟩
abbrev cX7_clear : ByteArray := prog_9_method_18_code
def yX7_clear : MethodName := ⟨RX7, "clear", "()I"⟩
abbrev cX7_here : ByteArray := prog_9_method_19_code
def yX7_here : MethodName := ⟨RX7, "here", "()I"⟩
abbrev cX7_skip : ByteArray := prog_9_method_20_code
def yX7_skip : MethodName := ⟨RX7, "skip", "()V"⟩
abbrev cX7_isLetter : ByteArray := prog_9_method_21_code
def yX7_isLetter : MethodName := ⟨RX7, "isLetter", "(I)Z"⟩
abbrev cX7_isFigure : ByteArray := prog_9_method_22_code
def yX7_isFigure : MethodName := ⟨RX7, "isFigure", "(I)Z"⟩
abbrev cX7_wordSize : ByteArray := prog_9_method_23_code
def yX7_wordSize : MethodName := ⟨RX7, "wordSize", "()I"⟩
abbrev cX7_letter : ByteArray := prog_9_method_24_code
def yX7_letter : MethodName := ⟨RX7, "letter", "(I)I"⟩
abbrev cX7_spells : ByteArray := prog_9_method_25_code
def yX7_spells : MethodName := ⟨RX7, "spells", "(IIII)Z"⟩
abbrev cX7_wordHere : ByteArray := prog_9_method_26_code
def yX7_wordHere : MethodName := ⟨RX7, "wordHere", "()I"⟩
abbrev cX7_number : ByteArray := prog_9_method_27_code
def yX7_number : MethodName := ⟨RX7, "number", "(II)Z"⟩
abbrev cX7_ends : ByteArray := prog_9_method_28_code
def yX7_ends : MethodName := ⟨RX7, "ends", "()Z"⟩
abbrev cX7_readsDark : ByteArray := prog_9_method_29_code
def yX7_readsDark : MethodName := ⟨RX7, "readsDark", "()Z"⟩
abbrev cX7_readsHeights : ByteArray := prog_9_method_30_code
def yX7_readsHeights : MethodName := ⟨RX7, "readsHeights", "()Z"⟩
abbrev cX7_readsOne : ByteArray := prog_9_method_31_code
def yX7_readsOne : MethodName := ⟨RX7, "readsOne", "()Z"⟩
abbrev cX7_readsSeat : ByteArray := prog_9_method_32_code
def yX7_readsSeat : MethodName := ⟨RX7, "readsSeat", "()Z"⟩
abbrev cX7_readsItem : ByteArray := prog_9_method_33_code
def yX7_readsItem : MethodName := ⟨RX7, "readsItem", "()Z"⟩
abbrev cX7_readsFirst : ByteArray := prog_9_method_34_code
def yX7_readsFirst : MethodName := ⟨RX7, "readsFirst", "()Z"⟩
abbrev cX7_readsHill : ByteArray := prog_9_method_35_code
def yX7_readsHill : MethodName := ⟨RX7, "readsHill", "()I"⟩
abbrev cX7_read : ByteArray := prog_9_method_36_code
def yX7_read : MethodName := ⟨RX7, "read", "()I"⟩
abbrev cX7_worthBy : ByteArray := prog_9_method_37_code
def yX7_worthBy : MethodName := ⟨RX7, "worthBy", "(III)I"⟩
abbrev cX7_headBy : ByteArray := prog_9_method_38_code
def yX7_headBy : MethodName := ⟨RX7, "headBy", "(I)I"⟩
abbrev cX7_darkIn : ByteArray := prog_9_method_39_code
def yX7_darkIn : MethodName := ⟨RX7, "darkIn", "(I)I"⟩
abbrev cX7_who : ByteArray := prog_9_method_40_code
def yX7_who : MethodName := ⟨RX7, "who", "(I)I"⟩
abbrev cX7_seen : ByteArray := prog_9_method_41_code
def yX7_seen : MethodName := ⟨RX7, "seen", "(I)I"⟩
abbrev cX7_worth : ByteArray := prog_9_method_42_code
def yX7_worth : MethodName := ⟨RX7, "worth", "(I)I"⟩
abbrev cX7_othersSee : ByteArray := prog_9_method_43_code
def yX7_othersSee : MethodName := ⟨RX7, "othersSee", "(I)I"⟩
abbrev cX7_isOpen : ByteArray := prog_9_method_44_code
def yX7_isOpen : MethodName := ⟨RX7, "isOpen", "(II)Z"⟩
abbrev cX7_lays : ByteArray := prog_9_method_45_code
def yX7_lays : MethodName := ⟨RX7, "lays", "([II)V"⟩
abbrev cX7_takes : ByteArray := prog_9_method_46_code
def yX7_takes : MethodName := ⟨RX7, "takes", "([II)V"⟩
abbrev cX7_notes : ByteArray := prog_9_method_47_code
def yX7_notes : MethodName := ⟨RX7, "notes", "()V"⟩
abbrev cX7_free : ByteArray := prog_9_method_48_code
def yX7_free : MethodName := ⟨RX7, "free", "()I"⟩
abbrev cX7_sell : ByteArray := prog_9_method_49_code
def yX7_sell : MethodName := ⟨RX7, "sell", "(I)I"⟩
abbrev cX7_leave : ByteArray := prog_9_method_50_code
def yX7_leave : MethodName := ⟨RX7, "leave", "(I)I"⟩
abbrev cX7_moves : ByteArray := prog_9_method_51_code
def yX7_moves : MethodName := ⟨RX7, "moves", "(II)I"⟩
abbrev cX7_undo : ByteArray := prog_9_method_52_code
def yX7_undo : MethodName := ⟨RX7, "undo", "()I"⟩
abbrev cX7_of : ByteArray := prog_9_method_53_code
def yX7_of : MethodName := ⟨RX7, "of", "(II)I"⟩
abbrev cX7_yard : ByteArray := prog_9_method_54_code
def yX7_yard : MethodName := ⟨RX7, "yard", "(II)I"⟩
abbrev cX7_seesIn : ByteArray := prog_9_method_55_code
def yX7_seesIn : MethodName := ⟨RX7, "seesIn", "(II)I"⟩
abbrev cX7_worthIn : ByteArray := prog_9_method_56_code
def yX7_worthIn : MethodName := ⟨RX7, "worthIn", "(II)I"⟩
abbrev cX7_sees : ByteArray := prog_9_method_57_code
def yX7_sees : MethodName := ⟨RX7, "sees", "(II)I"⟩
abbrev cX7_gives : ByteArray := prog_9_method_58_code
def yX7_gives : MethodName := ⟨RX7, "gives", "(II)I"⟩
abbrev cX7_bidOf : ByteArray := prog_9_method_59_code
def yX7_bidOf : MethodName := ⟨RX7, "bidOf", "(II)I"⟩
abbrev cX7_winner : ByteArray := prog_9_method_60_code
def yX7_winner : MethodName := ⟨RX7, "winner", "(I)I"⟩
abbrev cX7_priceOf : ByteArray := prog_9_method_61_code
def yX7_priceOf : MethodName := ⟨RX7, "priceOf", "(II)I"⟩
abbrev cX7_auction : ByteArray := prog_9_method_62_code
def yX7_auction : MethodName := ⟨RX7, "auction", "(II)I"⟩
abbrev cX7_hurtIn : ByteArray := prog_9_method_63_code
def yX7_hurtIn : MethodName := ⟨RX7, "hurtIn", "(II)I"⟩
abbrev cX7_hurt : ByteArray := prog_9_method_64_code
def yX7_hurt : MethodName := ⟨RX7, "hurt", "(II)I"⟩
abbrev cX7_best : ByteArray := prog_9_method_65_code
def yX7_best : MethodName := ⟨RX7, "best", "(II)I"⟩
abbrev cX7_seatBy : ByteArray := prog_9_method_66_code
def yX7_seatBy : MethodName := ⟨RX7, "seatBy", "(I)Z"⟩
abbrev cX7_all : ByteArray := prog_9_method_67_code
def yX7_all : MethodName := ⟨RX7, "all", "(I)I"⟩
abbrev cX7_move : ByteArray := prog_9_method_68_code
def yX7_move : MethodName := ⟨RX7, "move", "(I)I"⟩
abbrev cX7_note : ByteArray := prog_9_method_69_code
def yX7_note : MethodName := ⟨RX7, "note", "(IIII)I"⟩
abbrev cX7_forget : ByteArray := prog_9_method_70_code
def yX7_forget : MethodName := ⟨RX7, "forget", "()I"⟩
abbrev cX7_kindsOf : ByteArray := prog_9_method_71_code
def yX7_kindsOf : MethodName := ⟨RX7, "kindsOf", "(I)I"⟩
abbrev cX7_is : ByteArray := prog_9_method_72_code
def yX7_is : MethodName := ⟨RX7, "is", "(I)I"⟩
abbrev cX7_alike : ByteArray := prog_9_method_73_code
def yX7_alike : MethodName := ⟨RX7, "alike", "(III)I"⟩
abbrev cX7_offer : ByteArray := prog_9_method_74_code
def yX7_offer : MethodName := ⟨RX7, "offer", "(I)I"⟩
abbrev cX7_gets : ByteArray := prog_9_method_75_code
def yX7_gets : MethodName := ⟨RX7, "gets", "(IIII)I"⟩
abbrev cX7_rests : ByteArray := prog_9_method_76_code
def yX7_rests : MethodName := ⟨RX7, "rests", "(IIII)Z"⟩
abbrev cX7_two : ByteArray := prog_9_method_77_code
def yX7_two : MethodName := ⟨RX7, "two", "(III)I"⟩
abbrev cX7_lay : ByteArray := prog_9_method_78_code
def yX7_lay : MethodName := ⟨RX7, "lay", "(JJ)V"⟩
abbrev cX7_clouds : ByteArray := prog_9_method_79_code
def yX7_clouds : MethodName := ⟨RX7, "clouds", "(I)I"⟩
abbrev cX7_eclipses : ByteArray := prog_9_method_80_code
def yX7_eclipses : MethodName := ⟨RX7, "eclipses", "(II)I"⟩
abbrev cX7_part : ByteArray := prog_9_method_81_code
def yX7_part : MethodName := ⟨RX7, "part", "(I)J"⟩
abbrev cX7_image : ByteArray := prog_9_method_82_code
def yX7_image : MethodName := ⟨RX7, "image", "(I)I"⟩
abbrev cX7_from : ByteArray := prog_9_method_83_code
def yX7_from : MethodName := ⟨RX7, "from", "(I)I"⟩
abbrev cX7_status : ByteArray := prog_9_method_84_code
def yX7_status : MethodName := ⟨RX7, "status", "(I)I"⟩
abbrev cX7_allPaid : ByteArray := prog_9_method_85_code
def yX7_allPaid : MethodName := ⟨RX7, "allPaid", "()I"⟩
abbrev cX7_countOf : ByteArray := prog_9_method_86_code
def yX7_countOf : MethodName := ⟨RX7, "countOf", "(I)I"⟩
abbrev cX7_count : ByteArray := prog_9_method_87_code
def yX7_count : MethodName := ⟨RX7, "count", "(I)I"⟩
abbrev cX7_mix : ByteArray := prog_9_method_88_code
def yX7_mix : MethodName := ⟨RX7, "mix", "(J)V"⟩
abbrev cX7_digest : ByteArray := prog_9_method_89_code
def yX7_digest : MethodName := ⟨RX7, "digest", "()J"⟩
def RJ9 : String := "java/lang/Math"
def TJ9 : u_T := fun k => match k with
  | _ => ("", "", "", false)
def tyJ9 : Nat → FieldType := fun k => match k with
  | _ => .int
theorem nmJ9 : ∀ a, a < 0 → ∀ b, b < 0 → a ≠ b → (TJ9 a).2.1 ≠ (TJ9 b).2.1 := by decide +kernel
theorem tyJ9_ok : ∀ k, k < 0 → parseFieldDescriptor (TJ9 k).2.2.1 = some (tyJ9 k) := by decide +kernel
abbrev cJ9_abs_0f7a4 : ByteArray := prog_10_method_59_code
def yJ9_abs_0f7a4 : MethodName := ⟨RJ9, "abs", "(I)I"⟩
abbrev cJ9_max_7cf53 : ByteArray := prog_10_method_65_code
def yJ9_max_7cf53 : MethodName := ⟨RJ9, "max", "(II)I"⟩
abbrev cJ9_min_7cf53 : ByteArray := prog_10_method_69_code
def yJ9_min_7cf53 : MethodName := ⟨RJ9, "min", "(II)I"⟩
def RJ0 : String := "java/lang/String"
def TJ0 : u_T := fun k => match k with
  | _ => ("", "", "", false)
def tyJ0 : Nat → FieldType := fun k => match k with
  | _ => .int
theorem nmJ0 : ∀ a, a < 0 → ∀ b, b < 0 → a ≠ b → (TJ0 a).2.1 ≠ (TJ0 b).2.1 := by decide +kernel
theorem tyJ0_ok : ∀ k, k < 0 → parseFieldDescriptor (TJ0 k).2.2.1 = some (tyJ0 k) := by decide +kernel
abbrev cJ0_length_8abf5 : ByteArray := prog_11_method_54_code
def yJ0_length_8abf5 : MethodName := ⟨RJ0, "length", "()I"⟩
abbrev cJ0_charAt_5068e : ByteArray := prog_11_method_56_code
def yJ0_charAt_5068e : MethodName := ⟨RJ0, "charAt", "(I)C"⟩
abbrev cJ0_coder_7d493 : ByteArray := prog_11_method_152_code
def yJ0_coder_7d493 : MethodName := ⟨RJ0, "coder", "()B"⟩
abbrev cJ0_isLatin1_aae02 : ByteArray := prog_11_method_154_code
def yJ0_isLatin1_aae02 : MethodName := ⟨RJ0, "isLatin1", "()Z"⟩
abbrev cJ0_checkIndex_df160 : ByteArray := prog_11_method_155_code
def yJ0_checkIndex_df160 : MethodName := ⟨RJ0, "checkIndex", "(II)V"⟩
def RJ1 : String := "java/lang/StringLatin1"
def TJ1 : u_T := fun k => match k with
  | _ => ("", "", "", false)
def tyJ1 : Nat → FieldType := fun k => match k with
  | _ => .int
theorem nmJ1 : ∀ a, a < 0 → ∀ b, b < 0 → a ≠ b → (TJ1 a).2.1 ≠ (TJ1 b).2.1 := by decide +kernel
theorem tyJ1_ok : ∀ k, k < 0 → parseFieldDescriptor (TJ1 k).2.2.1 = some (tyJ1 k) := by decide +kernel
abbrev cJ1_charAt_3b067 : ByteArray := prog_12_method_2_code
def yJ1_charAt_3b067 : MethodName := ⟨RJ1, "charAt", "([BI)C"⟩
def RJ2 : String := "java/lang/StringUTF16"
def TJ2 : u_T := fun k => match k with
  | _ => ("", "", "", false)
def tyJ2 : Nat → FieldType := fun k => match k with
  | _ => .int
theorem nmJ2 : ∀ a, a < 0 → ∀ b, b < 0 → a ≠ b → (TJ2 a).2.1 ≠ (TJ2 b).2.1 := by decide +kernel
theorem tyJ2_ok : ∀ k, k < 0 → parseFieldDescriptor (TJ2 k).2.2.1 = some (tyJ2 k) := by decide +kernel
abbrev cJ2_getChar_3b067 : ByteArray := prog_13_method_5_code
def yJ2_getChar_3b067 : MethodName := ⟨RJ2, "getChar", "([BI)C"⟩
abbrev cJ2_length_9d52b : ByteArray := prog_13_method_6_code
def yJ2_length_9d52b : MethodName := ⟨RJ2, "length", "([B)I"⟩
abbrev cJ2_charAt_3b067 : ByteArray := prog_13_method_83_code
def yJ2_charAt_3b067 : MethodName := ⟨RJ2, "charAt", "([BI)C"⟩
abbrev cJ2_checkIndex_2214a : ByteArray := prog_13_method_91_code
def yJ2_checkIndex_2214a : MethodName := ⟨RJ2, "checkIndex", "(I[B)V"⟩
def RJ10 : String := "java/lang/System"
def TJ10 : u_T := fun k => match k with
  | _ => ("", "", "", false)
def tyJ10 : Nat → FieldType := fun k => match k with
  | _ => .int
theorem nmJ10 : ∀ a, a < 0 → ∀ b, b < 0 → a ≠ b → (TJ10 a).2.1 ≠ (TJ10 b).2.1 := by decide +kernel
theorem tyJ10_ok : ∀ k, k < 0 → parseFieldDescriptor (TJ10 k).2.2.1 = some (tyJ10 k) := by decide +kernel
def RJ3 : String := "jdk/internal/util/Preconditions"
def TJ3 : u_T := fun k => match k with
  | _ => ("", "", "", false)
def tyJ3 : Nat → FieldType := fun k => match k with
  | _ => .int
theorem nmJ3 : ∀ a, a < 0 → ∀ b, b < 0 → a ≠ b → (TJ3 a).2.1 ≠ (TJ3 b).2.1 := by decide +kernel
theorem tyJ3_ok : ∀ k, k < 0 → parseFieldDescriptor (TJ3 k).2.2.1 = some (tyJ3 k) := by decide +kernel
abbrev cJ3_checkIndex_8e157 : ByteArray := prog_15_method_11_code
def yJ3_checkIndex_8e157 : MethodName := ⟨RJ3, "checkIndex", "(IILjava/util/function/BiFunction;)I"⟩
def RL : String := "EclipseSeatsLaw"
abbrev cL_law : ByteArray := code
def yL_law : MethodName := ⟨RL, "law", "([I)Z"⟩
abbrev vwCl : List vw_C := [(RX0, TX0, 4), (RX1, TX1, 1), (RX2, TX2, 13), (RX4, TX4, 4), (RX5, TX5, 6), (RX6, TX6, 12), (RX7, TX7, 32)]
abbrev mX0_init : MethodName × ByteArray × Nat × Option FieldType × Room := (yX0_init, cX0_init, 1, none, { frames := 1, cells := 0, slots := 0, locals := 20 })
abbrev mX0_work : MethodName × ByteArray × Nat × Option FieldType × Room := (yX0_work, cX0_work, 8, none, { frames := 4, cells := 0, slots := 0, locals := 88 })
abbrev mX0_rests : MethodName × ByteArray × Nat × Option FieldType × Room := (yX0_rests, cX0_rests, 3, (some .boolean), { frames := 0, cells := 0, slots := 0, locals := 0 })
abbrev mX0_gets : MethodName × ByteArray × Nat × Option FieldType × Room := (yX0_gets, cX0_gets, 5, (some .int), { frames := 3, cells := 0, slots := 0, locals := 64 })
abbrev mX1_init : MethodName × ByteArray × Nat × Option FieldType × Room := (yX1_init, cX1_init, 1, none, { frames := 1, cells := 0, slots := 0, locals := 20 })
abbrev mX1_kindsOf : MethodName × ByteArray × Nat × Option FieldType × Room := (yX1_kindsOf, cX1_kindsOf, 5, (some .int), { frames := 2, cells := 0, slots := 0, locals := 46 })
abbrev mX1_nextFor : MethodName × ByteArray × Nat × Option FieldType × Room := (yX1_nextFor, cX1_nextFor, 10, (some .int), { frames := 3, cells := 0, slots := 0, locals := 70 })
abbrev mX1_fits : MethodName × ByteArray × Nat × Option FieldType × Room := (yX1_fits, cX1_fits, 5, (some .boolean), { frames := 1, cells := 0, slots := 0, locals := 22 })
abbrev mX1_mostAlike : MethodName × ByteArray × Nat × Option FieldType × Room := (yX1_mostAlike, cX1_mostAlike, 6, (some .int), { frames := 1, cells := 0, slots := 0, locals := 23 })
abbrev mX1_likeOnes : MethodName × ByteArray × Nat × Option FieldType × Room := (yX1_likeOnes, cX1_likeOnes, 4, (some .int), { frames := 0, cells := 0, slots := 0, locals := 0 })
abbrev mX2_init : MethodName × ByteArray × Nat × Option FieldType × Room := (yX2_init, cX2_init, 1, none, { frames := 1, cells := 0, slots := 0, locals := 20 })
abbrev mX2_begin : MethodName × ByteArray × Nat × Option FieldType × Room := (yX2_begin, cX2_begin, 4, none, { frames := 0, cells := 0, slots := 0, locals := 0 })
abbrev mX2_copyOf : MethodName × ByteArray × Nat × Option FieldType × Room := (yX2_copyOf, cX2_copyOf, 2, none, { frames := 1, cells := 0, slots := 0, locals := 40 })
abbrev mX2_addBidder : MethodName × ByteArray × Nat × Option FieldType × Room := (yX2_addBidder, cX2_addBidder, 4, (some .int), { frames := 1, cells := 0, slots := 0, locals := 20 })
abbrev mX2_remember : MethodName × ByteArray × Nat × Option FieldType × Room := (yX2_remember, cX2_remember, 2, none, { frames := 1, cells := 0, slots := 0, locals := 40 })
abbrev mX2_stepBack : MethodName × ByteArray × Nat × Option FieldType × Room := (yX2_stepBack, cX2_stepBack, 2, none, { frames := 1, cells := 0, slots := 0, locals := 40 })
abbrev mX2_darkIn : MethodName × ByteArray × Nat × Option FieldType × Room := (yX2_darkIn, cX2_darkIn, 2, (some .int), { frames := 2, cells := 0, slots := 0, locals := 43 })
abbrev mX2_holder : MethodName × ByteArray × Nat × Option FieldType × Room := (yX2_holder, cX2_holder, 3, (some .int), { frames := 0, cells := 0, slots := 0, locals := 0 })
abbrev mX2_isOpenTo : MethodName × ByteArray × Nat × Option FieldType × Room := (yX2_isOpenTo, cX2_isOpenTo, 4, (some .boolean), { frames := 1, cells := 0, slots := 0, locals := 22 })
abbrev mX2_freeYards : MethodName × ByteArray × Nat × Option FieldType × Room := (yX2_freeYards, cX2_freeYards, 3, (some .int), { frames := 0, cells := 0, slots := 0, locals := 0 })
abbrev mX2_hides : MethodName × ByteArray × Nat × Option FieldType × Room := (yX2_hides, cX2_hides, 4, (some .boolean), { frames := 0, cells := 0, slots := 0, locals := 0 })
abbrev mX2_isHidden : MethodName × ByteArray × Nat × Option FieldType × Room := (yX2_isHidden, cX2_isHidden, 5, (some .boolean), { frames := 1, cells := 0, slots := 0, locals := 23 })
abbrev mX2_seenIn : MethodName × ByteArray × Nat × Option FieldType × Room := (yX2_seenIn, cX2_seenIn, 3, (some .int), { frames := 3, cells := 0, slots := 0, locals := 64 })
abbrev mX2_seenNow : MethodName × ByteArray × Nat × Option FieldType × Room := (yX2_seenNow, cX2_seenNow, 2, (some .int), { frames := 4, cells := 0, slots := 0, locals := 86 })
abbrev mX2_seenByAll : MethodName × ByteArray × Nat × Option FieldType × Room := (yX2_seenByAll, cX2_seenByAll, 3, (some .int), { frames := 5, cells := 0, slots := 0, locals := 107 })
abbrev mX2_openSeats : MethodName × ByteArray × Nat × Option FieldType × Room := (yX2_openSeats, cX2_openSeats, 3, (some .int), { frames := 2, cells := 0, slots := 0, locals := 47 })
abbrev mX2_paidByAll : MethodName × ByteArray × Nat × Option FieldType × Room := (yX2_paidByAll, cX2_paidByAll, 3, (some .int), { frames := 0, cells := 0, slots := 0, locals := 0 })
abbrev mX2_worthIn : MethodName × ByteArray × Nat × Option FieldType × Room := (yX2_worthIn, cX2_worthIn, 3, (some .int), { frames := 4, cells := 0, slots := 0, locals := 86 })
abbrev mX2_bid : MethodName × ByteArray × Nat × Option FieldType × Room := (yX2_bid, cX2_bid, 3, (some .int), { frames := 5, cells := 0, slots := 0, locals := 108 })
abbrev mX2_topBidder : MethodName × ByteArray × Nat × Option FieldType × Room := (yX2_topBidder, cX2_topBidder, 6, (some .int), { frames := 6, cells := 0, slots := 0, locals := 130 })
abbrev mX2_price : MethodName × ByteArray × Nat × Option FieldType × Room := (yX2_price, cX2_price, 5, (some .int), { frames := 6, cells := 0, slots := 0, locals := 130 })
abbrev mX2_harm : MethodName × ByteArray × Nat × Option FieldType × Room := (yX2_harm, cX2_harm, 6, (some .int), { frames := 3, cells := 0, slots := 0, locals := 64 })
abbrev mX3_worth : MethodName × ByteArray × Nat × Option FieldType × Room := (yX3_worth, cX3_worth, 3, (some .int), { frames := 0, cells := 0, slots := 0, locals := 0 })
abbrev mX3_head : MethodName × ByteArray × Nat × Option FieldType × Room := (yX3_head, cX3_head, 1, (some .int), { frames := 0, cells := 0, slots := 0, locals := 0 })
abbrev mX4_init : MethodName × ByteArray × Nat × Option FieldType × Room := (yX4_init, cX4_init, 1, none, { frames := 1, cells := 0, slots := 0, locals := 20 })
abbrev mX4_work : MethodName × ByteArray × Nat × Option FieldType × Room := (yX4_work, cX4_work, 5, none, { frames := 4, cells := 0, slots := 0, locals := 88 })
abbrev mX4_total : MethodName × ByteArray × Nat × Option FieldType × Room := (yX4_total, cX4_total, 1, (some .int), { frames := 0, cells := 0, slots := 0, locals := 0 })
abbrev mX4_seatFor : MethodName × ByteArray × Nat × Option FieldType × Room := (yX4_seatFor, cX4_seatFor, 3, (some .int), { frames := 1, cells := 0, slots := 0, locals := 20 })
abbrev mX4_lookAt : MethodName × ByteArray × Nat × Option FieldType × Room := (yX4_lookAt, cX4_lookAt, 5, none, { frames := 3, cells := 0, slots := 0, locals := 64 })
abbrev mX4_spread : MethodName × ByteArray × Nat × Option FieldType × Room := (yX4_spread, cX4_spread, 10, none, { frames := 1, cells := 0, slots := 0, locals := 21 })
abbrev mX4_seatShift : MethodName × ByteArray × Nat × Option FieldType × Room := (yX4_seatShift, cX4_seatShift, 1, (some .int), { frames := 0, cells := 0, slots := 0, locals := 0 })
abbrev mX5_init : MethodName × ByteArray × Nat × Option FieldType × Room := (yX5_init, cX5_init, 1, none, { frames := 1, cells := 0, slots := 0, locals := 20 })
abbrev mX5_readInto : MethodName × ByteArray × Nat × Option FieldType × Room := (yX5_readInto, cX5_readInto, 3, (some .int), { frames := 9, cells := 0, slots := 0, locals := 211 })
abbrev mX5_takeItem : MethodName × ByteArray × Nat × Option FieldType × Room := (yX5_takeItem, cX5_takeItem, 4, (some .boolean), { frames := 8, cells := 0, slots := 0, locals := 188 })
abbrev mX5_takeTrack : MethodName × ByteArray × Nat × Option FieldType × Room := (yX5_takeTrack, cX5_takeTrack, 2, (some .boolean), { frames := 3, cells := 0, slots := 0, locals := 61 })
abbrev mX5_takeDark : MethodName × ByteArray × Nat × Option FieldType × Room := (yX5_takeDark, cX5_takeDark, 2, (some .boolean), { frames := 3, cells := 0, slots := 0, locals := 61 })
abbrev mX5_takeHeights : MethodName × ByteArray × Nat × Option FieldType × Room := (yX5_takeHeights, cX5_takeHeights, 3, (some .boolean), { frames := 3, cells := 0, slots := 0, locals := 61 })
abbrev mX5_takeBidder : MethodName × ByteArray × Nat × Option FieldType × Room := (yX5_takeBidder, cX5_takeBidder, 3, (some .boolean), { frames := 3, cells := 0, slots := 0, locals := 61 })
abbrev mX5_takeSeat : MethodName × ByteArray × Nat × Option FieldType × Room := (yX5_takeSeat, cX5_takeSeat, 3, (some .boolean), { frames := 3, cells := 0, slots := 0, locals := 61 })
abbrev mX5_takeNumber : MethodName × ByteArray × Nat × Option FieldType × Room := (yX5_takeNumber, cX5_takeNumber, 2, (some .boolean), { frames := 2, cells := 0, slots := 0, locals := 40 })
abbrev mX5_takeStop : MethodName × ByteArray × Nat × Option FieldType × Room := (yX5_takeStop, cX5_takeStop, 1, (some .boolean), { frames := 2, cells := 0, slots := 0, locals := 40 })
abbrev mX5_step : MethodName × ByteArray × Nat × Option FieldType × Room := (yX5_step, cX5_step, 1, none, { frames := 1, cells := 0, slots := 0, locals := 20 })
abbrev mX5_isWord : MethodName × ByteArray × Nat × Option FieldType × Room := (yX5_isWord, cX5_isWord, 3, (some .boolean), { frames := 7, cells := 0, slots := 0, locals := 166 })
abbrev mX5_isLetter : MethodName × ByteArray × Nat × Option FieldType × Room := (yX5_isLetter, cX5_isLetter, 1, (some .boolean), { frames := 0, cells := 0, slots := 0, locals := 0 })
abbrev mX5_isFigure : MethodName × ByteArray × Nat × Option FieldType × Room := (yX5_isFigure, cX5_isFigure, 1, (some .boolean), { frames := 0, cells := 0, slots := 0, locals := 0 })
abbrev mX6_init : MethodName × ByteArray × Nat × Option FieldType × Room := (yX6_init, cX6_init, 1, none, { frames := 2, cells := 0, slots := 0, locals := 40 })
abbrev mX6_hill : MethodName × ByteArray × Nat × Option FieldType × Room := (yX6_hill, cX6_hill, 4, (some .int), { frames := 2, cells := 0, slots := 0, locals := 42 })
abbrev mX6_track : MethodName × ByteArray × Nat × Option FieldType × Room := (yX6_track, cX6_track, 3, (some .int), { frames := 2, cells := 0, slots := 0, locals := 42 })
abbrev mX6_height : MethodName × ByteArray × Nat × Option FieldType × Room := (yX6_height, cX6_height, 4, (some .int), { frames := 1, cells := 0, slots := 0, locals := 21 })
abbrev mX6_one : MethodName × ByteArray × Nat × Option FieldType × Room := (yX6_one, cX6_one, 3, (some .int), { frames := 2, cells := 0, slots := 0, locals := 43 })
abbrev mX6_type : MethodName × ByteArray × Nat × Option FieldType × Room := (yX6_type, cX6_type, 2, (some .int), { frames := 1, cells := 0, slots := 0, locals := 21 })
abbrev mX6_clear : MethodName × ByteArray × Nat × Option FieldType × Room := (yX6_clear, cX6_clear, 2, (some .int), { frames := 0, cells := 0, slots := 0, locals := 0 })
abbrev mX6_read : MethodName × ByteArray × Nat × Option FieldType × Room := (yX6_read, cX6_read, 2, (some .int), { frames := 10, cells := 0, slots := 0, locals := 233 })
abbrev mX6_sell : MethodName × ByteArray × Nat × Option FieldType × Room := (yX6_sell, cX6_sell, 4, (some .int), { frames := 7, cells := 0, slots := 0, locals := 155 })
abbrev mX6_leave : MethodName × ByteArray × Nat × Option FieldType × Room := (yX6_leave, cX6_leave, 3, (some .int), { frames := 2, cells := 0, slots := 0, locals := 61 })
abbrev mX6_moves : MethodName × ByteArray × Nat × Option FieldType × Room := (yX6_moves, cX6_moves, 4, (some .int), { frames := 2, cells := 0, slots := 0, locals := 61 })
abbrev mX6_undo : MethodName × ByteArray × Nat × Option FieldType × Room := (yX6_undo, cX6_undo, 1, (some .int), { frames := 2, cells := 0, slots := 0, locals := 61 })
abbrev mX6_of : MethodName × ByteArray × Nat × Option FieldType × Room := (yX6_of, cX6_of, 3, (some .int), { frames := 1, cells := 0, slots := 0, locals := 21 })
abbrev mX6_yard : MethodName × ByteArray × Nat × Option FieldType × Room := (yX6_yard, cX6_yard, 3, (some .int), { frames := 3, cells := 0, slots := 0, locals := 64 })
abbrev mX6_sees : MethodName × ByteArray × Nat × Option FieldType × Room := (yX6_sees, cX6_sees, 3, (some .int), { frames := 5, cells := 0, slots := 0, locals := 107 })
abbrev mX6_gives : MethodName × ByteArray × Nat × Option FieldType × Room := (yX6_gives, cX6_gives, 4, (some .int), { frames := 6, cells := 0, slots := 0, locals := 130 })
abbrev mX6_auction : MethodName × ByteArray × Nat × Option FieldType × Room := (yX6_auction, cX6_auction, 4, (some .int), { frames := 7, cells := 0, slots := 0, locals := 155 })
abbrev mX6_hurt : MethodName × ByteArray × Nat × Option FieldType × Room := (yX6_hurt, cX6_hurt, 3, (some .int), { frames := 4, cells := 0, slots := 0, locals := 89 })
abbrev mX6_best : MethodName × ByteArray × Nat × Option FieldType × Room := (yX6_best, cX6_best, 7, (some .int), { frames := 5, cells := 0, slots := 0, locals := 108 })
abbrev mX6_all : MethodName × ByteArray × Nat × Option FieldType × Room := (yX6_all, cX6_all, 2, (some .int), { frames := 5, cells := 0, slots := 0, locals := 112 })
abbrev mX6_move : MethodName × ByteArray × Nat × Option FieldType × Room := (yX6_move, cX6_move, 6, (some .int), { frames := 4, cells := 0, slots := 0, locals := 89 })
abbrev mX6_note : MethodName × ByteArray × Nat × Option FieldType × Room := (yX6_note, cX6_note, 6, (some .int), { frames := 1, cells := 0, slots := 0, locals := 21 })
abbrev mX6_forget : MethodName × ByteArray × Nat × Option FieldType × Room := (yX6_forget, cX6_forget, 2, (some .int), { frames := 0, cells := 0, slots := 0, locals := 0 })
abbrev mX6_is : MethodName × ByteArray × Nat × Option FieldType × Room := (yX6_is, cX6_is, 2, (some .int), { frames := 3, cells := 0, slots := 0, locals := 70 })
abbrev mX6_offer : MethodName × ByteArray × Nat × Option FieldType × Room := (yX6_offer, cX6_offer, 2, (some .int), { frames := 4, cells := 0, slots := 0, locals := 99 })
abbrev mX6_two : MethodName × ByteArray × Nat × Option FieldType × Room := (yX6_two, cX6_two, 7, (some .int), { frames := 5, cells := 0, slots := 0, locals := 115 })
abbrev mX6_clouds : MethodName × ByteArray × Nat × Option FieldType × Room := (yX6_clouds, cX6_clouds, 4, (some .int), { frames := 6, cells := 0, slots := 0, locals := 129 })
abbrev mX6_eclipses : MethodName × ByteArray × Nat × Option FieldType × Room := (yX6_eclipses, cX6_eclipses, 10, (some .int), { frames := 3, cells := 0, slots := 0, locals := 69 })
abbrev mX6_part : MethodName × ByteArray × Nat × Option FieldType × Room := (yX6_part, cX6_part, 2, (some .long), { frames := 1, cells := 0, slots := 0, locals := 21 })
abbrev mX6_image : MethodName × ByteArray × Nat × Option FieldType × Room := (yX6_image, cX6_image, 3, (some .int), { frames := 2, cells := 0, slots := 0, locals := 61 })
abbrev mX6_from : MethodName × ByteArray × Nat × Option FieldType × Room := (yX6_from, cX6_from, 3, (some .int), { frames := 2, cells := 0, slots := 0, locals := 61 })
abbrev mX6_status : MethodName × ByteArray × Nat × Option FieldType × Room := (yX6_status, cX6_status, 2, (some .int), { frames := 1, cells := 0, slots := 0, locals := 21 })
abbrev mX6_count : MethodName × ByteArray × Nat × Option FieldType × Room := (yX6_count, cX6_count, 2, (some .int), { frames := 7, cells := 0, slots := 0, locals := 150 })
abbrev mX6_digest : MethodName × ByteArray × Nat × Option FieldType × Room := (yX6_digest, cX6_digest, 4, (some .long), { frames := 7, cells := 0, slots := 0, locals := 150 })
abbrev mX6_howMany : MethodName × ByteArray × Nat × Option FieldType × Room := (yX6_howMany, cX6_howMany, 2, (some .int), { frames := 6, cells := 0, slots := 0, locals := 129 })
abbrev mX6_bad : MethodName × ByteArray × Nat × Option FieldType × Room := (yX6_bad, cX6_bad, 2, (some .int), { frames := 0, cells := 0, slots := 0, locals := 0 })
abbrev mX6_no : MethodName × ByteArray × Nat × Option FieldType × Room := (yX6_no, cX6_no, 1, (some .int), { frames := 0, cells := 0, slots := 0, locals := 0 })
abbrev mX6_full : MethodName × ByteArray × Nat × Option FieldType × Room := (yX6_full, cX6_full, 1, (some .int), { frames := 0, cells := 0, slots := 0, locals := 0 })
abbrev mX6_isBidder : MethodName × ByteArray × Nat × Option FieldType × Room := (yX6_isBidder, cX6_isBidder, 2, (some .boolean), { frames := 0, cells := 0, slots := 0, locals := 0 })
abbrev mX6_isYard : MethodName × ByteArray × Nat × Option FieldType × Room := (yX6_isYard, cX6_isYard, 1, (some .boolean), { frames := 0, cells := 0, slots := 0, locals := 0 })
abbrev mX6_isTrack : MethodName × ByteArray × Nat × Option FieldType × Room := (yX6_isTrack, cX6_isTrack, 2, (some .boolean), { frames := 1, cells := 0, slots := 0, locals := 21 })
abbrev mX6_within : MethodName × ByteArray × Nat × Option FieldType × Room := (yX6_within, cX6_within, 2, (some .boolean), { frames := 0, cells := 0, slots := 0, locals := 0 })
abbrev mX6_darkFrom : MethodName × ByteArray × Nat × Option FieldType × Room := (yX6_darkFrom, cX6_darkFrom, 3, (some .int), { frames := 1, cells := 0, slots := 0, locals := 21 })
abbrev mX6_darkOver : MethodName × ByteArray × Nat × Option FieldType × Room := (yX6_darkOver, cX6_darkOver, 5, (some .int), { frames := 2, cells := 0, slots := 0, locals := 43 })
abbrev mX6_commonDivisor : MethodName × ByteArray × Nat × Option FieldType × Room := (yX6_commonDivisor, cX6_commonDivisor, 3, (some .int), { frames := 0, cells := 0, slots := 0, locals := 0 })
abbrev mX7_bad : MethodName × ByteArray × Nat × Option FieldType × Room := (yX7_bad, cX7_bad, 1, (some .int), { frames := 0, cells := 0, slots := 0, locals := 0 })
abbrev mX7_ten : MethodName × ByteArray × Nat × Option FieldType × Room := (yX7_ten, cX7_ten, 1, (some .int), { frames := 0, cells := 0, slots := 0, locals := 0 })
abbrev mX7_no : MethodName × ByteArray × Nat × Option FieldType × Room := (yX7_no, cX7_no, 1, (some .int), { frames := 0, cells := 0, slots := 0, locals := 0 })
abbrev mX7_full : MethodName × ByteArray × Nat × Option FieldType × Room := (yX7_full, cX7_full, 1, (some .int), { frames := 0, cells := 0, slots := 0, locals := 0 })
abbrev mX7_in : MethodName × ByteArray × Nat × Option FieldType × Room := (yX7_in, cX7_in, 3, (some .boolean), { frames := 0, cells := 0, slots := 0, locals := 0 })
abbrev mX7_has : MethodName × ByteArray × Nat × Option FieldType × Room := (yX7_has, cX7_has, 2, (some .boolean), { frames := 0, cells := 0, slots := 0, locals := 0 })
abbrev mX7_lesser : MethodName × ByteArray × Nat × Option FieldType × Room := (yX7_lesser, cX7_lesser, 2, (some .int), { frames := 0, cells := 0, slots := 0, locals := 0 })
abbrev mX7_init : MethodName × ByteArray × Nat × Option FieldType × Room := (yX7_init, cX7_init, 1, none, { frames := 1, cells := 0, slots := 0, locals := 23 })
abbrev mX7_begin : MethodName × ByteArray × Nat × Option FieldType × Room := (yX7_begin, cX7_begin, 4, none, { frames := 0, cells := 0, slots := 0, locals := 0 })
abbrev mX7_isOne : MethodName × ByteArray × Nat × Option FieldType × Room := (yX7_isOne, cX7_isOne, 2, (some .boolean), { frames := 1, cells := 0, slots := 0, locals := 22 })
abbrev mX7_isYard : MethodName × ByteArray × Nat × Option FieldType × Room := (yX7_isYard, cX7_isYard, 1, (some .boolean), { frames := 1, cells := 0, slots := 0, locals := 22 })
abbrev mX7_hill : MethodName × ByteArray × Nat × Option FieldType × Room := (yX7_hill, cX7_hill, 4, (some .int), { frames := 2, cells := 0, slots := 0, locals := 42 })
abbrev mX7_track : MethodName × ByteArray × Nat × Option FieldType × Room := (yX7_track, cX7_track, 3, (some .int), { frames := 2, cells := 0, slots := 0, locals := 42 })
abbrev mX7_height : MethodName × ByteArray × Nat × Option FieldType × Room := (yX7_height, cX7_height, 4, (some .int), { frames := 2, cells := 0, slots := 0, locals := 42 })
abbrev mX7_addOne : MethodName × ByteArray × Nat × Option FieldType × Room := (yX7_addOne, cX7_addOne, 3, (some .int), { frames := 0, cells := 0, slots := 0, locals := 0 })
abbrev mX7_one : MethodName × ByteArray × Nat × Option FieldType × Room := (yX7_one, cX7_one, 3, (some .int), { frames := 1, cells := 0, slots := 0, locals := 22 })
abbrev mX7_type : MethodName × ByteArray × Nat × Option FieldType × Room := (yX7_type, cX7_type, 2, (some .int), { frames := 1, cells := 0, slots := 0, locals := 22 })
abbrev mX7_clear : MethodName × ByteArray × Nat × Option FieldType × Room := (yX7_clear, cX7_clear, 2, (some .int), { frames := 0, cells := 0, slots := 0, locals := 0 })
abbrev mX7_here : MethodName × ByteArray × Nat × Option FieldType × Room := (yX7_here, cX7_here, 1, (some .int), { frames := 0, cells := 0, slots := 0, locals := 0 })
abbrev mX7_skip : MethodName × ByteArray × Nat × Option FieldType × Room := (yX7_skip, cX7_skip, 1, none, { frames := 1, cells := 0, slots := 0, locals := 20 })
abbrev mX7_isLetter : MethodName × ByteArray × Nat × Option FieldType × Room := (yX7_isLetter, cX7_isLetter, 1, (some .boolean), { frames := 1, cells := 0, slots := 0, locals := 22 })
abbrev mX7_isFigure : MethodName × ByteArray × Nat × Option FieldType × Room := (yX7_isFigure, cX7_isFigure, 1, (some .boolean), { frames := 1, cells := 0, slots := 0, locals := 22 })
abbrev mX7_wordSize : MethodName × ByteArray × Nat × Option FieldType × Room := (yX7_wordSize, cX7_wordSize, 2, (some .int), { frames := 2, cells := 0, slots := 0, locals := 42 })
abbrev mX7_letter : MethodName × ByteArray × Nat × Option FieldType × Room := (yX7_letter, cX7_letter, 2, (some .int), { frames := 0, cells := 0, slots := 0, locals := 0 })
abbrev mX7_spells : MethodName × ByteArray × Nat × Option FieldType × Room := (yX7_spells, cX7_spells, 5, (some .boolean), { frames := 1, cells := 0, slots := 0, locals := 21 })
abbrev mX7_wordHere : MethodName × ByteArray × Nat × Option FieldType × Room := (yX7_wordHere, cX7_wordHere, 2, (some .int), { frames := 3, cells := 0, slots := 0, locals := 63 })
abbrev mX7_number : MethodName × ByteArray × Nat × Option FieldType × Room := (yX7_number, cX7_number, 5, (some .boolean), { frames := 2, cells := 0, slots := 0, locals := 42 })
abbrev mX7_ends : MethodName × ByteArray × Nat × Option FieldType × Room := (yX7_ends, cX7_ends, 1, (some .boolean), { frames := 2, cells := 0, slots := 0, locals := 40 })
abbrev mX7_readsDark : MethodName × ByteArray × Nat × Option FieldType × Room := (yX7_readsDark, cX7_readsDark, 1, (some .boolean), { frames := 3, cells := 0, slots := 0, locals := 66 })
abbrev mX7_readsHeights : MethodName × ByteArray × Nat × Option FieldType × Room := (yX7_readsHeights, cX7_readsHeights, 2, (some .boolean), { frames := 3, cells := 0, slots := 0, locals := 66 })
abbrev mX7_readsOne : MethodName × ByteArray × Nat × Option FieldType × Room := (yX7_readsOne, cX7_readsOne, 1, (some .boolean), { frames := 3, cells := 0, slots := 0, locals := 66 })
abbrev mX7_readsSeat : MethodName × ByteArray × Nat × Option FieldType × Room := (yX7_readsSeat, cX7_readsSeat, 4, (some .boolean), { frames := 3, cells := 0, slots := 0, locals := 66 })
abbrev mX7_readsItem : MethodName × ByteArray × Nat × Option FieldType × Room := (yX7_readsItem, cX7_readsItem, 2, (some .boolean), { frames := 4, cells := 0, slots := 0, locals := 89 })
abbrev mX7_readsFirst : MethodName × ByteArray × Nat × Option FieldType × Room := (yX7_readsFirst, cX7_readsFirst, 1, (some .boolean), { frames := 4, cells := 0, slots := 0, locals := 84 })
abbrev mX7_readsHill : MethodName × ByteArray × Nat × Option FieldType × Room := (yX7_readsHill, cX7_readsHill, 2, (some .int), { frames := 5, cells := 0, slots := 0, locals := 110 })
abbrev mX7_read : MethodName × ByteArray × Nat × Option FieldType × Room := (yX7_read, cX7_read, 3, (some .int), { frames := 6, cells := 0, slots := 0, locals := 131 })
abbrev mX7_worthBy : MethodName × ByteArray × Nat × Option FieldType × Room := (yX7_worthBy, cX7_worthBy, 3, (some .int), { frames := 0, cells := 0, slots := 0, locals := 0 })
abbrev mX7_headBy : MethodName × ByteArray × Nat × Option FieldType × Room := (yX7_headBy, cX7_headBy, 1, (some .int), { frames := 0, cells := 0, slots := 0, locals := 0 })
abbrev mX7_darkIn : MethodName × ByteArray × Nat × Option FieldType × Room := (yX7_darkIn, cX7_darkIn, 4, (some .int), { frames := 0, cells := 0, slots := 0, locals := 0 })
abbrev mX7_who : MethodName × ByteArray × Nat × Option FieldType × Room := (yX7_who, cX7_who, 3, (some .int), { frames := 0, cells := 0, slots := 0, locals := 0 })
abbrev mX7_seen : MethodName × ByteArray × Nat × Option FieldType × Room := (yX7_seen, cX7_seen, 6, (some .int), { frames := 1, cells := 0, slots := 0, locals := 23 })
abbrev mX7_worth : MethodName × ByteArray × Nat × Option FieldType × Room := (yX7_worth, cX7_worth, 2, (some .int), { frames := 2, cells := 0, slots := 0, locals := 48 })
abbrev mX7_othersSee : MethodName × ByteArray × Nat × Option FieldType × Room := (yX7_othersSee, cX7_othersSee, 4, (some .int), { frames := 2, cells := 0, slots := 0, locals := 48 })
abbrev mX7_isOpen : MethodName × ByteArray × Nat × Option FieldType × Room := (yX7_isOpen, cX7_isOpen, 4, (some .boolean), { frames := 1, cells := 0, slots := 0, locals := 22 })
abbrev mX7_lays : MethodName × ByteArray × Nat × Option FieldType × Room := (yX7_lays, cX7_lays, 4, none, { frames := 0, cells := 0, slots := 0, locals := 0 })
abbrev mX7_takes : MethodName × ByteArray × Nat × Option FieldType × Room := (yX7_takes, cX7_takes, 4, none, { frames := 0, cells := 0, slots := 0, locals := 0 })
abbrev mX7_notes : MethodName × ByteArray × Nat × Option FieldType × Room := (yX7_notes, cX7_notes, 2, none, { frames := 1, cells := 0, slots := 0, locals := 23 })
abbrev mX7_free : MethodName × ByteArray × Nat × Option FieldType × Room := (yX7_free, cX7_free, 3, (some .int), { frames := 0, cells := 0, slots := 0, locals := 0 })
abbrev mX7_sell : MethodName × ByteArray × Nat × Option FieldType × Room := (yX7_sell, cX7_sell, 4, (some .int), { frames := 6, cells := 0, slots := 0, locals := 141 })
abbrev mX7_leave : MethodName × ByteArray × Nat × Option FieldType × Room := (yX7_leave, cX7_leave, 3, (some .int), { frames := 2, cells := 0, slots := 0, locals := 44 })
abbrev mX7_moves : MethodName × ByteArray × Nat × Option FieldType × Room := (yX7_moves, cX7_moves, 4, (some .int), { frames := 2, cells := 0, slots := 0, locals := 44 })
abbrev mX7_undo : MethodName × ByteArray × Nat × Option FieldType × Room := (yX7_undo, cX7_undo, 1, (some .int), { frames := 1, cells := 0, slots := 0, locals := 23 })
abbrev mX7_of : MethodName × ByteArray × Nat × Option FieldType × Room := (yX7_of, cX7_of, 3, (some .int), { frames := 2, cells := 0, slots := 0, locals := 43 })
abbrev mX7_yard : MethodName × ByteArray × Nat × Option FieldType × Room := (yX7_yard, cX7_yard, 3, (some .int), { frames := 2, cells := 0, slots := 0, locals := 42 })
abbrev mX7_seesIn : MethodName × ByteArray × Nat × Option FieldType × Room := (yX7_seesIn, cX7_seesIn, 5, (some .int), { frames := 2, cells := 0, slots := 0, locals := 48 })
abbrev mX7_worthIn : MethodName × ByteArray × Nat × Option FieldType × Room := (yX7_worthIn, cX7_worthIn, 3, (some .int), { frames := 3, cells := 0, slots := 0, locals := 72 })
abbrev mX7_sees : MethodName × ByteArray × Nat × Option FieldType × Room := (yX7_sees, cX7_sees, 3, (some .int), { frames := 3, cells := 0, slots := 0, locals := 72 })
abbrev mX7_gives : MethodName × ByteArray × Nat × Option FieldType × Room := (yX7_gives, cX7_gives, 3, (some .int), { frames := 4, cells := 0, slots := 0, locals := 94 })
abbrev mX7_bidOf : MethodName × ByteArray × Nat × Option FieldType × Room := (yX7_bidOf, cX7_bidOf, 3, (some .int), { frames := 4, cells := 0, slots := 0, locals := 94 })
abbrev mX7_winner : MethodName × ByteArray × Nat × Option FieldType × Room := (yX7_winner, cX7_winner, 6, (some .int), { frames := 5, cells := 0, slots := 0, locals := 116 })
abbrev mX7_priceOf : MethodName × ByteArray × Nat × Option FieldType × Room := (yX7_priceOf, cX7_priceOf, 6, (some .int), { frames := 5, cells := 0, slots := 0, locals := 116 })
abbrev mX7_auction : MethodName × ByteArray × Nat × Option FieldType × Room := (yX7_auction, cX7_auction, 4, (some .int), { frames := 6, cells := 0, slots := 0, locals := 141 })
abbrev mX7_hurtIn : MethodName × ByteArray × Nat × Option FieldType × Room := (yX7_hurtIn, cX7_hurtIn, 6, (some .int), { frames := 3, cells := 0, slots := 0, locals := 71 })
abbrev mX7_hurt : MethodName × ByteArray × Nat × Option FieldType × Room := (yX7_hurt, cX7_hurt, 3, (some .int), { frames := 4, cells := 0, slots := 0, locals := 96 })
abbrev mX7_best : MethodName × ByteArray × Nat × Option FieldType × Room := (yX7_best, cX7_best, 7, (some .int), { frames := 4, cells := 0, slots := 0, locals := 96 })
abbrev mX7_seatBy : MethodName × ByteArray × Nat × Option FieldType × Room := (yX7_seatBy, cX7_seatBy, 5, (some .boolean), { frames := 1, cells := 0, slots := 0, locals := 21 })
abbrev mX7_all : MethodName × ByteArray × Nat × Option FieldType × Room := (yX7_all, cX7_all, 7, (some .int), { frames := 3, cells := 0, slots := 0, locals := 69 })
abbrev mX7_move : MethodName × ByteArray × Nat × Option FieldType × Room := (yX7_move, cX7_move, 6, (some .int), { frames := 4, cells := 0, slots := 0, locals := 96 })
abbrev mX7_note : MethodName × ByteArray × Nat × Option FieldType × Room := (yX7_note, cX7_note, 5, (some .int), { frames := 2, cells := 0, slots := 0, locals := 43 })
abbrev mX7_forget : MethodName × ByteArray × Nat × Option FieldType × Room := (yX7_forget, cX7_forget, 2, (some .int), { frames := 0, cells := 0, slots := 0, locals := 0 })
abbrev mX7_kindsOf : MethodName × ByteArray × Nat × Option FieldType × Room := (yX7_kindsOf, cX7_kindsOf, 7, (some .int), { frames := 1, cells := 0, slots := 0, locals := 22 })
abbrev mX7_is : MethodName × ByteArray × Nat × Option FieldType × Room := (yX7_is, cX7_is, 2, (some .int), { frames := 2, cells := 0, slots := 0, locals := 48 })
abbrev mX7_alike : MethodName × ByteArray × Nat × Option FieldType × Room := (yX7_alike, cX7_alike, 7, (some .int), { frames := 1, cells := 0, slots := 0, locals := 22 })
abbrev mX7_offer : MethodName × ByteArray × Nat × Option FieldType × Room := (yX7_offer, cX7_offer, 8, (some .int), { frames := 2, cells := 0, slots := 0, locals := 48 })
abbrev mX7_gets : MethodName × ByteArray × Nat × Option FieldType × Room := (yX7_gets, cX7_gets, 6, (some .int), { frames := 1, cells := 0, slots := 0, locals := 23 })
abbrev mX7_rests : MethodName × ByteArray × Nat × Option FieldType × Room := (yX7_rests, cX7_rests, 7, (some .boolean), { frames := 2, cells := 0, slots := 0, locals := 48 })
abbrev mX7_two : MethodName × ByteArray × Nat × Option FieldType × Room := (yX7_two, cX7_two, 8, (some .int), { frames := 3, cells := 0, slots := 0, locals := 74 })
abbrev mX7_lay : MethodName × ByteArray × Nat × Option FieldType × Room := (yX7_lay, cX7_lay, 11, none, { frames := 0, cells := 0, slots := 0, locals := 0 })
abbrev mX7_clouds : MethodName × ByteArray × Nat × Option FieldType × Room := (yX7_clouds, cX7_clouds, 2, (some .int), { frames := 3, cells := 0, slots := 0, locals := 71 })
abbrev mX7_eclipses : MethodName × ByteArray × Nat × Option FieldType × Room := (yX7_eclipses, cX7_eclipses, 9, (some .int), { frames := 3, cells := 0, slots := 0, locals := 71 })
abbrev mX7_part : MethodName × ByteArray × Nat × Option FieldType × Room := (yX7_part, cX7_part, 2, (some .long), { frames := 1, cells := 0, slots := 0, locals := 20 })
abbrev mX7_image : MethodName × ByteArray × Nat × Option FieldType × Room := (yX7_image, cX7_image, 4, (some .int), { frames := 1, cells := 0, slots := 0, locals := 23 })
abbrev mX7_from : MethodName × ByteArray × Nat × Option FieldType × Room := (yX7_from, cX7_from, 4, (some .int), { frames := 1, cells := 0, slots := 0, locals := 23 })
abbrev mX7_status : MethodName × ByteArray × Nat × Option FieldType × Room := (yX7_status, cX7_status, 2, (some .int), { frames := 1, cells := 0, slots := 0, locals := 22 })
abbrev mX7_allPaid : MethodName × ByteArray × Nat × Option FieldType × Room := (yX7_allPaid, cX7_allPaid, 3, (some .int), { frames := 0, cells := 0, slots := 0, locals := 0 })
abbrev mX7_countOf : MethodName × ByteArray × Nat × Option FieldType × Room := (yX7_countOf, cX7_countOf, 2, (some .int), { frames := 3, cells := 0, slots := 0, locals := 71 })
abbrev mX7_count : MethodName × ByteArray × Nat × Option FieldType × Room := (yX7_count, cX7_count, 2, (some .int), { frames := 4, cells := 0, slots := 0, locals := 92 })
abbrev mX7_mix : MethodName × ByteArray × Nat × Option FieldType × Room := (yX7_mix, cX7_mix, 3, none, { frames := 0, cells := 0, slots := 0, locals := 0 })
abbrev mX7_digest : MethodName × ByteArray × Nat × Option FieldType × Room := (yX7_digest, cX7_digest, 2, (some .long), { frames := 4, cells := 0, slots := 0, locals := 92 })
abbrev mJ9_abs_0f7a4 : MethodName × ByteArray × Nat × Option FieldType × Room := (yJ9_abs_0f7a4, cJ9_abs_0f7a4, 1, (some .int), { frames := 0, cells := 0, slots := 0, locals := 0 })
abbrev mJ9_max_7cf53 : MethodName × ByteArray × Nat × Option FieldType × Room := (yJ9_max_7cf53, cJ9_max_7cf53, 2, (some .int), { frames := 0, cells := 0, slots := 0, locals := 0 })
abbrev mJ9_min_7cf53 : MethodName × ByteArray × Nat × Option FieldType × Room := (yJ9_min_7cf53, cJ9_min_7cf53, 2, (some .int), { frames := 0, cells := 0, slots := 0, locals := 0 })
abbrev mJ0_length_8abf5 : MethodName × ByteArray × Nat × Option FieldType × Room := (yJ0_length_8abf5, cJ0_length_8abf5, 1, (some .int), { frames := 1, cells := 0, slots := 0, locals := 20 })
abbrev mJ0_charAt_5068e : MethodName × ByteArray × Nat × Option FieldType × Room := (yJ0_charAt_5068e, cJ0_charAt_5068e, 2, (some .char), { frames := 6, cells := 0, slots := 0, locals := 145 })
abbrev mJ0_coder_7d493 : MethodName × ByteArray × Nat × Option FieldType × Room := (yJ0_coder_7d493, cJ0_coder_7d493, 1, (some .byte), { frames := 0, cells := 0, slots := 0, locals := 0 })
abbrev mJ0_isLatin1_aae02 : MethodName × ByteArray × Nat × Option FieldType × Room := (yJ0_isLatin1_aae02, cJ0_isLatin1_aae02, 1, (some .boolean), { frames := 0, cells := 0, slots := 0, locals := 0 })
abbrev mJ0_checkIndex_df160 : MethodName × ByteArray × Nat × Option FieldType × Room := (yJ0_checkIndex_df160, cJ0_checkIndex_df160, 2, none, { frames := 3, cells := 0, slots := 0, locals := 82 })
abbrev mJ1_charAt_3b067 : MethodName × ByteArray × Nat × Option FieldType × Room := (yJ1_charAt_3b067, cJ1_charAt_3b067, 2, (some .char), { frames := 4, cells := 0, slots := 0, locals := 103 })
abbrev mJ2_getChar_3b067 : MethodName × ByteArray × Nat × Option FieldType × Room := (yJ2_getChar_3b067, cJ2_getChar_3b067, 2, (some .char), { frames := 2, cells := 0, slots := 0, locals := 60 })
abbrev mJ2_length_9d52b : MethodName × ByteArray × Nat × Option FieldType × Room := (yJ2_length_9d52b, cJ2_length_9d52b, 1, (some .int), { frames := 0, cells := 0, slots := 0, locals := 0 })
abbrev mJ2_charAt_3b067 : MethodName × ByteArray × Nat × Option FieldType × Room := (yJ2_charAt_3b067, cJ2_charAt_3b067, 2, (some .char), { frames := 5, cells := 0, slots := 0, locals := 124 })
abbrev mJ2_checkIndex_2214a : MethodName × ByteArray × Nat × Option FieldType × Room := (yJ2_checkIndex_2214a, cJ2_checkIndex_2214a, 2, none, { frames := 4, cells := 0, slots := 0, locals := 103 })
abbrev mJ3_checkIndex_8e157 : MethodName × ByteArray × Nat × Option FieldType × Room := (yJ3_checkIndex_8e157, cJ3_checkIndex_8e157, 3, (some .int), { frames := 2, cells := 0, slots := 0, locals := 60 })
set_option maxRecDepth 20000 in
theorem inX0 : ∀ w ∈ u_ws RX0 TX0 4, w ∈ lw_tbl := by decide +kernel
set_option maxRecDepth 20000 in
theorem inX1 : ∀ w ∈ u_ws RX1 TX1 1, w ∈ lw_tbl := by decide +kernel
set_option maxRecDepth 20000 in
theorem inX2 : ∀ w ∈ u_ws RX2 TX2 13, w ∈ lw_tbl := by decide +kernel
set_option maxRecDepth 20000 in
theorem inX4 : ∀ w ∈ u_ws RX4 TX4 4, w ∈ lw_tbl := by decide +kernel
set_option maxRecDepth 20000 in
theorem inX5 : ∀ w ∈ u_ws RX5 TX5 6, w ∈ lw_tbl := by decide +kernel
set_option maxRecDepth 20000 in
theorem inX6 : ∀ w ∈ u_ws RX6 TX6 12, w ∈ lw_tbl := by decide +kernel
set_option maxRecDepth 20000 in
theorem inX7 : ∀ w ∈ u_ws RX7 TX7 32, w ∈ lw_tbl := by decide +kernel
