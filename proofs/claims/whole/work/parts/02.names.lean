def RX0 : String := "ElderBallast$Chances"
def TX0 : u_T := fun k => match k with
  | 0 => ("ElderBallast$Chances", "ways", "[I", false)
  | 1 => ("ElderBallast$Chances", "next", "[I", false)
  | _ => ("ElderBallast$Chances", "ove\x72", "I", false)
def tyX0 : Nat → FieldType := fun k => match k with
  | 0 => .array .int
  | 1 => .array .int
  | _ => .int
abbrev wsX00 : List Cond := u_ws RX0 TX0 3
theorem nmX0 : ∀ a, a < 3 → ∀ b, b < 3 → a ≠ b → (TX0 a).2.1 ≠ (TX0 b).2.1 := by decide +kernel
theorem tyX0_ok : ∀ k, k < 3 → parseFieldDescriptor (TX0 k).2.2.1 = some (tyX0 k) := by decide +kernel
abbrev cX0_init : ByteArray := prog_2_method_1_code
def yX0_init : MethodName := ⟨RX0, "<init>", "()V"⟩
abbrev cX0_start : ByteArray := prog_2_method_2_code
def yX0_start : MethodName := ⟨RX0, "start", "(I)V"⟩
abbrev cX0_letHourGo : ByteArray := prog_2_method_3_code
def yX0_letHourGo : MethodName := ⟨RX0, "letHourGo", "(LElderBallast$Sea;LElderBallast$Ship;I)V"⟩
abbrev cX0_go : ByteArray := prog_2_method_4_code
def yX0_go : MethodName := ⟨RX0, "go", "(II)V"⟩
def RX1 : String := "ElderBallast$Luck"
def TX1 : u_T := fun k => match k with
  | _ => ("ElderBallast$Luck", "\x72", "I", false)
def tyX1 : Nat → FieldType := fun k => match k with
  | _ => .int
abbrev wsX10 : List Cond := u_ws RX1 TX1 1
theorem nmX1 : ∀ a, a < 1 → ∀ b, b < 1 → a ≠ b → (TX1 a).2.1 ≠ (TX1 b).2.1 := by decide +kernel
theorem tyX1_ok : ∀ k, k < 1 → parseFieldDescriptor (TX1 k).2.2.1 = some (tyX1 k) := by decide +kernel
abbrev cX1_init : ByteArray := prog_3_method_1_code
def yX1_init : MethodName := ⟨RX1, "<init>", "()V"⟩
abbrev cX1_start : ByteArray := prog_3_method_2_code
def yX1_start : MethodName := ⟨RX1, "start", "(I)V"⟩
abbrev cX1_draw : ByteArray := prog_3_method_3_code
def yX1_draw : MethodName := ⟨RX1, "draw", "(I)I"⟩
def RX2 : String := "ElderBallast$Past"
def TX2 : u_T := fun k => match k with
  | 0 => ("ElderBallast$Past", "ships", "[LElderBallast$Ship;", true)
  | 1 => ("ElderBallast$Past", "oldest", "I", false)
  | _ => ("ElderBallast$Past", "size", "I", false)
def tyX2 : Nat → FieldType := fun k => match k with
  | 0 => .array (.object "ElderBallast$Ship")
  | 1 => .int
  | _ => .int
abbrev wsX20 : List Cond := u_ws RX2 TX2 3
theorem nmX2 : ∀ a, a < 3 → ∀ b, b < 3 → a ≠ b → (TX2 a).2.1 ≠ (TX2 b).2.1 := by decide +kernel
theorem tyX2_ok : ∀ k, k < 3 → parseFieldDescriptor (TX2 k).2.2.1 = some (tyX2 k) := by decide +kernel
abbrev cX2_init : ByteArray := prog_4_method_1_code
def yX2_init : MethodName := ⟨RX2, "<init>", "()V"⟩
abbrev cX2_empty : ByteArray := prog_4_method_2_code
def yX2_empty : MethodName := ⟨RX2, "empty", "()V"⟩
abbrev cX2_add : ByteArray := prog_4_method_3_code
def yX2_add : MethodName := ⟨RX2, "add", "(LElderBallast$Ship;)V"⟩
abbrev cX2_takeLatest : ByteArray := prog_4_method_4_code
def yX2_takeLatest : MethodName := ⟨RX2, "takeLatest", "(LElderBallast$Ship;)Z"⟩
def RX3 : String := "ElderBallast$Pieces"
def TX3 : u_T := fun k => match k with
  | 0 => ("ElderBallast$Pieces", "wins", "[Z", true)
  | _ => ("ElderBallast$Pieces", "left", "[I", true)
def tyX3 : Nat → FieldType := fun k => match k with
  | 0 => .array .boolean
  | _ => .array .int
abbrev wsX30 : List Cond := u_ws RX3 TX3 2
theorem nmX3 : ∀ a, a < 2 → ∀ b, b < 2 → a ≠ b → (TX3 a).2.1 ≠ (TX3 b).2.1 := by decide +kernel
theorem tyX3_ok : ∀ k, k < 2 → parseFieldDescriptor (TX3 k).2.2.1 = some (tyX3 k) := by decide +kernel
abbrev cX3_init : ByteArray := prog_5_method_1_code
def yX3_init : MethodName := ⟨RX3, "<init>", "()V"⟩
abbrev cX3_leastThatWins : ByteArray := prog_5_method_2_code
def yX3_leastThatWins : MethodName := ⟨RX3, "leastThatWins", "(II)I"⟩
abbrev cX3_leave : ByteArray := prog_5_method_3_code
def yX3_leave : MethodName := ⟨RX3, "leave", "(III)V"⟩
abbrev cX3_setWins : ByteArray := prog_5_method_4_code
def yX3_setWins : MethodName := ⟨RX3, "setWins", "(Z)V"⟩
abbrev cX3_winningPiece : ByteArray := prog_5_method_5_code
def yX3_winningPiece : MethodName := ⟨RX3, "winningPiece", "()I"⟩
abbrev cX3_indexBehind : ByteArray := prog_5_method_6_code
def yX3_indexBehind : MethodName := ⟨RX3, "indexBehind", "(II)I"⟩
def RX4 : String := "ElderBallast$Row"
def TX4 : u_T := fun k => match k with
  | 0 => ("ElderBallast$Row", "numbers", "[J", true)
  | _ => ("ElderBallast$Row", "size", "I", false)
def tyX4 : Nat → FieldType := fun k => match k with
  | 0 => .array .long
  | _ => .int
abbrev wsX40 : List Cond := u_ws RX4 TX4 2
theorem nmX4 : ∀ a, a < 2 → ∀ b, b < 2 → a ≠ b → (TX4 a).2.1 ≠ (TX4 b).2.1 := by decide +kernel
theorem tyX4_ok : ∀ k, k < 2 → parseFieldDescriptor (TX4 k).2.2.1 = some (tyX4 k) := by decide +kernel
abbrev cX4_init : ByteArray := prog_6_method_1_code
def yX4_init : MethodName := ⟨RX4, "<init>", "()V"⟩
abbrev cX4_empty : ByteArray := prog_6_method_2_code
def yX4_empty : MethodName := ⟨RX4, "empty", "()V"⟩
abbrev cX4_add : ByteArray := prog_6_method_3_code
def yX4_add : MethodName := ⟨RX4, "add", "(I)V"⟩
abbrev cX4_tell : ByteArray := prog_6_method_4_code
def yX4_tell : MethodName := ⟨RX4, "tell", "(I)V"⟩
abbrev cX4_tell_ : ByteArray := prog_6_method_5_code
def yX4_tell_ : MethodName := ⟨RX4, "tell", "(II)V"⟩
abbrev cX4_tell__ : ByteArray := prog_6_method_6_code
def yX4_tell__ : MethodName := ⟨RX4, "tell", "(III)V"⟩
abbrev cX4_tell___ : ByteArray := prog_6_method_7_code
def yX4_tell___ : MethodName := ⟨RX4, "tell", "(IIII)V"⟩
def RX5 : String := "ElderBallast$Rule"
def TX5 : u_T := fun k => match k with
  | 0 => ("ElderBallast$Rule", "program", "[I", true)
  | 1 => ("ElderBallast$Rule", "waiting", "[I", true)
  | 2 => ("ElderBallast$Rule", "stack", "[I", true)
  | 3 => ("ElderBallast$Rule", "compared", "[Z", true)
  | 4 => ("ElderBallast$Rule", "size", "I", false)
  | 5 => ("ElderBallast$Rule", "waits", "I", false)
  | 6 => ("ElderBallast$Rule", "depth", "I", false)
  | 7 => ("ElderBallast$Rule", "digits", "I", false)
  | 8 => ("ElderBallast$Rule", "wantsThing", "Z", false)
  | 9 => ("ElderBallast$Rule", "seesLean", "Z", false)
  | _ => ("ElderBallast$Rule", "seesHou\x72", "Z", false)
def tyX5 : Nat → FieldType := fun k => match k with
  | 0 => .array .int
  | 1 => .array .int
  | 2 => .array .int
  | 3 => .array .boolean
  | 4 => .int
  | 5 => .int
  | 6 => .int
  | 7 => .int
  | 8 => .boolean
  | 9 => .boolean
  | _ => .boolean
abbrev wsX50 : List Cond := u_ws RX5 TX5 11
theorem nmX5 : ∀ a, a < 11 → ∀ b, b < 11 → a ≠ b → (TX5 a).2.1 ≠ (TX5 b).2.1 := by decide +kernel
theorem tyX5_ok : ∀ k, k < 11 → parseFieldDescriptor (TX5 k).2.2.1 = some (tyX5 k) := by decide +kernel
abbrev cX5_init : ByteArray := prog_7_method_1_code
def yX5_init : MethodName := ⟨RX5, "<init>", "()V"⟩
abbrev cX5_read : ByteArray := prog_7_method_2_code
def yX5_read : MethodName := ⟨RX5, "read", "(LElderBallast$Text;)I"⟩
abbrev cX5_valueBy : ByteArray := prog_7_method_3_code
def yX5_valueBy : MethodName := ⟨RX5, "valueBy", "([I)I"⟩
abbrev cX5_begin : ByteArray := prog_7_method_4_code
def yX5_begin : MethodName := ⟨RX5, "begin", "()V"⟩
abbrev cX5_beThePlainOne : ByteArray := prog_7_method_5_code
def yX5_beThePlainOne : MethodName := ⟨RX5, "beThePlainOne", "()V"⟩
abbrev cX5_takeThing : ByteArray := prog_7_method_6_code
def yX5_takeThing : MethodName := ⟨RX5, "takeThing", "(I)Z"⟩
abbrev cX5_open : ByteArray := prog_7_method_7_code
def yX5_open : MethodName := ⟨RX5, "open", "()Z"⟩
abbrev cX5_takeJoint : ByteArray := prog_7_method_8_code
def yX5_takeJoint : MethodName := ⟨RX5, "takeJoint", "(I)Z"⟩
abbrev cX5_lengthenNumber : ByteArray := prog_7_method_9_code
def yX5_lengthenNumber : MethodName := ⟨RX5, "lengthenNumbe\x72", "(I)Z"⟩
abbrev cX5_close : ByteArray := prog_7_method_10_code
def yX5_close : MethodName := ⟨RX5, "close", "()Z"⟩
abbrev cX5_hold : ByteArray := prog_7_method_11_code
def yX5_hold : MethodName := ⟨RX5, "hold", "(I)V"⟩
abbrev cX5_emit : ByteArray := prog_7_method_12_code
def yX5_emit : MethodName := ⟨RX5, "emit", "(I)V"⟩
abbrev cX5_release : ByteArray := prog_7_method_13_code
def yX5_release : MethodName := ⟨RX5, "release", "(I)V"⟩
abbrev cX5_rankOf : ByteArray := prog_7_method_14_code
def yX5_rankOf : MethodName := ⟨RX5, "rankOf", "(I)I"⟩
abbrev cX5_joined : ByteArray := prog_7_method_15_code
def yX5_joined : MethodName := ⟨RX5, "joined", "(III)I"⟩
def RX6 : String := "ElderBallast$Sea"
def TX6 : u_T := fun k => match k with
  | 0 => ("ElderBallast$Sea", "prices", "[I", true)
  | 1 => ("ElderBallast$Sea", "winds", "[I", true)
  | 2 => ("ElderBallast$Sea", "pairs", "I", false)
  | 3 => ("ElderBallast$Sea", "rule", "LElderBallast$Rule;", false)
  | 4 => ("ElderBallast$Sea", "spare", "LElderBallast$Rule;", false)
  | 5 => ("ElderBallast$Sea", "things", "[I", true)
  | 6 => ("ElderBallast$Sea", "ballasts", "[I", true)
  | 7 => ("ElderBallast$Sea", "stamps", "[I", true)
  | _ => ("ElderBallast$Sea", "stamp", "I", false)
def tyX6 : Nat → FieldType := fun k => match k with
  | 0 => .array .int
  | 1 => .array .int
  | 2 => .int
  | 3 => .object "ElderBallast$Rule"
  | 4 => .object "ElderBallast$Rule"
  | 5 => .array .int
  | 6 => .array .int
  | 7 => .array .int
  | _ => .int
abbrev wsX60 : List Cond := u_ws RX6 TX6 9
theorem nmX6 : ∀ a, a < 9 → ∀ b, b < 9 → a ≠ b → (TX6 a).2.1 ≠ (TX6 b).2.1 := by decide +kernel
theorem tyX6_ok : ∀ k, k < 9 → parseFieldDescriptor (TX6 k).2.2.1 = some (tyX6 k) := by decide +kernel
abbrev cX6_init : ByteArray := prog_8_method_1_code
def yX6_init : MethodName := ⟨RX6, "<init>", "()V"⟩
abbrev cX6_takePrices : ByteArray := prog_8_method_2_code
def yX6_takePrices : MethodName := ⟨RX6, "takePrices", "(LElderBallast$Text;)I"⟩
abbrev cX6_takeWinds : ByteArray := prog_8_method_3_code
def yX6_takeWinds : MethodName := ⟨RX6, "takeWinds", "(LElderBallast$Text;)I"⟩
abbrev cX6_changeRules : ByteArray := prog_8_method_4_code
def yX6_changeRules : MethodName := ⟨RX6, "changeRules", "()V"⟩
abbrev cX6_priceOf : ByteArray := prog_8_method_5_code
def yX6_priceOf : MethodName := ⟨RX6, "priceOf", "(I)I"⟩
abbrev cX6_windAt : ByteArray := prog_8_method_6_code
def yX6_windAt : MethodName := ⟨RX6, "windAt", "(I)I"⟩
abbrev cX6_weight : ByteArray := prog_8_method_7_code
def yX6_weight : MethodName := ⟨RX6, "weight", "(LElderBallast$Ship;I)I"⟩
abbrev cX6_weightAs : ByteArray := prog_8_method_8_code
def yX6_weightAs : MethodName := ⟨RX6, "weightAs", "(LElderBallast$Ship;III)I"⟩
abbrev cX6_ballast : ByteArray := prog_8_method_9_code
def yX6_ballast : MethodName := ⟨RX6, "ballast", "(LElderBallast$Ship;)I"⟩
abbrev cX6_begin : ByteArray := prog_8_method_10_code
def yX6_begin : MethodName := ⟨RX6, "begin", "()V"⟩
abbrev cX6_ballastInHours : ByteArray := prog_8_method_11_code
def yX6_ballastInHours : MethodName := ⟨RX6, "ballastInHours", "(LElderBallast$Ship;)I"⟩
abbrev cX6_letHoursGo : ByteArray := prog_8_method_12_code
def yX6_letHoursGo : MethodName := ⟨RX6, "letHoursGo", "(LElderBallast$Ship;I)I"⟩
def RX7 : String := "ElderBallast$Ship"
def TX7 : u_T := fun k => match k with
  | 0 => ("ElderBallast$Ship", "gravity", "[I", true)
  | 1 => ("ElderBallast$Ship", "thought", "[I", true)
  | 2 => ("ElderBallast$Ship", "place", "[I", true)
  | 3 => ("ElderBallast$Ship", "crew", "I", false)
  | 4 => ("ElderBallast$Ship", "sail", "I", false)
  | 5 => ("ElderBallast$Ship", "lean", "I", false)
  | 6 => ("ElderBallast$Ship", "leagues", "I", false)
  | 7 => ("ElderBallast$Ship", "overs", "I", false)
  | _ => ("ElderBallast$Ship", "hou\x72", "I", false)
def tyX7 : Nat → FieldType := fun k => match k with
  | 0 => .array .int
  | 1 => .array .int
  | 2 => .array .int
  | 3 => .int
  | 4 => .int
  | 5 => .int
  | 6 => .int
  | 7 => .int
  | _ => .int
abbrev wsX70 : List Cond := u_ws RX7 TX7 9
theorem nmX7 : ∀ a, a < 9 → ∀ b, b < 9 → a ≠ b → (TX7 a).2.1 ≠ (TX7 b).2.1 := by decide +kernel
theorem tyX7_ok : ∀ k, k < 9 → parseFieldDescriptor (TX7 k).2.2.1 = some (tyX7 k) := by decide +kernel
abbrev cX7_init : ByteArray := prog_9_method_1_code
def yX7_init : MethodName := ⟨RX7, "<init>", "()V"⟩
abbrev cX7_copy : ByteArray := prog_9_method_2_code
def yX7_copy : MethodName := ⟨RX7, "copy", "(LElderBallast$Ship;)V"⟩
abbrev cX7_has : ByteArray := prog_9_method_3_code
def yX7_has : MethodName := ⟨RX7, "has", "(I)Z"⟩
abbrev cX7_takeBrothers : ByteArray := prog_9_method_4_code
def yX7_takeBrothers : MethodName := ⟨RX7, "takeBrothers", "(LElderBallast$Text;)I"⟩
abbrev cX7_takeSheet : ByteArray := prog_9_method_5_code
def yX7_takeSheet : MethodName := ⟨RX7, "takeSheet", "(IIII)V"⟩
abbrev cX7_gravityOfAll : ByteArray := prog_9_method_6_code
def yX7_gravityOfAll : MethodName := ⟨RX7, "gravityOfAll", "()I"⟩
abbrev cX7_othersLike : ByteArray := prog_9_method_7_code
def yX7_othersLike : MethodName := ⟨RX7, "othersLike", "(I)I"⟩
abbrev cX7_tell : ByteArray := prog_9_method_8_code
def yX7_tell : MethodName := ⟨RX7, "tell", "(II)I"⟩
abbrev cX7_move : ByteArray := prog_9_method_9_code
def yX7_move : MethodName := ⟨RX7, "move", "(II)I"⟩
abbrev cX7_ease : ByteArray := prog_9_method_10_code
def yX7_ease : MethodName := ⟨RX7, "ease", "(I)I"⟩
abbrev cX7_preach : ByteArray := prog_9_method_11_code
def yX7_preach : MethodName := ⟨RX7, "preach", "(II)I"⟩
abbrev cX7_setSail : ByteArray := prog_9_method_12_code
def yX7_setSail : MethodName := ⟨RX7, "setSail", "(I)I"⟩
def RX8 : String := "ElderBallast$Tales"
def TX8 : u_T := fun k => match k with
  | 0 => ("ElderBallast$Tales", "first", "[I", true)
  | 1 => ("ElderBallast$Tales", "second", "[I", true)
  | 2 => ("ElderBallast$Tales", "third", "[I", true)
  | _ => ("ElderBallast$Tales", "size", "I", false)
def tyX8 : Nat → FieldType := fun k => match k with
  | 0 => .array .int
  | 1 => .array .int
  | 2 => .array .int
  | _ => .int
abbrev wsX80 : List Cond := u_ws RX8 TX8 4
theorem nmX8 : ∀ a, a < 4 → ∀ b, b < 4 → a ≠ b → (TX8 a).2.1 ≠ (TX8 b).2.1 := by decide +kernel
theorem tyX8_ok : ∀ k, k < 4 → parseFieldDescriptor (TX8 k).2.2.1 = some (tyX8 k) := by decide +kernel
abbrev cX8_init : ByteArray := prog_10_method_1_code
def yX8_init : MethodName := ⟨RX8, "<init>", "(I)V"⟩
abbrev cX8_add : ByteArray := prog_10_method_2_code
def yX8_add : MethodName := ⟨RX8, "add", "(III)Z"⟩
abbrev cX8_empty : ByteArray := prog_10_method_3_code
def yX8_empty : MethodName := ⟨RX8, "empty", "()I"⟩
def RX9 : String := "ElderBallast$Text"
def TX9 : u_T := fun k => match k with
  | 0 => ("ElderBallast$Text", "signs", "[I", true)
  | _ => ("ElderBallast$Text", "size", "I", false)
def tyX9 : Nat → FieldType := fun k => match k with
  | 0 => .array .int
  | _ => .int
abbrev wsX90 : List Cond := u_ws RX9 TX9 2
theorem nmX9 : ∀ a, a < 2 → ∀ b, b < 2 → a ≠ b → (TX9 a).2.1 ≠ (TX9 b).2.1 := by decide +kernel
theorem tyX9_ok : ∀ k, k < 2 → parseFieldDescriptor (TX9 k).2.2.1 = some (tyX9 k) := by decide +kernel
abbrev cX9_init : ByteArray := prog_11_method_1_code
def yX9_init : MethodName := ⟨RX9, "<init>", "()V"⟩
abbrev cX9_takeFour : ByteArray := prog_11_method_2_code
def yX9_takeFour : MethodName := ⟨RX9, "takeFou\x72", "(I)Z"⟩
abbrev cX9_cut : ByteArray := prog_11_method_3_code
def yX9_cut : MethodName := ⟨RX9, "cut", "(I)Z"⟩
abbrev cX9_empty : ByteArray := prog_11_method_4_code
def yX9_empty : MethodName := ⟨RX9, "empty", "()V"⟩
abbrev cX9_at : ByteArray := prog_11_method_5_code
def yX9_at : MethodName := ⟨RX9, "at", "(I)I"⟩
abbrev cX9_digit : ByteArray := prog_11_method_6_code
def yX9_digit : MethodName := ⟨RX9, "digit", "(I)I"⟩
abbrev cX9_signed : ByteArray := prog_11_method_7_code
def yX9_signed : MethodName := ⟨RX9, "signed", "(I)I"⟩
abbrev cX9_thoughtsFault : ByteArray := prog_11_method_8_code
def yX9_thoughtsFault : MethodName := ⟨RX9, "thoughtsFault", "()I"⟩
abbrev cX9_brothersFault : ByteArray := prog_11_method_9_code
def yX9_brothersFault : MethodName := ⟨RX9, "brothersFault", "(I)I"⟩
abbrev cX9_windsFault : ByteArray := prog_11_method_10_code
def yX9_windsFault : MethodName := ⟨RX9, "windsFault", "()I"⟩
abbrev cX9_watchFault : ByteArray := prog_11_method_11_code
def yX9_watchFault : MethodName := ⟨RX9, "watchFault", "()I"⟩
abbrev cX9_formOfAct : ByteArray := prog_11_method_12_code
def yX9_formOfAct : MethodName := ⟨RX9, "formOfAct", "(I)Ljava/lang/String;"⟩
abbrev cX9_faultOf : ByteArray := prog_11_method_13_code
def yX9_faultOf : MethodName := ⟨RX9, "faultOf", "(Ljava/lang/String;I)I"⟩
abbrev cX9_stands : ByteArray := prog_11_method_14_code
def yX9_stands : MethodName := ⟨RX9, "stands", "(CI)Z"⟩
def RX10 : String := "ElderBallast"
def TX10 : u_T := fun k => match k with
  | 0 => ("ElderBallast", "text", "LElderBallast$Text;", true)
  | 1 => ("ElderBallast", "told", "LElderBallast$Row;", true)
  | 2 => ("ElderBallast", "sea", "LElderBallast$Sea;", true)
  | 3 => ("ElderBallast", "ship", "LElderBallast$Ship;", true)
  | 4 => ("ElderBallast", "guess", "LElderBallast$Ship;", true)
  | 5 => ("ElderBallast", "before", "LElderBallast$Ship;", true)
  | 6 => ("ElderBallast", "past", "LElderBallast$Past;", true)
  | 7 => ("ElderBallast", "kept", "[LElderBallast$Ship;", true)
  | 8 => ("ElderBallast", "holds", "[Z", true)
  | 9 => ("ElderBallast", "seen", "LElderBallast$Tales;", true)
  | 10 => ("ElderBallast", "rumours", "LElderBallast$Tales;", true)
  | 11 => ("ElderBallast", "luck", "LElderBallast$Luck;", true)
  | 12 => ("ElderBallast", "chances", "LElderBallast$Chances;", true)
  | 13 => ("ElderBallast", "pieces", "LElderBallast$Pieces;", true)
  | 14 => ("ElderBallast", "loads", "[I", true)
  | 15 => ("ElderBallast", "draws", "[I", true)
  | 16 => ("ElderBallast", "pulls", "[I", true)
  | _ => ("ElderBallast", "loadsIfTold", "[I", true)
def tyX10 : Nat → FieldType := fun k => match k with
  | 0 => .object "ElderBallast$Text"
  | 1 => .object "ElderBallast$Row"
  | 2 => .object "ElderBallast$Sea"
  | 3 => .object "ElderBallast$Ship"
  | 4 => .object "ElderBallast$Ship"
  | 5 => .object "ElderBallast$Ship"
  | 6 => .object "ElderBallast$Past"
  | 7 => .array (.object "ElderBallast$Ship")
  | 8 => .array .boolean
  | 9 => .object "ElderBallast$Tales"
  | 10 => .object "ElderBallast$Tales"
  | 11 => .object "ElderBallast$Luck"
  | 12 => .object "ElderBallast$Chances"
  | 13 => .object "ElderBallast$Pieces"
  | 14 => .array .int
  | 15 => .array .int
  | 16 => .array .int
  | _ => .array .int
abbrev wsX100 : List Cond := u_ws RX10 TX10 18
theorem nmX10 : ∀ a, a < 18 → ∀ b, b < 18 → a ≠ b → (TX10 a).2.1 ≠ (TX10 b).2.1 := by decide +kernel
theorem tyX10_ok : ∀ k, k < 18 → parseFieldDescriptor (TX10 k).2.2.1 = some (tyX10 k) := by decide +kernel
abbrev cX10_init : ByteArray := prog_1_method_1_code
def yX10_init : MethodName := ⟨RX10, "<init>", "()V"⟩
abbrev cX10_sign : ByteArray := prog_1_method_2_code
def yX10_sign : MethodName := ⟨RX10, "sign", "(I)I"⟩
abbrev cX10_end : ByteArray := prog_1_method_3_code
def yX10_end : MethodName := ⟨RX10, "end", "(I)Z"⟩
abbrev cX10_thoughts : ByteArray := prog_1_method_4_code
def yX10_thoughts : MethodName := ⟨RX10, "thoughts", "()I"⟩
abbrev cX10_brothers : ByteArray := prog_1_method_5_code
def yX10_brothers : MethodName := ⟨RX10, "brothers", "()I"⟩
abbrev cX10_winds : ByteArray := prog_1_method_6_code
def yX10_winds : MethodName := ⟨RX10, "winds", "()I"⟩
abbrev cX10_rule : ByteArray := prog_1_method_7_code
def yX10_rule : MethodName := ⟨RX10, "rule", "()I"⟩
abbrev cX10_brother : ByteArray := prog_1_method_8_code
def yX10_brother : MethodName := ⟨RX10, "brothe\x72", "(II)I"⟩
abbrev cX10_price : ByteArray := prog_1_method_9_code
def yX10_price : MethodName := ⟨RX10, "price", "(I)I"⟩
abbrev cX10_sheet : ByteArray := prog_1_method_10_code
def yX10_sheet : MethodName := ⟨RX10, "sheet", "(IIII)I"⟩
abbrev cX10_hours : ByteArray := prog_1_method_11_code
def yX10_hours : MethodName := ⟨RX10, "hours", "(I)I"⟩
abbrev cX10_tells : ByteArray := prog_1_method_12_code
def yX10_tells : MethodName := ⟨RX10, "tells", "(II)I"⟩
abbrev cX10_moves : ByteArray := prog_1_method_13_code
def yX10_moves : MethodName := ⟨RX10, "moves", "(II)I"⟩
abbrev cX10_eases : ByteArray := prog_1_method_14_code
def yX10_eases : MethodName := ⟨RX10, "eases", "(I)I"⟩
abbrev cX10_preaches : ByteArray := prog_1_method_15_code
def yX10_preaches : MethodName := ⟨RX10, "preaches", "(II)I"⟩
abbrev cX10_sails : ByteArray := prog_1_method_16_code
def yX10_sails : MethodName := ⟨RX10, "sails", "(I)I"⟩
abbrev cX10_watch : ByteArray := prog_1_method_17_code
def yX10_watch : MethodName := ⟨RX10, "watch", "()I"⟩
abbrev cX10_undo : ByteArray := prog_1_method_18_code
def yX10_undo : MethodName := ⟨RX10, "undo", "()I"⟩
abbrev cX10_remembered : ByteArray := prog_1_method_19_code
def yX10_remembered : MethodName := ⟨RX10, "remembered", "(I)I"⟩
abbrev cX10_act : ByteArray := prog_1_method_20_code
def yX10_act : MethodName := ⟨RX10, "act", "(I)I"⟩
abbrev cX10_moment : ByteArray := prog_1_method_21_code
def yX10_moment : MethodName := ⟨RX10, "moment", "()I"⟩
abbrev cX10_later : ByteArray := prog_1_method_22_code
def yX10_later : MethodName := ⟨RX10, "late\x72", "(I)I"⟩
abbrev cX10_over : ByteArray := prog_1_method_23_code
def yX10_over : MethodName := ⟨RX10, "ove\x72", "()I"⟩
abbrev cX10_when : ByteArray := prog_1_method_24_code
def yX10_when : MethodName := ⟨RX10, "when", "(I)I"⟩
abbrev cX10_rolls : ByteArray := prog_1_method_25_code
def yX10_rolls : MethodName := ⟨RX10, "rolls", "(I)I"⟩
abbrev cX10_steady : ByteArray := prog_1_method_26_code
def yX10_steady : MethodName := ⟨RX10, "steady", "(II)I"⟩
abbrev cX10_makes : ByteArray := prog_1_method_27_code
def yX10_makes : MethodName := ⟨RX10, "makes", "(I)I"⟩
abbrev cX10_lookAhead : ByteArray := prog_1_method_28_code
def yX10_lookAhead : MethodName := ⟨RX10, "lookAhead", "()V"⟩
abbrev cX10_steps : ByteArray := prog_1_method_29_code
def yX10_steps : MethodName := ⟨RX10, "steps", "(I)I"⟩
abbrev cX10_best : ByteArray := prog_1_method_30_code
def yX10_best : MethodName := ⟨RX10, "best", "(I)I"⟩
abbrev cX10_trims : ByteArray := prog_1_method_31_code
def yX10_trims : MethodName := ⟨RX10, "trims", "(I)I"⟩
abbrev cX10_frees : ByteArray := prog_1_method_32_code
def yX10_frees : MethodName := ⟨RX10, "frees", "()I"⟩
abbrev cX10_bears : ByteArray := prog_1_method_33_code
def yX10_bears : MethodName := ⟨RX10, "bears", "()I"⟩
abbrev cX10_pullByBallast : ByteArray := prog_1_method_34_code
def yX10_pullByBallast : MethodName := ⟨RX10, "pullByBallast", "(I)I"⟩
abbrev cX10_weighAllIfTold : ByteArray := prog_1_method_35_code
def yX10_weighAllIfTold : MethodName := ⟨RX10, "weighAllIfTold", "()V"⟩
abbrev cX10_guessStands : ByteArray := prog_1_method_36_code
def yX10_guessStands : MethodName := ⟨RX10, "guessStands", "(I)Z"⟩
abbrev cX10_oneStep : ByteArray := prog_1_method_37_code
def yX10_oneStep : MethodName := ⟨RX10, "oneStep", "(I)Z"⟩
abbrev cX10_twoSteps : ByteArray := prog_1_method_38_code
def yX10_twoSteps : MethodName := ⟨RX10, "twoSteps", "(I)Z"⟩
abbrev cX10_secondStep : ByteArray := prog_1_method_39_code
def yX10_secondStep : MethodName := ⟨RX10, "secondStep", "(II)Z"⟩
abbrev cX10_tellingThatStands : ByteArray := prog_1_method_40_code
def yX10_tellingThatStands : MethodName := ⟨RX10, "tellingThatStands", "(II)I"⟩
abbrev cX10_parties : ByteArray := prog_1_method_41_code
def yX10_parties : MethodName := ⟨RX10, "parties", "()I"⟩
abbrev cX10_just : ByteArray := prog_1_method_42_code
def yX10_just : MethodName := ⟨RX10, "just", "(I)I"⟩
abbrev cX10_swaps : ByteArray := prog_1_method_43_code
def yX10_swaps : MethodName := ⟨RX10, "swaps", "()I"⟩
abbrev cX10_line : ByteArray := prog_1_method_44_code
def yX10_line : MethodName := ⟨RX10, "line", "()I"⟩
abbrev cX10_apart : ByteArray := prog_1_method_45_code
def yX10_apart : MethodName := ⟨RX10, "apart", "()I"⟩
abbrev cX10_weighAll : ByteArray := prog_1_method_46_code
def yX10_weighAll : MethodName := ⟨RX10, "weighAll", "()V"⟩
abbrev cX10_ballastOfLoads : ByteArray := prog_1_method_47_code
def yX10_ballastOfLoads : MethodName := ⟨RX10, "ballastOfLoads", "()I"⟩
abbrev cX10_loadOf : ByteArray := prog_1_method_48_code
def yX10_loadOf : MethodName := ⟨RX10, "loadOf", "(I)I"⟩
abbrev cX10_pullIfSwapped : ByteArray := prog_1_method_49_code
def yX10_pullIfSwapped : MethodName := ⟨RX10, "pullIfSwapped", "(II)I"⟩
abbrev cX10_heaviestBut : ByteArray := prog_1_method_50_code
def yX10_heaviestBut : MethodName := ⟨RX10, "heaviestBut", "(I)I"⟩
abbrev cX10_allDiffer : ByteArray := prog_1_method_51_code
def yX10_allDiffer : MethodName := ⟨RX10, "allDiffe\x72", "(I)Z"⟩
abbrev cX10_saw : ByteArray := prog_1_method_52_code
def yX10_saw : MethodName := ⟨RX10, "saw", "(III)I"⟩
abbrev cX10_denies : ByteArray := prog_1_method_53_code
def yX10_denies : MethodName := ⟨RX10, "denies", "()I"⟩
abbrev cX10_minds : ByteArray := prog_1_method_54_code
def yX10_minds : MethodName := ⟨RX10, "minds", "(I)I"⟩
abbrev cX10_looks : ByteArray := prog_1_method_55_code
def yX10_looks : MethodName := ⟨RX10, "looks", "(I)I"⟩
abbrev cX10_thoughtsLeft : ByteArray := prog_1_method_56_code
def yX10_thoughtsLeft : MethodName := ⟨RX10, "thoughtsLeft", "(I)I"⟩
abbrev cX10_isAsSeen : ByteArray := prog_1_method_57_code
def yX10_isAsSeen : MethodName := ⟨RX10, "isAsSeen", "(I)Z"⟩
abbrev cX10_mostLeft : ByteArray := prog_1_method_58_code
def yX10_mostLeft : MethodName := ⟨RX10, "mostLeft", "(III)I"⟩
abbrev cX10_heard : ByteArray := prog_1_method_59_code
def yX10_heard : MethodName := ⟨RX10, "heard", "(II)I"⟩
abbrev cX10_forget : ByteArray := prog_1_method_60_code
def yX10_forget : MethodName := ⟨RX10, "forget", "()I"⟩
abbrev cX10_fits : ByteArray := prog_1_method_61_code
def yX10_fits : MethodName := ⟨RX10, "fits", "()I"⟩
abbrev cX10_asks : ByteArray := prog_1_method_62_code
def yX10_asks : MethodName := ⟨RX10, "asks", "()I"⟩
abbrev cX10_suspects : ByteArray := prog_1_method_63_code
def yX10_suspects : MethodName := ⟨RX10, "suspects", "()I"⟩
abbrev cX10_isSo : ByteArray := prog_1_method_64_code
def yX10_isSo : MethodName := ⟨RX10, "isSo", "(III)Z"⟩
abbrev cX10_leftBehind : ByteArray := prog_1_method_65_code
def yX10_leftBehind : MethodName := ⟨RX10, "leftBehind", "(III)I"⟩
abbrev cX10_grave : ByteArray := prog_1_method_66_code
def yX10_grave : MethodName := ⟨RX10, "grave", "(II)I"⟩
abbrev cX10_cake : ByteArray := prog_1_method_67_code
def yX10_cake : MethodName := ⟨RX10, "cake", "(II)I"⟩
abbrev cX10_rests : ByteArray := prog_1_method_68_code
def yX10_rests : MethodName := ⟨RX10, "rests", "(I)I"⟩
abbrev cX10_law : ByteArray := prog_1_method_69_code
def yX10_law : MethodName := ⟨RX10, "law", "()I"⟩
abbrev cX10_years : ByteArray := prog_1_method_70_code
def yX10_years : MethodName := ⟨RX10, "years", "(II)I"⟩
abbrev cX10_isContent : ByteArray := prog_1_method_71_code
def yX10_isContent : MethodName := ⟨RX10, "isContent", "(III)Z"⟩
abbrev cX10_gainOf : ByteArray := prog_1_method_72_code
def yX10_gainOf : MethodName := ⟨RX10, "gainOf", "(III)I"⟩
abbrev cX10_drawnYear : ByteArray := prog_1_method_73_code
def yX10_drawnYear : MethodName := ⟨RX10, "drawnYea\x72", "()I"⟩
abbrev cX10_keep : ByteArray := prog_1_method_74_code
def yX10_keep : MethodName := ⟨RX10, "keep", "(I)Z"⟩
abbrev cX10_again : ByteArray := prog_1_method_75_code
def yX10_again : MethodName := ⟨RX10, "again", "(I)Z"⟩
abbrev cX10_count : ByteArray := prog_1_method_76_code
def yX10_count : MethodName := ⟨RX10, "count", "(I)I"⟩
abbrev cX10_row : ByteArray := prog_1_method_77_code
def yX10_row : MethodName := ⟨RX10, "row", "(I)J"⟩
abbrev cX10_within : ByteArray := prog_1_method_78_code
def yX10_within : MethodName := ⟨RX10, "within", "(III)Z"⟩
abbrev cX10_putTo : ByteArray := prog_1_method_79_code
def yX10_putTo : MethodName := ⟨RX10, "putTo", "(III)I"⟩
abbrev cX10_hasBit : ByteArray := prog_1_method_80_code
def yX10_hasBit : MethodName := ⟨RX10, "hasBit", "(II)Z"⟩
abbrev cX10_pullOf : ByteArray := prog_1_method_81_code
def yX10_pullOf : MethodName := ⟨RX10, "pullOf", "(III)I"⟩
abbrev cX10_leanBy : ByteArray := prog_1_method_82_code
def yX10_leanBy : MethodName := ⟨RX10, "leanBy", "(II)I"⟩
abbrev cX10_greatestCommon : ByteArray := prog_1_method_83_code
def yX10_greatestCommon : MethodName := ⟨RX10, "greatestCommon", "(II)I"⟩
def RX11 : String := "ElderBallastModel"
def TX11 : u_T := fun k => match k with
  | 0 => ("ElderBallastModel", "now", "[I", true)
  | 1 => ("ElderBallastModel", "brothers", "I", false)
  | 2 => ("ElderBallastModel", "price", "[I", true)
  | 3 => ("ElderBallastModel", "winds", "[I", true)
  | 4 => ("ElderBallastModel", "windMany", "I", false)
  | 5 => ("ElderBallastModel", "text", "[B", true)
  | 6 => ("ElderBallastModel", "typed", "I", false)
  | 7 => ("ElderBallastModel", "row", "[J", true)
  | 8 => ("ElderBallastModel", "rowMany", "I", false)
  | 9 => ("ElderBallastModel", "thrown", "I", false)
  | 10 => ("ElderBallastModel", "read", "[B", false)
  | 11 => ("ElderBallastModel", "length", "I", false)
  | 12 => ("ElderBallastModel", "top", "I", false)
  | 13 => ("ElderBallastModel", "at", "I", false)
  | 14 => ("ElderBallastModel", "wrong", "I", false)
  | 15 => ("ElderBallastModel", "told", "[I", true)
  | 16 => ("ElderBallastModel", "rule", "[B", false)
  | 17 => ("ElderBallastModel", "otherRule", "[B", false)
  | 18 => ("ElderBallastModel", "ruleSize", "I", false)
  | 19 => ("ElderBallastModel", "isAsked", "Z", false)
  | 20 => ("ElderBallastModel", "asked", "[I", true)
  | 21 => ("ElderBallastModel", "undos", "[I", true)
  | 22 => ("ElderBallastModel", "undoMany", "I", false)
  | 23 => ("ElderBallastModel", "aside", "[I", true)
  | 24 => ("ElderBallastModel", "then", "[I", true)
  | 25 => ("ElderBallastModel", "overMany", "I", false)
  | 26 => ("ElderBallastModel", "acts", "[I", true)
  | 27 => ("ElderBallastModel", "sawWind", "[I", true)
  | 28 => ("ElderBallastModel", "sawSail", "[I", true)
  | 29 => ("ElderBallastModel", "sawPull", "[I", true)
  | 30 => ("ElderBallastModel", "sawMany", "I", false)
  | 31 => ("ElderBallastModel", "sides", "[I", true)
  | 32 => ("ElderBallastModel", "heardOf", "[I", true)
  | 33 => ("ElderBallastModel", "heardBy", "[I", true)
  | 34 => ("ElderBallastModel", "heardMany", "I", false)
  | 35 => ("ElderBallastModel", "loses", "[Z", true)
  | 36 => ("ElderBallastModel", "left", "[I", true)
  | 37 => ("ElderBallastModel", "drawn", "I", false)
  | 38 => ("ElderBallastModel", "came", "I", false)
  | 39 => ("ElderBallastModel", "kept", "[I", true)
  | 40 => ("ElderBallastModel", "isKept", "[Z", true)
  | _ => ("ElderBallastModel", "keptCame", "[I", true)
def tyX11 : Nat → FieldType := fun k => match k with
  | 0 => .array .int
  | 1 => .int
  | 2 => .array .int
  | 3 => .array .int
  | 4 => .int
  | 5 => .array .byte
  | 6 => .int
  | 7 => .array .long
  | 8 => .int
  | 9 => .int
  | 10 => .array .byte
  | 11 => .int
  | 12 => .int
  | 13 => .int
  | 14 => .int
  | 15 => .array .int
  | 16 => .array .byte
  | 17 => .array .byte
  | 18 => .int
  | 19 => .boolean
  | 20 => .array .int
  | 21 => .array .int
  | 22 => .int
  | 23 => .array .int
  | 24 => .array .int
  | 25 => .int
  | 26 => .array .int
  | 27 => .array .int
  | 28 => .array .int
  | 29 => .array .int
  | 30 => .int
  | 31 => .array .int
  | 32 => .array .int
  | 33 => .array .int
  | 34 => .int
  | 35 => .array .boolean
  | 36 => .array .int
  | 37 => .int
  | 38 => .int
  | 39 => .array .int
  | 40 => .array .boolean
  | _ => .array .int
abbrev wsX110 : List Cond := u_ws RX11 TX11 42
theorem nmX11 : ∀ a, a < 42 → ∀ b, b < 42 → a ≠ b → (TX11 a).2.1 ≠ (TX11 b).2.1 := by decide +kernel
theorem tyX11_ok : ∀ k, k < 42 → parseFieldDescriptor (TX11 k).2.2.1 = some (tyX11 k) := by decide +kernel
abbrev cX11_init : ByteArray := prog_13_method_1_code
def yX11_init : MethodName := ⟨RX11, "<init>", "()V"⟩
abbrev cX11_thrown : ByteArray := prog_13_method_2_code
def yX11_thrown : MethodName := ⟨RX11, "thrown", "()I"⟩
abbrev cX11_in : ByteArray := prog_13_method_3_code
def yX11_in : MethodName := ⟨RX11, "in", "(III)Z"⟩
abbrev cX11_has : ByteArray := prog_13_method_4_code
def yX11_has : MethodName := ⟨RX11, "has", "(II)Z"⟩
abbrev cX11_lost : ByteArray := prog_13_method_5_code
def yX11_lost : MethodName := ⟨RX11, "lost", "()I"⟩
abbrev cX11_tell : ByteArray := prog_13_method_6_code
def yX11_tell : MethodName := ⟨RX11, "tell", "(J)V"⟩
abbrev cX11_isOne : ByteArray := prog_13_method_7_code
def yX11_isOne : MethodName := ⟨RX11, "isOne", "(I)Z"⟩
abbrev cX11_all : ByteArray := prog_13_method_8_code
def yX11_all : MethodName := ⟨RX11, "all", "()I"⟩
abbrev cX11_sign : ByteArray := prog_13_method_9_code
def yX11_sign : MethodName := ⟨RX11, "sign", "(I)I"⟩
abbrev cX11_end : ByteArray := prog_13_method_10_code
def yX11_end : MethodName := ⟨RX11, "end", "(I)Z"⟩
abbrev cX11_begin : ByteArray := prog_13_method_11_code
def yX11_begin : MethodName := ⟨RX11, "begin", "([BII)V"⟩
abbrev cX11_beginText : ByteArray := prog_13_method_12_code
def yX11_beginText : MethodName := ⟨RX11, "beginText", "(I)V"⟩
abbrev cX11_here : ByteArray := prog_13_method_13_code
def yX11_here : MethodName := ⟨RX11, "here", "()I"⟩
abbrev cX11_fine : ByteArray := prog_13_method_14_code
def yX11_fine : MethodName := ⟨RX11, "fine", "()Z"⟩
abbrev cX11_fault : ByteArray := prog_13_method_15_code
def yX11_fault : MethodName := ⟨RX11, "fault", "(I)V"⟩
abbrev cX11_passes : ByteArray := prog_13_method_16_code
def yX11_passes : MethodName := ⟨RX11, "passes", "(C)Z"⟩
abbrev cX11_need : ByteArray := prog_13_method_17_code
def yX11_need : MethodName := ⟨RX11, "need", "(C)V"⟩
abbrev cX11_oneOf : ByteArray := prog_13_method_18_code
def yX11_oneOf : MethodName := ⟨RX11, "oneOf", "(CI)I"⟩
abbrev cX11_number : ByteArray := prog_13_method_19_code
def yX11_number : MethodName := ⟨RX11, "numbe\x72", "(I)I"⟩
abbrev cX11_wasRight : ByteArray := prog_13_method_20_code
def yX11_wasRight : MethodName := ⟨RX11, "wasRight", "()Z"⟩
abbrev cX11_thoughts : ByteArray := prog_13_method_21_code
def yX11_thoughts : MethodName := ⟨RX11, "thoughts", "()I"⟩
abbrev cX11_signedOf : ByteArray := prog_13_method_22_code
def yX11_signedOf : MethodName := ⟨RX11, "signedOf", "(I)I"⟩
abbrev cX11_brothers : ByteArray := prog_13_method_23_code
def yX11_brothers : MethodName := ⟨RX11, "brothers", "()I"⟩
abbrev cX11_winds : ByteArray := prog_13_method_24_code
def yX11_winds : MethodName := ⟨RX11, "winds", "()I"⟩
abbrev cX11_held : ByteArray := prog_13_method_25_code
def yX11_held : MethodName := ⟨RX11, "held", "(I)I"⟩
abbrev cX11_sum : ByteArray := prog_13_method_26_code
def yX11_sum : MethodName := ⟨RX11, "sum", "(I)I"⟩
abbrev cX11_product : ByteArray := prog_13_method_27_code
def yX11_product : MethodName := ⟨RX11, "product", "(I)I"⟩
abbrev cX11_letterOf : ByteArray := prog_13_method_28_code
def yX11_letterOf : MethodName := ⟨RX11, "letterOf", "(I)I"⟩
abbrev cX11_thing : ByteArray := prog_13_method_29_code
def yX11_thing : MethodName := ⟨RX11, "thing", "(I)I"⟩
abbrev cX11_readRule : ByteArray := prog_13_method_30_code
def yX11_readRule : MethodName := ⟨RX11, "readRule", "()Z"⟩
abbrev cX11_rule : ByteArray := prog_13_method_31_code
def yX11_rule : MethodName := ⟨RX11, "rule", "()I"⟩
abbrev cX11_weightOf : ByteArray := prog_13_method_32_code
def yX11_weightOf : MethodName := ⟨RX11, "weightOf", "([II)I"⟩
abbrev cX11_sidesOf : ByteArray := prog_13_method_33_code
def yX11_sidesOf : MethodName := ⟨RX11, "sidesOf", "([II)I"⟩
abbrev cX11_pullBy : ByteArray := prog_13_method_34_code
def yX11_pullBy : MethodName := ⟨RX11, "pullBy", "(I)I"⟩
abbrev cX11_windOf : ByteArray := prog_13_method_35_code
def yX11_windOf : MethodName := ⟨RX11, "windOf", "([I)I"⟩
abbrev cX11_momentOf : ByteArray := prog_13_method_36_code
def yX11_momentOf : MethodName := ⟨RX11, "momentOf", "([II)I"⟩
abbrev cX11_pullOf : ByteArray := prog_13_method_37_code
def yX11_pullOf : MethodName := ⟨RX11, "pullOf", "([I)I"⟩
abbrev cX11_brother : ByteArray := prog_13_method_38_code
def yX11_brother : MethodName := ⟨RX11, "brothe\x72", "(II)I"⟩
abbrev cX11_price : ByteArray := prog_13_method_39_code
def yX11_price : MethodName := ⟨RX11, "price", "(I)I"⟩
abbrev cX11_gravity : ByteArray := prog_13_method_40_code
def yX11_gravity : MethodName := ⟨RX11, "gravity", "()I"⟩
abbrev cX11_sheet : ByteArray := prog_13_method_41_code
def yX11_sheet : MethodName := ⟨RX11, "sheet", "(IIII)I"⟩
abbrev cX11_lay : ByteArray := prog_13_method_42_code
def yX11_lay : MethodName := ⟨RX11, "lay", "([I[II)V"⟩
abbrev cX11_remember : ByteArray := prog_13_method_43_code
def yX11_remember : MethodName := ⟨RX11, "remembe\x72", "([I)V"⟩
abbrev cX11_goHourBy : ByteArray := prog_13_method_44_code
def yX11_goHourBy : MethodName := ⟨RX11, "goHourBy", "([II)V"⟩
abbrev cX11_goHour : ByteArray := prog_13_method_45_code
def yX11_goHour : MethodName := ⟨RX11, "goHou\x72", "([I)V"⟩
abbrev cX11_goHours : ByteArray := prog_13_method_46_code
def yX11_goHours : MethodName := ⟨RX11, "goHours", "([II)V"⟩
abbrev cX11_hours : ByteArray := prog_13_method_47_code
def yX11_hours : MethodName := ⟨RX11, "hours", "(I)I"⟩
abbrev cX11_refusesTelling : ByteArray := prog_13_method_48_code
def yX11_refusesTelling : MethodName := ⟨RX11, "refusesTelling", "(II)I"⟩
abbrev cX11_tells : ByteArray := prog_13_method_49_code
def yX11_tells : MethodName := ⟨RX11, "tells", "(II)I"⟩
abbrev cX11_refusesMove : ByteArray := prog_13_method_50_code
def yX11_refusesMove : MethodName := ⟨RX11, "refusesMove", "(II)I"⟩
abbrev cX11_moves : ByteArray := prog_13_method_51_code
def yX11_moves : MethodName := ⟨RX11, "moves", "(II)I"⟩
abbrev cX11_refusesEase : ByteArray := prog_13_method_52_code
def yX11_refusesEase : MethodName := ⟨RX11, "refusesEase", "(I)I"⟩
abbrev cX11_eases : ByteArray := prog_13_method_53_code
def yX11_eases : MethodName := ⟨RX11, "eases", "(I)I"⟩
abbrev cX11_refusesPreaching : ByteArray := prog_13_method_54_code
def yX11_refusesPreaching : MethodName := ⟨RX11, "refusesPreaching", "(II)I"⟩
abbrev cX11_preaches : ByteArray := prog_13_method_55_code
def yX11_preaches : MethodName := ⟨RX11, "preaches", "(II)I"⟩
abbrev cX11_refusesSail : ByteArray := prog_13_method_56_code
def yX11_refusesSail : MethodName := ⟨RX11, "refusesSail", "(I)I"⟩
abbrev cX11_sails : ByteArray := prog_13_method_57_code
def yX11_sails : MethodName := ⟨RX11, "sails", "(I)I"⟩
abbrev cX11_watch : ByteArray := prog_13_method_58_code
def yX11_watch : MethodName := ⟨RX11, "watch", "()I"⟩
abbrev cX11_readAct : ByteArray := prog_13_method_59_code
def yX11_readAct : MethodName := ⟨RX11, "readAct", "(I)V"⟩
abbrev cX11_act : ByteArray := prog_13_method_60_code
def yX11_act : MethodName := ⟨RX11, "act", "(III)Z"⟩
abbrev cX11_undo : ByteArray := prog_13_method_61_code
def yX11_undo : MethodName := ⟨RX11, "undo", "()I"⟩
abbrev cX11_moment : ByteArray := prog_13_method_62_code
def yX11_moment : MethodName := ⟨RX11, "moment", "()I"⟩
abbrev cX11_goThen : ByteArray := prog_13_method_63_code
def yX11_goThen : MethodName := ⟨RX11, "goThen", "(I)V"⟩
abbrev cX11_later : ByteArray := prog_13_method_64_code
def yX11_later : MethodName := ⟨RX11, "late\x72", "(I)I"⟩
abbrev cX11_over : ByteArray := prog_13_method_65_code
def yX11_over : MethodName := ⟨RX11, "ove\x72", "()I"⟩
abbrev cX11_when : ByteArray := prog_13_method_66_code
def yX11_when : MethodName := ⟨RX11, "when", "(I)I"⟩
abbrev cX11_rolls : ByteArray := prog_13_method_67_code
def yX11_rolls : MethodName := ⟨RX11, "rolls", "(I)I"⟩
abbrev cX11_steady : ByteArray := prog_13_method_68_code
def yX11_steady : MethodName := ⟨RX11, "steady", "(II)I"⟩
abbrev cX11_makes : ByteArray := prog_13_method_69_code
def yX11_makes : MethodName := ⟨RX11, "makes", "(I)I"⟩
abbrev cX11_stands : ByteArray := prog_13_method_70_code
def yX11_stands : MethodName := ⟨RX11, "stands", "(I)Z"⟩
abbrev cX11_isTelling : ByteArray := prog_13_method_71_code
def yX11_isTelling : MethodName := ⟨RX11, "isTelling", "(I)Z"⟩
abbrev cX11_think : ByteArray := prog_13_method_72_code
def yX11_think : MethodName := ⟨RX11, "think", "(I)V"⟩
abbrev cX11_unthink : ByteArray := prog_13_method_73_code
def yX11_unthink : MethodName := ⟨RX11, "unthink", "(I)V"⟩
abbrev cX11_steps : ByteArray := prog_13_method_74_code
def yX11_steps : MethodName := ⟨RX11, "steps", "(I)I"⟩
abbrev cX11_leaguesBy : ByteArray := prog_13_method_75_code
def yX11_leaguesBy : MethodName := ⟨RX11, "leaguesBy", "(II)I"⟩
abbrev cX11_best : ByteArray := prog_13_method_76_code
def yX11_best : MethodName := ⟨RX11, "best", "(I)I"⟩
abbrev cX11_pullAt : ByteArray := prog_13_method_77_code
def yX11_pullAt : MethodName := ⟨RX11, "pullAt", "(II)I"⟩
abbrev cX11_trims : ByteArray := prog_13_method_78_code
def yX11_trims : MethodName := ⟨RX11, "trims", "(I)I"⟩
abbrev cX11_pullWithout : ByteArray := prog_13_method_79_code
def yX11_pullWithout : MethodName := ⟨RX11, "pullWithout", "(I)I"⟩
abbrev cX11_frees : ByteArray := prog_13_method_80_code
def yX11_frees : MethodName := ⟨RX11, "frees", "()I"⟩
abbrev cX11_bears : ByteArray := prog_13_method_81_code
def yX11_bears : MethodName := ⟨RX11, "bears", "()I"⟩
abbrev cX11_weightsOf : ByteArray := prog_13_method_82_code
def yX11_weightsOf : MethodName := ⟨RX11, "weightsOf", "(I)I"⟩
abbrev cX11_differing : ByteArray := prog_13_method_83_code
def yX11_differing : MethodName := ⟨RX11, "differing", "(I)I"⟩
abbrev cX11_parties : ByteArray := prog_13_method_84_code
def yX11_parties : MethodName := ⟨RX11, "parties", "()I"⟩
abbrev cX11_just : ByteArray := prog_13_method_85_code
def yX11_just : MethodName := ⟨RX11, "just", "(I)I"⟩
abbrev cX11_pullSwapped : ByteArray := prog_13_method_86_code
def yX11_pullSwapped : MethodName := ⟨RX11, "pullSwapped", "(II)I"⟩
abbrev cX11_swaps : ByteArray := prog_13_method_87_code
def yX11_swaps : MethodName := ⟨RX11, "swaps", "()I"⟩
abbrev cX11_line : ByteArray := prog_13_method_88_code
def yX11_line : MethodName := ⟨RX11, "line", "()I"⟩
abbrev cX11_areApart : ByteArray := prog_13_method_89_code
def yX11_areApart : MethodName := ⟨RX11, "areApart", "(I)Z"⟩
abbrev cX11_apart : ByteArray := prog_13_method_90_code
def yX11_apart : MethodName := ⟨RX11, "apart", "()I"⟩
abbrev cX11_saw : ByteArray := prog_13_method_91_code
def yX11_saw : MethodName := ⟨RX11, "saw", "(III)I"⟩
abbrev cX11_denies : ByteArray := prog_13_method_92_code
def yX11_denies : MethodName := ⟨RX11, "denies", "()I"⟩
abbrev cX11_laySides : ByteArray := prog_13_method_93_code
def yX11_laySides : MethodName := ⟨RX11, "laySides", "(I)V"⟩
abbrev cX11_pullSeen : ByteArray := prog_13_method_94_code
def yX11_pullSeen : MethodName := ⟨RX11, "pullSeen", "(III)I"⟩
abbrev cX11_thinkable : ByteArray := prog_13_method_95_code
def yX11_thinkable : MethodName := ⟨RX11, "thinkable", "()I"⟩
abbrev cX11_minds : ByteArray := prog_13_method_96_code
def yX11_minds : MethodName := ⟨RX11, "minds", "(I)I"⟩
abbrev cX11_looks : ByteArray := prog_13_method_97_code
def yX11_looks : MethodName := ⟨RX11, "looks", "(I)I"⟩
abbrev cX11_highOf : ByteArray := prog_13_method_98_code
def yX11_highOf : MethodName := ⟨RX11, "highOf", "(I)I"⟩
abbrev cX11_heard : ByteArray := prog_13_method_99_code
def yX11_heard : MethodName := ⟨RX11, "heard", "(II)I"⟩
abbrev cX11_forget : ByteArray := prog_13_method_100_code
def yX11_forget : MethodName := ⟨RX11, "forget", "()I"⟩
abbrev cX11_isSo : ByteArray := prog_13_method_101_code
def yX11_isSo : MethodName := ⟨RX11, "isSo", "(III)Z"⟩
abbrev cX11_fitting : ByteArray := prog_13_method_102_code
def yX11_fitting : MethodName := ⟨RX11, "fitting", "()I"⟩
abbrev cX11_fits : ByteArray := prog_13_method_103_code
def yX11_fits : MethodName := ⟨RX11, "fits", "()I"⟩
abbrev cX11_asks : ByteArray := prog_13_method_104_code
def yX11_asks : MethodName := ⟨RX11, "asks", "()I"⟩
abbrev cX11_common : ByteArray := prog_13_method_105_code
def yX11_common : MethodName := ⟨RX11, "common", "(JJ)J"⟩
abbrev cX11_grave : ByteArray := prog_13_method_106_code
def yX11_grave : MethodName := ⟨RX11, "grave", "(II)I"⟩
abbrev cX11_cakeOf : ByteArray := prog_13_method_107_code
def yX11_cakeOf : MethodName := ⟨RX11, "cakeOf", "(III)I"⟩
abbrev cX11_pieceOf : ByteArray := prog_13_method_108_code
def yX11_pieceOf : MethodName := ⟨RX11, "pieceOf", "(III)I"⟩
abbrev cX11_cake : ByteArray := prog_13_method_109_code
def yX11_cake : MethodName := ⟨RX11, "cake", "(II)I"⟩
abbrev cX11_gets : ByteArray := prog_13_method_110_code
def yX11_gets : MethodName := ⟨RX11, "gets", "(III)I"⟩
abbrev cX11_isBest : ByteArray := prog_13_method_111_code
def yX11_isBest : MethodName := ⟨RX11, "isBest", "(III)Z"⟩
abbrev cX11_rests : ByteArray := prog_13_method_112_code
def yX11_rests : MethodName := ⟨RX11, "rests", "(I)I"⟩
abbrev cX11_law : ByteArray := prog_13_method_113_code
def yX11_law : MethodName := ⟨RX11, "law", "()I"⟩
abbrev cX11_draw : ByteArray := prog_13_method_114_code
def yX11_draw : MethodName := ⟨RX11, "draw", "(I)I"⟩
abbrev cX11_years : ByteArray := prog_13_method_115_code
def yX11_years : MethodName := ⟨RX11, "years", "(II)I"⟩
abbrev cX11_keep : ByteArray := prog_13_method_116_code
def yX11_keep : MethodName := ⟨RX11, "keep", "(I)Z"⟩
abbrev cX11_again : ByteArray := prog_13_method_117_code
def yX11_again : MethodName := ⟨RX11, "again", "(I)Z"⟩
abbrev cX11_count : ByteArray := prog_13_method_118_code
def yX11_count : MethodName := ⟨RX11, "count", "(I)I"⟩
abbrev cX11_row : ByteArray := prog_13_method_119_code
def yX11_row : MethodName := ⟨RX11, "row", "(I)J"⟩
def RJx145de : String := "java/io/Serializable"
def TJx145de : u_T := fun k => match k with
  | _ => ("", "", "", false)
def tyJx145de : Nat → FieldType := fun k => match k with
  | _ => .int
abbrev wsJx145de0 : List Cond := u_ws RJx145de TJx145de 0
theorem nmJx145de : ∀ a, a < 0 → ∀ b, b < 0 → a ≠ b → (TJx145de a).2.1 ≠ (TJx145de b).2.1 := by decide +kernel
theorem tyJx145de_ok : ∀ k, k < 0 → parseFieldDescriptor (TJx145de k).2.2.1 = some (tyJx145de k) := by decide +kernel
def RJx9f9b0 : String := "java/lang/CharSequence"
def TJx9f9b0 : u_T := fun k => match k with
  | _ => ("", "", "", false)
def tyJx9f9b0 : Nat → FieldType := fun k => match k with
  | _ => .int
abbrev wsJx9f9b00 : List Cond := u_ws RJx9f9b0 TJx9f9b0 0
theorem nmJx9f9b0 : ∀ a, a < 0 → ∀ b, b < 0 → a ≠ b → (TJx9f9b0 a).2.1 ≠ (TJx9f9b0 b).2.1 := by decide +kernel
theorem tyJx9f9b0_ok : ∀ k, k < 0 → parseFieldDescriptor (TJx9f9b0 k).2.2.1 = some (tyJx9f9b0 k) := by decide +kernel
def RJ11 : String := "java/lang/Characte\x72"
def TJ11 : u_T := fun k => match k with
  | _ => ("", "", "", false)
def tyJ11 : Nat → FieldType := fun k => match k with
  | _ => .int
abbrev wsJ110 : List Cond := u_ws RJ11 TJ11 0
theorem nmJ11 : ∀ a, a < 0 → ∀ b, b < 0 → a ≠ b → (TJ11 a).2.1 ≠ (TJ11 b).2.1 := by decide +kernel
theorem tyJ11_ok : ∀ k, k < 0 → parseFieldDescriptor (TJ11 k).2.2.1 = some (tyJ11 k) := by decide +kernel
abbrev cJ11_isValidCodePoint_9a6ad : ByteArray := prog_16_method_11_code
def yJ11_isValidCodePoint_9a6ad : MethodName := ⟨RJ11, "isValidCodePoint", "(I)Z"⟩
abbrev cJ11_highSurrogate_5068e : ByteArray := prog_16_method_28_code
def yJ11_highSurrogate_5068e : MethodName := ⟨RJ11, "highSurrogate", "(I)C"⟩
abbrev cJ11_lowSurrogate_5068e : ByteArray := prog_16_method_29_code
def yJ11_lowSurrogate_5068e : MethodName := ⟨RJ11, "lowSurrogate", "(I)C"⟩
def RJxb160c : String := "java/lang/Comparable"
def TJxb160c : u_T := fun k => match k with
  | _ => ("", "", "", false)
def tyJxb160c : Nat → FieldType := fun k => match k with
  | _ => .int
abbrev wsJxb160c0 : List Cond := u_ws RJxb160c TJxb160c 0
theorem nmJxb160c : ∀ a, a < 0 → ∀ b, b < 0 → a ≠ b → (TJxb160c a).2.1 ≠ (TJxb160c b).2.1 := by decide +kernel
theorem tyJxb160c_ok : ∀ k, k < 0 → parseFieldDescriptor (TJxb160c k).2.2.1 = some (tyJxb160c k) := by decide +kernel
def RJ6 : String := "java/lang/Intege\x72"
def TJ6 : u_T := fun k => match k with
  | _ => ("", "", "", false)
def tyJ6 : Nat → FieldType := fun k => match k with
  | _ => .int
abbrev wsJ60 : List Cond := u_ws RJ6 TJ6 0
theorem nmJ6 : ∀ a, a < 0 → ∀ b, b < 0 → a ≠ b → (TJ6 a).2.1 ≠ (TJ6 b).2.1 := by decide +kernel
theorem tyJ6_ok : ∀ k, k < 0 → parseFieldDescriptor (TJ6 k).2.2.1 = some (tyJ6 k) := by decide +kernel
abbrev cJ6_bitCount_0f7a4 : ByteArray := prog_19_method_49_code
def yJ6_bitCount_0f7a4 : MethodName := ⟨RJ6, "bitCount", "(I)I"⟩
def RJ9 : String := "java/lang/Math"
def TJ9 : u_T := fun k => match k with
  | _ => ("", "", "", false)
def tyJ9 : Nat → FieldType := fun k => match k with
  | _ => .int
abbrev wsJ90 : List Cond := u_ws RJ9 TJ9 0
theorem nmJ9 : ∀ a, a < 0 → ∀ b, b < 0 → a ≠ b → (TJ9 a).2.1 ≠ (TJ9 b).2.1 := by decide +kernel
theorem tyJ9_ok : ∀ k, k < 0 → parseFieldDescriptor (TJ9 k).2.2.1 = some (tyJ9 k) := by decide +kernel
abbrev cJ9_abs_0f7a4 : ByteArray := prog_20_method_59_code
def yJ9_abs_0f7a4 : MethodName := ⟨RJ9, "abs", "(I)I"⟩
abbrev cJ9_max_7cf53 : ByteArray := prog_20_method_65_code
def yJ9_max_7cf53 : MethodName := ⟨RJ9, "max", "(II)I"⟩
abbrev cJ9_min_7cf53 : ByteArray := prog_20_method_69_code
def yJ9_min_7cf53 : MethodName := ⟨RJ9, "min", "(II)I"⟩
def RJ0 : String := "java/lang/String"
def TJ0 : u_T := fun k => match k with
  | _ => ("", "", "", false)
def tyJ0 : Nat → FieldType := fun k => match k with
  | _ => .int
abbrev wsJ00 : List Cond := u_ws RJ0 TJ0 0
theorem nmJ0 : ∀ a, a < 0 → ∀ b, b < 0 → a ≠ b → (TJ0 a).2.1 ≠ (TJ0 b).2.1 := by decide +kernel
theorem tyJ0_ok : ∀ k, k < 0 → parseFieldDescriptor (TJ0 k).2.2.1 = some (tyJ0 k) := by decide +kernel
abbrev cJ0_length_8abf5 : ByteArray := prog_22_method_54_code
def yJ0_length_8abf5 : MethodName := ⟨RJ0, "length", "()I"⟩
abbrev cJ0_charAt_5068e : ByteArray := prog_22_method_56_code
def yJ0_charAt_5068e : MethodName := ⟨RJ0, "charAt", "(I)C"⟩
abbrev cJ0_indexOf_0f7a4 : ByteArray := prog_22_method_79_code
def yJ0_indexOf_0f7a4 : MethodName := ⟨RJ0, "indexOf", "(I)I"⟩
abbrev cJ0_indexOf_7cf53 : ByteArray := prog_22_method_80_code
def yJ0_indexOf_7cf53 : MethodName := ⟨RJ0, "indexOf", "(II)I"⟩
abbrev cJ0_coder_7d493 : ByteArray := prog_22_method_152_code
def yJ0_coder_7d493 : MethodName := ⟨RJ0, "code\x72", "()B"⟩
abbrev cJ0_isLatin1_aae02 : ByteArray := prog_22_method_154_code
def yJ0_isLatin1_aae02 : MethodName := ⟨RJ0, "isLatin1", "()Z"⟩
abbrev cJ0_checkIndex_df160 : ByteArray := prog_22_method_155_code
def yJ0_checkIndex_df160 : MethodName := ⟨RJ0, "checkIndex", "(II)V"⟩
abbrev cJ0_checkBoundsBeginEnd_23922 : ByteArray := prog_22_method_158_code
def yJ0_checkBoundsBeginEnd_23922 : MethodName := ⟨RJ0, "checkBoundsBeginEnd", "(III)V"⟩
def RJ1 : String := "java/lang/StringLatin1"
def TJ1 : u_T := fun k => match k with
  | _ => ("", "", "", false)
def tyJ1 : Nat → FieldType := fun k => match k with
  | _ => .int
abbrev wsJ10 : List Cond := u_ws RJ1 TJ1 0
theorem nmJ1 : ∀ a, a < 0 → ∀ b, b < 0 → a ≠ b → (TJ1 a).2.1 ≠ (TJ1 b).2.1 := by decide +kernel
theorem tyJ1_ok : ∀ k, k < 0 → parseFieldDescriptor (TJ1 k).2.2.1 = some (tyJ1 k) := by decide +kernel
abbrev cJ1_charAt_3b067 : ByteArray := prog_23_method_2_code
def yJ1_charAt_3b067 : MethodName := ⟨RJ1, "charAt", "([BI)C"⟩
abbrev cJ1_canEncode_9a6ad : ByteArray := prog_23_method_4_code
def yJ1_canEncode_9a6ad : MethodName := ⟨RJ1, "canEncode", "(I)Z"⟩
abbrev cJ1_indexOf_4cfef : ByteArray := prog_23_method_22_code
def yJ1_indexOf_4cfef : MethodName := ⟨RJ1, "indexOf", "([BIII)I"⟩
abbrev cJ1_indexOfChar_4cfef : ByteArray := prog_23_method_23_code
def yJ1_indexOfChar_4cfef : MethodName := ⟨RJ1, "indexOfCha\x72", "([BIII)I"⟩
def RJ2 : String := "java/lang/StringUTF16"
def TJ2 : u_T := fun k => match k with
  | _ => ("", "", "", false)
def tyJ2 : Nat → FieldType := fun k => match k with
  | _ => .int
abbrev wsJ20 : List Cond := u_ws RJ2 TJ2 0
theorem nmJ2 : ∀ a, a < 0 → ∀ b, b < 0 → a ≠ b → (TJ2 a).2.1 ≠ (TJ2 b).2.1 := by decide +kernel
theorem tyJ2_ok : ∀ k, k < 0 → parseFieldDescriptor (TJ2 k).2.2.1 = some (tyJ2 k) := by decide +kernel
abbrev cJ2_getChar_3b067 : ByteArray := prog_24_method_5_code
def yJ2_getChar_3b067 : MethodName := ⟨RJ2, "getCha\x72", "([BI)C"⟩
abbrev cJ2_length_9d52b : ByteArray := prog_24_method_6_code
def yJ2_length_9d52b : MethodName := ⟨RJ2, "length", "([B)I"⟩
abbrev cJ2_indexOf_4cfef : ByteArray := prog_24_method_40_code
def yJ2_indexOf_4cfef : MethodName := ⟨RJ2, "indexOf", "([BIII)I"⟩
abbrev cJ2_indexOfChar_4cfef : ByteArray := prog_24_method_47_code
def yJ2_indexOfChar_4cfef : MethodName := ⟨RJ2, "indexOfCha\x72", "([BIII)I"⟩
abbrev cJ2_indexOfCharUnsafe_4cfef : ByteArray := prog_24_method_48_code
def yJ2_indexOfCharUnsafe_4cfef : MethodName := ⟨RJ2, "indexOfCharUnsafe", "([BIII)I"⟩
abbrev cJ2_indexOfSupplementary_4cfef : ByteArray := prog_24_method_49_code
def yJ2_indexOfSupplementary_4cfef : MethodName := ⟨RJ2, "indexOfSupplementary", "([BIII)I"⟩
abbrev cJ2_charAt_3b067 : ByteArray := prog_24_method_83_code
def yJ2_charAt_3b067 : MethodName := ⟨RJ2, "charAt", "([BI)C"⟩
abbrev cJ2_checkIndex_2214a : ByteArray := prog_24_method_91_code
def yJ2_checkIndex_2214a : MethodName := ⟨RJ2, "checkIndex", "(I[B)V"⟩
abbrev cJ2_checkBoundsBeginEnd_d044e : ByteArray := prog_24_method_93_code
def yJ2_checkBoundsBeginEnd_d044e : MethodName := ⟨RJ2, "checkBoundsBeginEnd", "(II[B)V"⟩
def RJxfd54e : String := "java/lang/constant/Constable"
def TJxfd54e : u_T := fun k => match k with
  | _ => ("", "", "", false)
def tyJxfd54e : Nat → FieldType := fun k => match k with
  | _ => .int
abbrev wsJxfd54e0 : List Cond := u_ws RJxfd54e TJxfd54e 0
theorem nmJxfd54e : ∀ a, a < 0 → ∀ b, b < 0 → a ≠ b → (TJxfd54e a).2.1 ≠ (TJxfd54e b).2.1 := by decide +kernel
theorem tyJxfd54e_ok : ∀ k, k < 0 → parseFieldDescriptor (TJxfd54e k).2.2.1 = some (tyJxfd54e k) := by decide +kernel
def RJx3cf43 : String := "java/lang/constant/ConstantDesc"
def TJx3cf43 : u_T := fun k => match k with
  | _ => ("", "", "", false)
def tyJx3cf43 : Nat → FieldType := fun k => match k with
  | _ => .int
abbrev wsJx3cf430 : List Cond := u_ws RJx3cf43 TJx3cf43 0
theorem nmJx3cf43 : ∀ a, a < 0 → ∀ b, b < 0 → a ≠ b → (TJx3cf43 a).2.1 ≠ (TJx3cf43 b).2.1 := by decide +kernel
theorem tyJx3cf43_ok : ∀ k, k < 0 → parseFieldDescriptor (TJx3cf43 k).2.2.1 = some (tyJx3cf43 k) := by decide +kernel
def RJ3 : String := "jdk/internal/util/Preconditions"
def TJ3 : u_T := fun k => match k with
  | _ => ("", "", "", false)
def tyJ3 : Nat → FieldType := fun k => match k with
  | _ => .int
abbrev wsJ30 : List Cond := u_ws RJ3 TJ3 0
theorem nmJ3 : ∀ a, a < 0 → ∀ b, b < 0 → a ≠ b → (TJ3 a).2.1 ≠ (TJ3 b).2.1 := by decide +kernel
theorem tyJ3_ok : ∀ k, k < 0 → parseFieldDescriptor (TJ3 k).2.2.1 = some (tyJ3 k) := by decide +kernel
abbrev cJ3_checkIndex_8e157 : ByteArray := prog_29_method_11_code
def yJ3_checkIndex_8e157 : MethodName := ⟨RJ3, "checkIndex", "(IILjava/util/function/BiFunction;)I"⟩
abbrev cJ3_checkFromToIndex_8c36e : ByteArray := prog_29_method_12_code
def yJ3_checkFromToIndex_8c36e : MethodName := ⟨RJ3, "checkFromToIndex", "(IIILjava/util/function/BiFunction;)I"⟩
def RL : String := "ElderBallastLaw"
abbrev cL_brother : ByteArray := method_3_code
def yL_brother : MethodName := ⟨RL, "brothe\x72", "(LElderBallast;II[J)I"⟩
abbrev cL_price : ByteArray := method_4_code
def yL_price : MethodName := ⟨RL, "price", "(LElderBallast;I[J)I"⟩
abbrev cL_row : ByteArray := method_5_code
def yL_row : MethodName := ⟨RL, "row", "(LElderBallast;I[J)I"⟩
abbrev cL_law : ByteArray := code
def yL_law : MethodName := ⟨RL, "law", "([I)Z"⟩
theorem inX0 : ∀ w ∈ u_ws RX0 TX0 3, w ∈ lw_tbl := by
  have h : ((List.range 3).zip [494, 496, 498]).all (fun q => decide (lw_tbl[q.2]? = some (u_lay RX0 TX0 q.1))) = true := by decide +kernel
  intro w hw
  obtain ⟨k, hk, rfl⟩ := List.mem_map.mp hw
  have hk2 : k < 3 := List.mem_range.mp hk
  have h2 : ∀ j, j < 3 → ∃ i : Nat, lw_tbl[i]? = some (u_lay RX0 TX0 j) := by
    intro j hj
    have hm : (j, ([494, 496, 498] : List Nat).getD j 0) ∈ (List.range 3).zip [494, 496, 498] := by
      have h3 : ∀ j, j < 3 → (j, ([494, 496, 498] : List Nat).getD j 0) ∈ (List.range 3).zip [494, 496, 498] := by decide
      exact h3 j hj
    have h4 := List.all_eq_true.mp h _ hm
    exact ⟨_, of_decide_eq_true h4⟩
  obtain ⟨i, hi⟩ := h2 k hk2
  exact List.mem_of_getElem? hi
theorem inX1 : ∀ w ∈ u_ws RX1 TX1 1, w ∈ lw_tbl := by
  have h : ((List.range 1).zip [481]).all (fun q => decide (lw_tbl[q.2]? = some (u_lay RX1 TX1 q.1))) = true := by decide +kernel
  intro w hw
  obtain ⟨k, hk, rfl⟩ := List.mem_map.mp hw
  have hk2 : k < 1 := List.mem_range.mp hk
  have h2 : ∀ j, j < 1 → ∃ i : Nat, lw_tbl[i]? = some (u_lay RX1 TX1 j) := by
    intro j hj
    have hm : (j, ([481] : List Nat).getD j 0) ∈ (List.range 1).zip [481] := by
      have h3 : ∀ j, j < 1 → (j, ([481] : List Nat).getD j 0) ∈ (List.range 1).zip [481] := by decide
      exact h3 j hj
    have h4 := List.all_eq_true.mp h _ hm
    exact ⟨_, of_decide_eq_true h4⟩
  obtain ⟨i, hi⟩ := h2 k hk2
  exact List.mem_of_getElem? hi
theorem inX2 : ∀ w ∈ u_ws RX2 TX2 3, w ∈ lw_tbl := by
  have h : ((List.range 3).zip [443, 445, 447]).all (fun q => decide (lw_tbl[q.2]? = some (u_lay RX2 TX2 q.1))) = true := by decide +kernel
  intro w hw
  obtain ⟨k, hk, rfl⟩ := List.mem_map.mp hw
  have hk2 : k < 3 := List.mem_range.mp hk
  have h2 : ∀ j, j < 3 → ∃ i : Nat, lw_tbl[i]? = some (u_lay RX2 TX2 j) := by
    intro j hj
    have hm : (j, ([443, 445, 447] : List Nat).getD j 0) ∈ (List.range 3).zip [443, 445, 447] := by
      have h3 : ∀ j, j < 3 → (j, ([443, 445, 447] : List Nat).getD j 0) ∈ (List.range 3).zip [443, 445, 447] := by decide
      exact h3 j hj
    have h4 := List.all_eq_true.mp h _ hm
    exact ⟨_, of_decide_eq_true h4⟩
  obtain ⟨i, hi⟩ := h2 k hk2
  exact List.mem_of_getElem? hi
theorem inX3 : ∀ w ∈ u_ws RX3 TX3 2, w ∈ lw_tbl := by
  have h : ((List.range 2).zip [509, 511]).all (fun q => decide (lw_tbl[q.2]? = some (u_lay RX3 TX3 q.1))) = true := by decide +kernel
  intro w hw
  obtain ⟨k, hk, rfl⟩ := List.mem_map.mp hw
  have hk2 : k < 2 := List.mem_range.mp hk
  have h2 : ∀ j, j < 2 → ∃ i : Nat, lw_tbl[i]? = some (u_lay RX3 TX3 j) := by
    intro j hj
    have hm : (j, ([509, 511] : List Nat).getD j 0) ∈ (List.range 2).zip [509, 511] := by
      have h3 : ∀ j, j < 2 → (j, ([509, 511] : List Nat).getD j 0) ∈ (List.range 2).zip [509, 511] := by decide
      exact h3 j hj
    have h4 := List.all_eq_true.mp h _ hm
    exact ⟨_, of_decide_eq_true h4⟩
  obtain ⟨i, hi⟩ := h2 k hk2
  exact List.mem_of_getElem? hi
theorem inX4 : ∀ w ∈ u_ws RX4 TX4 2, w ∈ lw_tbl := by
  have h : ((List.range 2).zip [156, 158]).all (fun q => decide (lw_tbl[q.2]? = some (u_lay RX4 TX4 q.1))) = true := by decide +kernel
  intro w hw
  obtain ⟨k, hk, rfl⟩ := List.mem_map.mp hw
  have hk2 : k < 2 := List.mem_range.mp hk
  have h2 : ∀ j, j < 2 → ∃ i : Nat, lw_tbl[i]? = some (u_lay RX4 TX4 j) := by
    intro j hj
    have hm : (j, ([156, 158] : List Nat).getD j 0) ∈ (List.range 2).zip [156, 158] := by
      have h3 : ∀ j, j < 2 → (j, ([156, 158] : List Nat).getD j 0) ∈ (List.range 2).zip [156, 158] := by decide
      exact h3 j hj
    have h4 := List.all_eq_true.mp h _ hm
    exact ⟨_, of_decide_eq_true h4⟩
  obtain ⟨i, hi⟩ := h2 k hk2
  exact List.mem_of_getElem? hi
theorem inX5 : ∀ w ∈ u_ws RX5 TX5 11, w ∈ lw_tbl := by
  have h : ((List.range 11).zip [321, 323, 325, 327, 329, 331, 333, 335, 337, 339, 341]).all (fun q => decide (lw_tbl[q.2]? = some (u_lay RX5 TX5 q.1))) = true := by decide +kernel
  intro w hw
  obtain ⟨k, hk, rfl⟩ := List.mem_map.mp hw
  have hk2 : k < 11 := List.mem_range.mp hk
  have h2 : ∀ j, j < 11 → ∃ i : Nat, lw_tbl[i]? = some (u_lay RX5 TX5 j) := by
    intro j hj
    have hm : (j, ([321, 323, 325, 327, 329, 331, 333, 335, 337, 339, 341] : List Nat).getD j 0) ∈ (List.range 11).zip [321, 323, 325, 327, 329, 331, 333, 335, 337, 339, 341] := by
      have h3 : ∀ j, j < 11 → (j, ([321, 323, 325, 327, 329, 331, 333, 335, 337, 339, 341] : List Nat).getD j 0) ∈ (List.range 11).zip [321, 323, 325, 327, 329, 331, 333, 335, 337, 339, 341] := by decide
      exact h3 j hj
    have h4 := List.all_eq_true.mp h _ hm
    exact ⟨_, of_decide_eq_true h4⟩
  obtain ⟨i, hi⟩ := h2 k hk2
  exact List.mem_of_getElem? hi
theorem inX6 : ∀ w ∈ u_ws RX6 TX6 9, w ∈ lw_tbl := by
  have h : ((List.range 9).zip [356, 358, 360, 362, 364, 366, 368, 370, 372]).all (fun q => decide (lw_tbl[q.2]? = some (u_lay RX6 TX6 q.1))) = true := by decide +kernel
  intro w hw
  obtain ⟨k, hk, rfl⟩ := List.mem_map.mp hw
  have hk2 : k < 9 := List.mem_range.mp hk
  have h2 : ∀ j, j < 9 → ∃ i : Nat, lw_tbl[i]? = some (u_lay RX6 TX6 j) := by
    intro j hj
    have hm : (j, ([356, 358, 360, 362, 364, 366, 368, 370, 372] : List Nat).getD j 0) ∈ (List.range 9).zip [356, 358, 360, 362, 364, 366, 368, 370, 372] := by
      have h3 : ∀ j, j < 9 → (j, ([356, 358, 360, 362, 364, 366, 368, 370, 372] : List Nat).getD j 0) ∈ (List.range 9).zip [356, 358, 360, 362, 364, 366, 368, 370, 372] := by decide
      exact h3 j hj
    have h4 := List.all_eq_true.mp h _ hm
    exact ⟨_, of_decide_eq_true h4⟩
  obtain ⟨i, hi⟩ := h2 k hk2
  exact List.mem_of_getElem? hi
theorem inX7 : ∀ w ∈ u_ws RX7 TX7 9, w ∈ lw_tbl := by
  have h : ((List.range 9).zip [411, 413, 415, 417, 419, 421, 423, 425, 427]).all (fun q => decide (lw_tbl[q.2]? = some (u_lay RX7 TX7 q.1))) = true := by decide +kernel
  intro w hw
  obtain ⟨k, hk, rfl⟩ := List.mem_map.mp hw
  have hk2 : k < 9 := List.mem_range.mp hk
  have h2 : ∀ j, j < 9 → ∃ i : Nat, lw_tbl[i]? = some (u_lay RX7 TX7 j) := by
    intro j hj
    have hm : (j, ([411, 413, 415, 417, 419, 421, 423, 425, 427] : List Nat).getD j 0) ∈ (List.range 9).zip [411, 413, 415, 417, 419, 421, 423, 425, 427] := by
      have h3 : ∀ j, j < 9 → (j, ([411, 413, 415, 417, 419, 421, 423, 425, 427] : List Nat).getD j 0) ∈ (List.range 9).zip [411, 413, 415, 417, 419, 421, 423, 425, 427] := by decide
      exact h3 j hj
    have h4 := List.all_eq_true.mp h _ hm
    exact ⟨_, of_decide_eq_true h4⟩
  obtain ⟨i, hi⟩ := h2 k hk2
  exact List.mem_of_getElem? hi
theorem inX8 : ∀ w ∈ u_ws RX8 TX8 4, w ∈ lw_tbl := by
  have h : ((List.range 4).zip [465, 467, 469, 471]).all (fun q => decide (lw_tbl[q.2]? = some (u_lay RX8 TX8 q.1))) = true := by decide +kernel
  intro w hw
  obtain ⟨k, hk, rfl⟩ := List.mem_map.mp hw
  have hk2 : k < 4 := List.mem_range.mp hk
  have h2 : ∀ j, j < 4 → ∃ i : Nat, lw_tbl[i]? = some (u_lay RX8 TX8 j) := by
    intro j hj
    have hm : (j, ([465, 467, 469, 471] : List Nat).getD j 0) ∈ (List.range 4).zip [465, 467, 469, 471] := by
      have h3 : ∀ j, j < 4 → (j, ([465, 467, 469, 471] : List Nat).getD j 0) ∈ (List.range 4).zip [465, 467, 469, 471] := by decide
      exact h3 j hj
    have h4 := List.all_eq_true.mp h _ hm
    exact ⟨_, of_decide_eq_true h4⟩
  obtain ⟨i, hi⟩ := h2 k hk2
  exact List.mem_of_getElem? hi
theorem inX9 : ∀ w ∈ u_ws RX9 TX9 2, w ∈ lw_tbl := by
  have h : ((List.range 2).zip [140, 142]).all (fun q => decide (lw_tbl[q.2]? = some (u_lay RX9 TX9 q.1))) = true := by decide +kernel
  intro w hw
  obtain ⟨k, hk, rfl⟩ := List.mem_map.mp hw
  have hk2 : k < 2 := List.mem_range.mp hk
  have h2 : ∀ j, j < 2 → ∃ i : Nat, lw_tbl[i]? = some (u_lay RX9 TX9 j) := by
    intro j hj
    have hm : (j, ([140, 142] : List Nat).getD j 0) ∈ (List.range 2).zip [140, 142] := by
      have h3 : ∀ j, j < 2 → (j, ([140, 142] : List Nat).getD j 0) ∈ (List.range 2).zip [140, 142] := by decide
      exact h3 j hj
    have h4 := List.all_eq_true.mp h _ hm
    exact ⟨_, of_decide_eq_true h4⟩
  obtain ⟨i, hi⟩ := h2 k hk2
  exact List.mem_of_getElem? hi
theorem inX10 : ∀ w ∈ u_ws RX10 TX10 18, w ∈ lw_tbl := by
  have h : ((List.range 18).zip [532, 534, 536, 538, 540, 542, 544, 546, 548, 550, 552, 554, 556, 558, 560, 562, 564, 566]).all (fun q => decide (lw_tbl[q.2]? = some (u_lay RX10 TX10 q.1))) = true := by decide +kernel
  intro w hw
  obtain ⟨k, hk, rfl⟩ := List.mem_map.mp hw
  have hk2 : k < 18 := List.mem_range.mp hk
  have h2 : ∀ j, j < 18 → ∃ i : Nat, lw_tbl[i]? = some (u_lay RX10 TX10 j) := by
    intro j hj
    have hm : (j, ([532, 534, 536, 538, 540, 542, 544, 546, 548, 550, 552, 554, 556, 558, 560, 562, 564, 566] : List Nat).getD j 0) ∈ (List.range 18).zip [532, 534, 536, 538, 540, 542, 544, 546, 548, 550, 552, 554, 556, 558, 560, 562, 564, 566] := by
      have h3 : ∀ j, j < 18 → (j, ([532, 534, 536, 538, 540, 542, 544, 546, 548, 550, 552, 554, 556, 558, 560, 562, 564, 566] : List Nat).getD j 0) ∈ (List.range 18).zip [532, 534, 536, 538, 540, 542, 544, 546, 548, 550, 552, 554, 556, 558, 560, 562, 564, 566] := by decide
      exact h3 j hj
    have h4 := List.all_eq_true.mp h _ hm
    exact ⟨_, of_decide_eq_true h4⟩
  obtain ⟨i, hi⟩ := h2 k hk2
  exact List.mem_of_getElem? hi
theorem inX11 : ∀ w ∈ u_ws RX11 TX11 42, w ∈ lw_tbl := by
  have h : ((List.range 42).zip [1321, 1323, 1325, 1327, 1329, 1331, 1333, 1335, 1337, 1339, 1341, 1343, 1345, 1347, 1349, 1351, 1353, 1355, 1357, 1359, 1361, 1363, 1365, 1367, 1369, 1371, 1373, 1375, 1377, 1379, 1381, 1383, 1385, 1387, 1389, 1391, 1393, 1395, 1397, 1399, 1401, 1403]).all (fun q => decide (lw_tbl[q.2]? = some (u_lay RX11 TX11 q.1))) = true := by decide +kernel
  intro w hw
  obtain ⟨k, hk, rfl⟩ := List.mem_map.mp hw
  have hk2 : k < 42 := List.mem_range.mp hk
  have h2 : ∀ j, j < 42 → ∃ i : Nat, lw_tbl[i]? = some (u_lay RX11 TX11 j) := by
    intro j hj
    have hm : (j, ([1321, 1323, 1325, 1327, 1329, 1331, 1333, 1335, 1337, 1339, 1341, 1343, 1345, 1347, 1349, 1351, 1353, 1355, 1357, 1359, 1361, 1363, 1365, 1367, 1369, 1371, 1373, 1375, 1377, 1379, 1381, 1383, 1385, 1387, 1389, 1391, 1393, 1395, 1397, 1399, 1401, 1403] : List Nat).getD j 0) ∈ (List.range 42).zip [1321, 1323, 1325, 1327, 1329, 1331, 1333, 1335, 1337, 1339, 1341, 1343, 1345, 1347, 1349, 1351, 1353, 1355, 1357, 1359, 1361, 1363, 1365, 1367, 1369, 1371, 1373, 1375, 1377, 1379, 1381, 1383, 1385, 1387, 1389, 1391, 1393, 1395, 1397, 1399, 1401, 1403] := by
      have h3 : ∀ j, j < 42 → (j, ([1321, 1323, 1325, 1327, 1329, 1331, 1333, 1335, 1337, 1339, 1341, 1343, 1345, 1347, 1349, 1351, 1353, 1355, 1357, 1359, 1361, 1363, 1365, 1367, 1369, 1371, 1373, 1375, 1377, 1379, 1381, 1383, 1385, 1387, 1389, 1391, 1393, 1395, 1397, 1399, 1401, 1403] : List Nat).getD j 0) ∈ (List.range 42).zip [1321, 1323, 1325, 1327, 1329, 1331, 1333, 1335, 1337, 1339, 1341, 1343, 1345, 1347, 1349, 1351, 1353, 1355, 1357, 1359, 1361, 1363, 1365, 1367, 1369, 1371, 1373, 1375, 1377, 1379, 1381, 1383, 1385, 1387, 1389, 1391, 1393, 1395, 1397, 1399, 1401, 1403] := by decide
      exact h3 j hj
    have h4 := List.all_eq_true.mp h _ hm
    exact ⟨_, of_decide_eq_true h4⟩
  obtain ⟨i, hi⟩ := h2 k hk2
  exact List.mem_of_getElem? hi
