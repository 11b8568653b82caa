def RX0 : String := "HexCabinet$Board"
def TX0 : u_T := fun k => match k with
  | 0 => ("HexCabinet$Board", "values", "[I", true)
  | 1 => ("HexCabinet$Board", "whiteKing", "I", false)
  | _ => ("HexCabinet$Board", "blackKing", "I", false)
def tyX0 : Nat → FieldType := fun k => match k with
  | 0 => .array .int
  | 1 => .int
  | _ => .int
abbrev wsX00 : List Cond := u_ws RX0 TX0 3
theorem nmX0 : ∀ a, a < 3 → ∀ b, b < 3 → a ≠ b → (TX0 a).2.1 ≠ (TX0 b).2.1 := by decide +kernel
theorem tyX0_ok : ∀ k, k < 3 → parseFieldDescriptor (TX0 k).2.2.1 = some (tyX0 k) := by decide +kernel
abbrev cX0_init : ByteArray := prog_2_method_1_code
def yX0_init : MethodName := ⟨RX0, "<init>", "()V"⟩
abbrev cX0_clear : ByteArray := prog_2_method_2_code
def yX0_clear : MethodName := ⟨RX0, "clear", "()V"⟩
abbrev cX0_on : ByteArray := prog_2_method_3_code
def yX0_on : MethodName := ⟨RX0, "on", "(I)I"⟩
abbrev cX0_set : ByteArray := prog_2_method_4_code
def yX0_set : MethodName := ⟨RX0, "set", "(II)V"⟩
abbrev cX0_kingOf : ByteArray := prog_2_method_5_code
def yX0_kingOf : MethodName := ⟨RX0, "kingOf", "(I)I"⟩
abbrev cX0_firstTaken : ByteArray := prog_2_method_6_code
def yX0_firstTaken : MethodName := ⟨RX0, "firstTaken", "(II)I"⟩
abbrev cX0_attackers : ByteArray := prog_2_method_7_code
def yX0_attackers : MethodName := ⟨RX0, "attackers", "(II)I"⟩
abbrev cX0_pieces : ByteArray := prog_2_method_8_code
def yX0_pieces : MethodName := ⟨RX0, "pieces", "(I)I"⟩
abbrev cX0_worth : ByteArray := prog_2_method_9_code
def yX0_worth : MethodName := ⟨RX0, "worth", "(I)I"⟩
abbrev cX0_setUp : ByteArray := prog_2_method_10_code
def yX0_setUp : MethodName := ⟨RX0, "setUp", "()V"⟩
abbrev cX0_setBoth : ByteArray := prog_2_method_11_code
def yX0_setBoth : MethodName := ⟨RX0, "setBoth", "(III)V"⟩
def RX1 : String := "HexCabinet$Game"
def TX1 : u_T := fun k => match k with
  | 0 => ("HexCabinet$Game", "board", "LHexCabinet$Board;", true)
  | 1 => ("HexCabinet$Game", "turn", "I", false)
  | 2 => ("HexCabinet$Game", "quiet", "I", false)
  | 3 => ("HexCabinet$Game", "passing", "I", false)
  | 4 => ("HexCabinet$Game", "history", "[J", true)
  | 5 => ("HexCabinet$Game", "made", "I", false)
  | 6 => ("HexCabinet$Game", "moves", "[I", true)
  | 7 => ("HexCabinet$Game", "listedMoves", "I", false)
  | 8 => ("HexCabinet$Game", "listed", "Z", false)
  | 9 => ("HexCabinet$Game", "targets", "[I", true)
  | 10 => ("HexCabinet$Game", "targetCount", "I", false)
  | 11 => ("HexCabinet$Game", "pinned", "[I", true)
  | 12 => ("HexCabinet$Game", "pinnedCount", "I", false)
  | _ => ("HexCabinet$Game", "checked", "Z", false)
def tyX1 : Nat → FieldType := fun k => match k with
  | 0 => .object "HexCabinet$Board"
  | 1 => .int
  | 2 => .int
  | 3 => .int
  | 4 => .array .long
  | 5 => .int
  | 6 => .array .int
  | 7 => .int
  | 8 => .boolean
  | 9 => .array .int
  | 10 => .int
  | 11 => .array .int
  | 12 => .int
  | _ => .boolean
abbrev wsX10 : List Cond := u_ws RX1 TX1 14
theorem nmX1 : ∀ a, a < 14 → ∀ b, b < 14 → a ≠ b → (TX1 a).2.1 ≠ (TX1 b).2.1 := by decide +kernel
theorem tyX1_ok : ∀ k, k < 14 → parseFieldDescriptor (TX1 k).2.2.1 = some (tyX1 k) := by decide +kernel
abbrev cX1_init : ByteArray := prog_3_method_1_code
def yX1_init : MethodName := ⟨RX1, "<init>", "()V"⟩
abbrev cX1_clear : ByteArray := prog_3_method_2_code
def yX1_clear : MethodName := ⟨RX1, "clear", "()V"⟩
abbrev cX1_setUp : ByteArray := prog_3_method_3_code
def yX1_setUp : MethodName := ⟨RX1, "setUp", "()V"⟩
abbrev cX1_put : ByteArray := prog_3_method_4_code
def yX1_put : MethodName := ⟨RX1, "put", "(III)V"⟩
abbrev cX1_giveTurn : ByteArray := prog_3_method_5_code
def yX1_giveTurn : MethodName := ⟨RX1, "giveTurn", "(I)V"⟩
abbrev cX1_startAnew : ByteArray := prog_3_method_6_code
def yX1_startAnew : MethodName := ⟨RX1, "startAnew", "()V"⟩
abbrev cX1_valueOn : ByteArray := prog_3_method_7_code
def yX1_valueOn : MethodName := ⟨RX1, "valueOn", "(I)I"⟩
abbrev cX1_attackersOf : ByteArray := prog_3_method_8_code
def yX1_attackersOf : MethodName := ⟨RX1, "attackersOf", "(II)I"⟩
abbrev cX1_hasKing : ByteArray := prog_3_method_9_code
def yX1_hasKing : MethodName := ⟨RX1, "hasKing", "(I)Z"⟩
abbrev cX1_passingCell : ByteArray := prog_3_method_10_code
def yX1_passingCell : MethodName := ⟨RX1, "passingCell", "()I"⟩
abbrev cX1_isPlayable : ByteArray := prog_3_method_11_code
def yX1_isPlayable : MethodName := ⟨RX1, "isPlayable", "()Z"⟩
abbrev cX1_isAttacked : ByteArray := prog_3_method_12_code
def yX1_isAttacked : MethodName := ⟨RX1, "isAttacked", "(I)Z"⟩
abbrev cX1_howItIs : ByteArray := prog_3_method_13_code
def yX1_howItIs : MethodName := ⟨RX1, "howItIs", "()I"⟩
abbrev cX1_pointsOf : ByteArray := prog_3_method_14_code
def yX1_pointsOf : MethodName := ⟨RX1, "pointsOf", "(I)I"⟩
abbrev cX1_moveCount : ByteArray := prog_3_method_15_code
def yX1_moveCount : MethodName := ⟨RX1, "moveCount", "()I"⟩
abbrev cX1_openMoves : ByteArray := prog_3_method_16_code
def yX1_openMoves : MethodName := ⟨RX1, "openMoves", "()I"⟩
abbrev cX1_moveAt : ByteArray := prog_3_method_17_code
def yX1_moveAt : MethodName := ⟨RX1, "moveAt", "(I)I"⟩
abbrev cX1_movesFrom : ByteArray := prog_3_method_18_code
def yX1_movesFrom : MethodName := ⟨RX1, "movesFrom", "(I)I"⟩
abbrev cX1_allows : ByteArray := prog_3_method_19_code
def yX1_allows : MethodName := ⟨RX1, "allows", "(II)Z"⟩
abbrev cX1_listMoves : ByteArray := prog_3_method_20_code
def yX1_listMoves : MethodName := ⟨RX1, "listMoves", "()V"⟩
abbrev cX1_countMoves : ByteArray := prog_3_method_21_code
def yX1_countMoves : MethodName := ⟨RX1, "countMoves", "(I)I"⟩
abbrev cX1_sortTargets : ByteArray := prog_3_method_22_code
def yX1_sortTargets : MethodName := ⟨RX1, "sortTargets", "()V"⟩
abbrev cX1_gatherTargets : ByteArray := prog_3_method_23_code
def yX1_gatherTargets : MethodName := ⟨RX1, "gatherTargets", "(I)V"⟩
abbrev cX1_offer : ByteArray := prog_3_method_24_code
def yX1_offer : MethodName := ⟨RX1, "offer", "(I)Z"⟩
abbrev cX1_gatherForPawn : ByteArray := prog_3_method_25_code
def yX1_gatherForPawn : MethodName := ⟨RX1, "gatherForPawn", "(I)V"⟩
abbrev cX1_keepTarget : ByteArray := prog_3_method_26_code
def yX1_keepTarget : MethodName := ⟨RX1, "keepTarget", "(I)V"⟩
abbrev cX1_lookAtKing : ByteArray := prog_3_method_27_code
def yX1_lookAtKing : MethodName := ⟨RX1, "lookAtKing", "()V"⟩
abbrev cX1_isPinned : ByteArray := prog_3_method_28_code
def yX1_isPinned : MethodName := ⟨RX1, "isPinned", "(I)Z"⟩
abbrev cX1_isSafe : ByteArray := prog_3_method_29_code
def yX1_isSafe : MethodName := ⟨RX1, "isSafe", "(II)Z"⟩
abbrev cX1_play : ByteArray := prog_3_method_30_code
def yX1_play : MethodName := ⟨RX1, "play", "(III)J"⟩
abbrev cX1_undo : ByteArray := prog_3_method_31_code
def yX1_undo : MethodName := ⟨RX1, "undo", "(J)V"⟩
abbrev cX1_valueTaken : ByteArray := prog_3_method_32_code
def yX1_valueTaken : MethodName := ⟨RX1, "valueTaken", "(J)I"⟩
abbrev cX1_isFull : ByteArray := prog_3_method_33_code
def yX1_isFull : MethodName := ⟨RX1, "isFull", "()Z"⟩
abbrev cX1_make : ByteArray := prog_3_method_34_code
def yX1_make : MethodName := ⟨RX1, "make", "(III)I"⟩
abbrev cX1_takeBack : ByteArray := prog_3_method_35_code
def yX1_takeBack : MethodName := ⟨RX1, "takeBack", "()V"⟩
abbrev cX1_comesToLast : ByteArray := prog_3_method_36_code
def yX1_comesToLast : MethodName := ⟨RX1, "comesToLast", "(II)Z"⟩
abbrev cX1_playListed : ByteArray := prog_3_method_37_code
def yX1_playListed : MethodName := ⟨RX1, "playListed", "(I)J"⟩
abbrev cX1_repliesToAll : ByteArray := prog_3_method_38_code
def yX1_repliesToAll : MethodName := ⟨RX1, "repliesToAll", "()I"⟩
abbrev cX1_dearestHanging : ByteArray := prog_3_method_42_code
def yX1_dearestHanging : MethodName := ⟨RX1, "dearestHanging", "(I)I"⟩
def RX2 : String := "HexCabinet$Kind"
def TX2 : u_T := fun k => match k with
  | _ => ("", "", "", false)
def tyX2 : Nat → FieldType := fun k => match k with
  | _ => .int
abbrev wsX20 : List Cond := u_ws RX2 TX2 0
theorem nmX2 : ∀ a, a < 0 → ∀ b, b < 0 → a ≠ b → (TX2 a).2.1 ≠ (TX2 b).2.1 := by decide +kernel
theorem tyX2_ok : ∀ k, k < 0 → parseFieldDescriptor (TX2 k).2.2.1 = some (tyX2 k) := by decide +kernel
abbrev cX2_isSide : ByteArray := prog_4_method_4_code
def yX2_isSide : MethodName := ⟨RX2, "isSide", "()Z"⟩
abbrev cX2_isPiece : ByteArray := prog_4_method_5_code
def yX2_isPiece : MethodName := ⟨RX2, "isPiece", "()Z"⟩
def RX3 : String := "HexCabinet$Reader"
def TX3 : u_T := fun k => match k with
  | 0 => ("HexCabinet$Reader", "starts", "[I", true)
  | 1 => ("HexCabinet$Reader", "cells", "[I", true)
  | 2 => ("HexCabinet$Reader", "kinds", "[LHexCabinet$Kind;", true)
  | _ => ("HexCabinet$Reader", "tokens", "I", false)
def tyX3 : Nat → FieldType := fun k => match k with
  | 0 => .array .int
  | 1 => .array .int
  | 2 => .array (.object "HexCabinet$Kind")
  | _ => .int
abbrev wsX30 : List Cond := u_ws RX3 TX3 4
theorem nmX3 : ∀ a, a < 4 → ∀ b, b < 4 → a ≠ b → (TX3 a).2.1 ≠ (TX3 b).2.1 := by decide +kernel
theorem tyX3_ok : ∀ k, k < 4 → parseFieldDescriptor (TX3 k).2.2.1 = some (tyX3 k) := by decide +kernel
abbrev cX3_init : ByteArray := prog_5_method_1_code
def yX3_init : MethodName := ⟨RX3, "<init>", "()V"⟩
abbrev cX3_read : ByteArray := prog_5_method_2_code
def yX3_read : MethodName := ⟨RX3, "read", "(LHexCabinet$Tape;)I"⟩
abbrev cX3_kindOfToken : ByteArray := prog_5_method_3_code
def yX3_kindOfToken : MethodName := ⟨RX3, "kindOfToken", "(LHexCabinet$Tape;II)LHexCabinet$Kind;"⟩
abbrev cX3_behind : ByteArray := prog_5_method_4_code
def yX3_behind : MethodName := ⟨RX3, "behind", "(ILHexCabinet$Kind;)I"⟩
abbrev cX3_behindFirst : ByteArray := prog_5_method_5_code
def yX3_behindFirst : MethodName := ⟨RX3, "behindFirst", "(LHexCabinet$Kind;)I"⟩
abbrev cX3_behindLine : ByteArray := prog_5_method_6_code
def yX3_behindLine : MethodName := ⟨RX3, "behindLine", "(LHexCabinet$Kind;)I"⟩
abbrev cX3_keep : ByteArray := prog_5_method_7_code
def yX3_keep : MethodName := ⟨RX3, "keep", "(ILHexCabinet$Kind;I)V"⟩
abbrev cX3_startOf : ByteArray := prog_5_method_8_code
def yX3_startOf : MethodName := ⟨RX3, "startOf", "(I)I"⟩
abbrev cX3_cellOfToken : ByteArray := prog_5_method_9_code
def yX3_cellOfToken : MethodName := ⟨RX3, "cellOfToken", "(I)I"⟩
abbrev cX3_kindAt : ByteArray := prog_5_method_10_code
def yX3_kindAt : MethodName := ⟨RX3, "kindAt", "(I)LHexCabinet$Kind;"⟩
def RX4 : String := "HexCabinet$Tape"
def TX4 : u_T := fun k => match k with
  | 0 => ("HexCabinet$Tape", "bytes", "[I", true)
  | _ => ("HexCabinet$Tape", "size", "I", false)
def tyX4 : Nat → FieldType := fun k => match k with
  | 0 => .array .int
  | _ => .int
abbrev wsX40 : List Cond := u_ws RX4 TX4 2
theorem nmX4 : ∀ a, a < 2 → ∀ b, b < 2 → a ≠ b → (TX4 a).2.1 ≠ (TX4 b).2.1 := by decide +kernel
theorem tyX4_ok : ∀ k, k < 2 → parseFieldDescriptor (TX4 k).2.2.1 = some (tyX4 k) := by decide +kernel
abbrev cX4_init : ByteArray := prog_6_method_1_code
def yX4_init : MethodName := ⟨RX4, "<init>", "()V"⟩
abbrev cX4_append : ByteArray := prog_6_method_2_code
def yX4_append : MethodName := ⟨RX4, "append", "(I)V"⟩
abbrev cX4_appendByte : ByteArray := prog_6_method_3_code
def yX4_appendByte : MethodName := ⟨RX4, "appendByte", "(I)V"⟩
abbrev cX4_shorten : ByteArray := prog_6_method_4_code
def yX4_shorten : MethodName := ⟨RX4, "shorten", "(I)V"⟩
abbrev cX4_byteAt : ByteArray := prog_6_method_5_code
def yX4_byteAt : MethodName := ⟨RX4, "byteAt", "(I)I"⟩
abbrev cX4_isLetter : ByteArray := prog_6_method_6_code
def yX4_isLetter : MethodName := ⟨RX4, "isLetter", "(I)Z"⟩
abbrev cX4_isDigit : ByteArray := prog_6_method_7_code
def yX4_isDigit : MethodName := ⟨RX4, "isDigit", "(I)Z"⟩
abbrev cX4_behindBlanks : ByteArray := prog_6_method_8_code
def yX4_behindBlanks : MethodName := ⟨RX4, "behindBlanks", "(I)I"⟩
abbrev cX4_behindToken : ByteArray := prog_6_method_9_code
def yX4_behindToken : MethodName := ⟨RX4, "behindToken", "(I)I"⟩
abbrev cX4_spells : ByteArray := prog_6_method_10_code
def yX4_spells : MethodName := ⟨RX4, "spells", "(IILjava/lang/String;)Z"⟩
abbrev cX4_cellSpelled : ByteArray := prog_6_method_11_code
def yX4_cellSpelled : MethodName := ⟨RX4, "cellSpelled", "(II)I"⟩
def RX5 : String := "HexCabinet$Teacher"
def TX5 : u_T := fun k => match k with
  | _ => ("HexCabinet$Teacher", "errorPosition", "I", false)
def tyX5 : Nat → FieldType := fun k => match k with
  | _ => .int
abbrev wsX50 : List Cond := u_ws RX5 TX5 1
theorem nmX5 : ∀ a, a < 1 → ∀ b, b < 1 → a ≠ b → (TX5 a).2.1 ≠ (TX5 b).2.1 := by decide +kernel
theorem tyX5_ok : ∀ k, k < 1 → parseFieldDescriptor (TX5 k).2.2.1 = some (tyX5 k) := by decide +kernel
abbrev cX5_init : ByteArray := prog_7_method_1_code
def yX5_init : MethodName := ⟨RX5, "<init>", "()V"⟩
abbrev cX5_carryOut : ByteArray := prog_7_method_2_code
def yX5_carryOut : MethodName := ⟨RX5, "carryOut", "(LHexCabinet$Reader;LHexCabinet$Game;)I"⟩
abbrev cX5_put : ByteArray := prog_7_method_3_code
def yX5_put : MethodName := ⟨RX5, "put", "(LHexCabinet$Reader;LHexCabinet$Game;I)I"⟩
abbrev cX5_go : ByteArray := prog_7_method_4_code
def yX5_go : MethodName := ⟨RX5, "go", "(LHexCabinet$Reader;LHexCabinet$Game;I)I"⟩
abbrev cX5_fail : ByteArray := prog_7_method_5_code
def yX5_fail : MethodName := ⟨RX5, "fail", "(LHexCabinet$Reader;II)I"⟩
def RX6 : String := "HexCabinet$Walk"
def TX6 : u_T := fun k => match k with
  | 0 => ("HexCabinet$Walk", "empty", "LHexCabinet$Board;", true)
  | 1 => ("HexCabinet$Walk", "distances", "[I", true)
  | 2 => ("HexCabinet$Walk", "reached", "[I", true)
  | _ => ("HexCabinet$Walk", "reachedCount", "I", false)
def tyX6 : Nat → FieldType := fun k => match k with
  | 0 => .object "HexCabinet$Board"
  | 1 => .array .int
  | 2 => .array .int
  | _ => .int
abbrev wsX60 : List Cond := u_ws RX6 TX6 4
theorem nmX6 : ∀ a, a < 4 → ∀ b, b < 4 → a ≠ b → (TX6 a).2.1 ≠ (TX6 b).2.1 := by decide +kernel
theorem tyX6_ok : ∀ k, k < 4 → parseFieldDescriptor (TX6 k).2.2.1 = some (tyX6 k) := by decide +kernel
abbrev cX6_init : ByteArray := prog_8_method_1_code
def yX6_init : MethodName := ⟨RX6, "<init>", "()V"⟩
def RX7 : String := "HexCabinet"
def TX7 : u_T := fun k => match k with
  | 0 => ("HexCabinet", "tape", "LHexCabinet$Tape;", true)
  | 1 => ("HexCabinet", "reader", "LHexCabinet$Reader;", true)
  | 2 => ("HexCabinet", "teacher", "LHexCabinet$Teacher;", true)
  | 3 => ("HexCabinet", "walk", "LHexCabinet$Walk;", true)
  | 4 => ("HexCabinet", "game", "LHexCabinet$Game;", false)
  | 5 => ("HexCabinet", "draft", "LHexCabinet$Game;", false)
  | _ => ("HexCabinet", "errorPosition", "I", false)
def tyX7 : Nat → FieldType := fun k => match k with
  | 0 => .object "HexCabinet$Tape"
  | 1 => .object "HexCabinet$Reader"
  | 2 => .object "HexCabinet$Teacher"
  | 3 => .object "HexCabinet$Walk"
  | 4 => .object "HexCabinet$Game"
  | 5 => .object "HexCabinet$Game"
  | _ => .int
abbrev wsX70 : List Cond := u_ws RX7 TX7 7
theorem nmX7 : ∀ a, a < 7 → ∀ b, b < 7 → a ≠ b → (TX7 a).2.1 ≠ (TX7 b).2.1 := by decide +kernel
theorem tyX7_ok : ∀ k, k < 7 → parseFieldDescriptor (TX7 k).2.2.1 = some (tyX7 k) := by decide +kernel
abbrev cX7_init : ByteArray := prog_1_method_1_code
def yX7_init : MethodName := ⟨RX7, "<init>", "()V"⟩
abbrev cX7_feed : ByteArray := prog_1_method_2_code
def yX7_feed : MethodName := ⟨RX7, "feed", "(IIIII)I"⟩
abbrev cX7_trim : ByteArray := prog_1_method_3_code
def yX7_trim : MethodName := ⟨RX7, "trim", "(I)I"⟩
abbrev cX7_teach : ByteArray := prog_1_method_4_code
def yX7_teach : MethodName := ⟨RX7, "teach", "()I"⟩
abbrev cX7_count : ByteArray := prog_1_method_6_code
def yX7_count : MethodName := ⟨RX7, "count", "(I)I"⟩
abbrev cX7_cell : ByteArray := prog_1_method_7_code
def yX7_cell : MethodName := ⟨RX7, "cell", "(II)I"⟩
abbrev cX7_legal : ByteArray := prog_1_method_11_code
def yX7_legal : MethodName := ⟨RX7, "legal", "(II)Z"⟩
abbrev cX7_nth : ByteArray := prog_1_method_12_code
def yX7_nth : MethodName := ⟨RX7, "nth", "(I)I"⟩
abbrev cX7_move : ByteArray := prog_1_method_13_code
def yX7_move : MethodName := ⟨RX7, "move", "(III)I"⟩
abbrev cX7_back : ByteArray := prog_1_method_14_code
def yX7_back : MethodName := ⟨RX7, "back", "()I"⟩
abbrev cX7_lines : ByteArray := prog_1_method_15_code
def yX7_lines : MethodName := ⟨RX7, "lines", "(I)I"⟩
abbrev cX7_hanging : ByteArray := prog_1_method_18_code
def yX7_hanging : MethodName := ⟨RX7, "hanging", "(I)I"⟩
abbrev cX7_mean : ByteArray := prog_1_method_19_code
def yX7_mean : MethodName := ⟨RX7, "mean", "()D"⟩
abbrev cX7_digest : ByteArray := prog_1_method_20_code
def yX7_digest : MethodName := ⟨RX7, "digest", "()J"⟩
abbrev cX7_countOf : ByteArray := prog_1_method_21_code
def yX7_countOf : MethodName := ⟨RX7, "countOf", "(I)I"⟩
abbrev cX7_factOf : ByteArray := prog_1_method_22_code
def yX7_factOf : MethodName := ⟨RX7, "factOf", "(II)I"⟩
abbrev cX7_placeOf : ByteArray := prog_1_method_23_code
def yX7_placeOf : MethodName := ⟨RX7, "placeOf", "(I)I"⟩
abbrev cX7_cellOf : ByteArray := prog_1_method_24_code
def yX7_cellOf : MethodName := ⟨RX7, "cellOf", "(I)I"⟩
abbrev cX7_lowest : ByteArray := prog_1_method_25_code
def yX7_lowest : MethodName := ⟨RX7, "lowest", "(I)I"⟩
abbrev cX7_columnSize : ByteArray := prog_1_method_26_code
def yX7_columnSize : MethodName := ⟨RX7, "columnSize", "(I)I"⟩
abbrev cX7_cellNamed : ByteArray := prog_1_method_27_code
def yX7_cellNamed : MethodName := ⟨RX7, "cellNamed", "(II)I"⟩
abbrev cX7_colourOf : ByteArray := prog_1_method_29_code
def yX7_colourOf : MethodName := ⟨RX7, "colourOf", "(I)I"⟩
abbrev cX7_isCell : ByteArray := prog_1_method_30_code
def yX7_isCell : MethodName := ⟨RX7, "isCell", "(I)Z"⟩
abbrev cX7_valueOf : ByteArray := prog_1_method_31_code
def yX7_valueOf : MethodName := ⟨RX7, "valueOf", "(II)I"⟩
abbrev cX7_kindOf : ByteArray := prog_1_method_32_code
def yX7_kindOf : MethodName := ⟨RX7, "kindOf", "(I)I"⟩
abbrev cX7_sideOf : ByteArray := prog_1_method_33_code
def yX7_sideOf : MethodName := ⟨RX7, "sideOf", "(I)I"⟩
abbrev cX7_worthOfKind : ByteArray := prog_1_method_34_code
def yX7_worthOfKind : MethodName := ⟨RX7, "worthOfKind", "(I)I"⟩
abbrev cX7_forward : ByteArray := prog_1_method_35_code
def yX7_forward : MethodName := ⟨RX7, "forward", "(I)I"⟩
abbrev cX7_xOf : ByteArray := prog_1_method_36_code
def yX7_xOf : MethodName := ⟨RX7, "xOf", "(I)I"⟩
abbrev cX7_yOf : ByteArray := prog_1_method_37_code
def yX7_yOf : MethodName := ⟨RX7, "yOf", "(I)I"⟩
abbrev cX7_isFirstPlace : ByteArray := prog_1_method_38_code
def yX7_isFirstPlace : MethodName := ⟨RX7, "isFirstPlace", "(II)Z"⟩
abbrev cX7_stepsOf : ByteArray := prog_1_method_39_code
def yX7_stepsOf : MethodName := ⟨RX7, "stepsOf", "(I)[I"⟩
abbrev cX7_firstStepOf : ByteArray := prog_1_method_40_code
def yX7_firstStepOf : MethodName := ⟨RX7, "firstStepOf", "(I)I"⟩
abbrev cX7_lastStepOf : ByteArray := prog_1_method_41_code
def yX7_lastStepOf : MethodName := ⟨RX7, "lastStepOf", "(I)I"⟩
abbrev cX7_goesBy : ByteArray := prog_1_method_42_code
def yX7_goesBy : MethodName := ⟨RX7, "goesBy", "(IIZ)Z"⟩
abbrev cX7_reachOf : ByteArray := prog_1_method_43_code
def yX7_reachOf : MethodName := ⟨RX7, "reachOf", "(I)I"⟩
def RX8 : String := "HexCabinetLaw$Sim"
def TX8 : u_T := fun k => match k with
  | 0 => ("HexCabinetLaw$Sim", "board", "[I", false)
  | 1 => ("HexCabinetLaw$Sim", "turn", "I", false)
  | 2 => ("HexCabinetLaw$Sim", "passing", "I", false)
  | 3 => ("HexCabinetLaw$Sim", "quiet", "I", false)
  | _ => ("HexCabinetLaw$Sim", "moves", "I", false)
def tyX8 : Nat → FieldType := fun k => match k with
  | 0 => .array .int
  | 1 => .int
  | 2 => .int
  | 3 => .int
  | _ => .int
abbrev wsX80 : List Cond := u_ws RX8 TX8 5
theorem nmX8 : ∀ a, a < 5 → ∀ b, b < 5 → a ≠ b → (TX8 a).2.1 ≠ (TX8 b).2.1 := by decide +kernel
theorem tyX8_ok : ∀ k, k < 5 → parseFieldDescriptor (TX8 k).2.2.1 = some (tyX8 k) := by decide +kernel
abbrev cX8_init : ByteArray := prog_10_method_1_code
def yX8_init : MethodName := ⟨RX8, "<init>", "()V"⟩
abbrev cX8_isOn : ByteArray := prog_10_method_2_code
def yX8_isOn : MethodName := ⟨RX8, "isOn", "(II)Z"⟩
abbrev cX8_copy : ByteArray := prog_10_method_3_code
def yX8_copy : MethodName := ⟨RX8, "copy", "()LHexCabinetLaw$Sim;"⟩
abbrev cX8_placeOf : ByteArray := prog_10_method_4_code
def yX8_placeOf : MethodName := ⟨RX8, "placeOf", "(I)I"⟩
abbrev cX8_cellOf : ByteArray := prog_10_method_5_code
def yX8_cellOf : MethodName := ⟨RX8, "cellOf", "(I)I"⟩
abbrev cX8_isOwn : ByteArray := prog_10_method_6_code
def yX8_isOwn : MethodName := ⟨RX8, "isOwn", "(II)Z"⟩
abbrev cX8_isFree : ByteArray := prog_10_method_7_code
def yX8_isFree : MethodName := ⟨RX8, "isFree", "(III)Z"⟩
abbrev cX8_attacks : ByteArray := prog_10_method_8_code
def yX8_attacks : MethodName := ⟨RX8, "attacks", "(II)Z"⟩
abbrev cX8_attackers : ByteArray := prog_10_method_9_code
def yX8_attackers : MethodName := ⟨RX8, "attackers", "(II)I"⟩
abbrev cX8_king : ByteArray := prog_10_method_10_code
def yX8_king : MethodName := ⟨RX8, "king", "(I)I"⟩
abbrev cX8_isPlayed : ByteArray := prog_10_method_11_code
def yX8_isPlayed : MethodName := ⟨RX8, "isPlayed", "()Z"⟩
abbrev cX8_isFirst : ByteArray := prog_10_method_12_code
def yX8_isFirst : MethodName := ⟨RX8, "isFirst", "(II)Z"⟩
abbrev cX8_isLast : ByteArray := prog_10_method_13_code
def yX8_isLast : MethodName := ⟨RX8, "isLast", "(II)Z"⟩
abbrev cX8_could : ByteArray := prog_10_method_14_code
def yX8_could : MethodName := ⟨RX8, "could", "(II)Z"⟩
abbrev cX8_go : ByteArray := prog_10_method_15_code
def yX8_go : MethodName := ⟨RX8, "go", "(III)I"⟩
abbrev cX8_isLegal : ByteArray := prog_10_method_16_code
def yX8_isLegal : MethodName := ⟨RX8, "isLegal", "(II)Z"⟩
abbrev cX8_all : ByteArray := prog_10_method_17_code
def yX8_all : MethodName := ⟨RX8, "all", "()[I"⟩
abbrev cX8_legal : ByteArray := prog_10_method_18_code
def yX8_legal : MethodName := ⟨RX8, "legal", "()[I"⟩
abbrev cX8_how : ByteArray := prog_10_method_19_code
def yX8_how : MethodName := ⟨RX8, "how", "()I"⟩
abbrev cX8_worth : ByteArray := prog_10_method_20_code
def yX8_worth : MethodName := ⟨RX8, "worth", "(I)I"⟩
abbrev cX8_worths : ByteArray := prog_10_method_21_code
def yX8_worths : MethodName := ⟨RX8, "worths", "(I)I"⟩
abbrev cX8_pieces : ByteArray := prog_10_method_22_code
def yX8_pieces : MethodName := ⟨RX8, "pieces", "(I)I"⟩
abbrev cX8_points : ByteArray := prog_10_method_23_code
def yX8_points : MethodName := ⟨RX8, "points", "(II)I"⟩
abbrev cX8_isSame : ByteArray := prog_10_method_24_code
def yX8_isSame : MethodName := ⟨RX8, "isSame", "(LHexCabinet;)Z"⟩
def RX9 : String := "HexCabinetModel"
def TX9 : u_T := fun k => match k with
  | _ => ("", "", "", false)
def tyX9 : Nat → FieldType := fun k => match k with
  | _ => .int
abbrev wsX90 : List Cond := u_ws RX9 TX9 0
theorem nmX9 : ∀ a, a < 0 → ∀ b, b < 0 → a ≠ b → (TX9 a).2.1 ≠ (TX9 b).2.1 := by decide +kernel
theorem tyX9_ok : ∀ k, k < 0 → parseFieldDescriptor (TX9 k).2.2.1 = some (tyX9 k) := by decide +kernel
def RJx145de : String := "java/io/Serializable"
def TJx145de : u_T := fun k => match k with
  | _ => ("", "", "", false)
def tyJx145de : Nat → FieldType := fun k => match k with
  | _ => .int
abbrev wsJx145de0 : List Cond := u_ws RJx145de TJx145de 0
theorem nmJx145de : ∀ a, a < 0 → ∀ b, b < 0 → a ≠ b → (TJx145de a).2.1 ≠ (TJx145de b).2.1 := by decide +kernel
theorem tyJx145de_ok : ∀ k, k < 0 → parseFieldDescriptor (TJx145de k).2.2.1 = some (tyJx145de k) := by decide +kernel
def RJ5 : String := "java/lang/AbstractStringBuilder"
def TJ5 : u_T := fun k => match k with
  | _ => ("", "", "", false)
def tyJ5 : Nat → FieldType := fun k => match k with
  | _ => .int
abbrev wsJ50 : List Cond := u_ws RJ5 TJ5 0
theorem nmJ5 : ∀ a, a < 0 → ∀ b, b < 0 → a ≠ b → (TJ5 a).2.1 ≠ (TJ5 b).2.1 := by decide +kernel
theorem tyJ5_ok : ∀ k, k < 0 → parseFieldDescriptor (TJ5 k).2.2.1 = some (tyJ5 k) := by decide +kernel
abbrev cJ5_init_d00df : ByteArray := prog_12_method_2_code
def yJ5_init_d00df : MethodName := ⟨RJ5, "<init>", "(I)V"⟩
abbrev cJ5_length_8abf5 : ByteArray := prog_12_method_6_code
def yJ5_length_8abf5 : MethodName := ⟨RJ5, "length", "()I"⟩
abbrev cJ5_ensureCapacityInternal_d00df : ByteArray := prog_12_method_9_code
def yJ5_ensureCapacityInternal_d00df : MethodName := ⟨RJ5, "ensureCapacityInternal", "(I)V"⟩
abbrev cJ5_newCapacity_0f7a4 : ByteArray := prog_12_method_10_code
def yJ5_newCapacity_0f7a4 : MethodName := ⟨RJ5, "newCapacity", "(I)I"⟩
abbrev cJ5_inflate_da8c8 : ByteArray := prog_12_method_11_code
def yJ5_inflate_da8c8 : MethodName := ⟨RJ5, "inflate", "()V"⟩
abbrev cJ5_append_cf1ce : ByteArray := prog_12_method_22_code
def yJ5_append_cf1ce : MethodName := ⟨RJ5, "append", "(Ljava/lang/String;)Ljava/lang/AbstractStringBuilder;"⟩
abbrev cJ5_appendNull_278bc : ByteArray := prog_12_method_26_code
def yJ5_appendNull_278bc : MethodName := ⟨RJ5, "appendNull", "()Ljava/lang/AbstractStringBuilder;"⟩
abbrev cJ5_append_3fe6f : ByteArray := prog_12_method_31_code
def yJ5_append_3fe6f : MethodName := ⟨RJ5, "append", "(C)Ljava/lang/AbstractStringBuilder;"⟩
abbrev cJ5_append_c97b9 : ByteArray := prog_12_method_32_code
def yJ5_append_c97b9 : MethodName := ⟨RJ5, "append", "(I)Ljava/lang/AbstractStringBuilder;"⟩
abbrev cJ5_getValue_6d5f1 : ByteArray := prog_12_method_64_code
def yJ5_getValue_6d5f1 : MethodName := ⟨RJ5, "getValue", "()[B"⟩
abbrev cJ5_isLatin1_aae02 : ByteArray := prog_12_method_68_code
def yJ5_isLatin1_aae02 : MethodName := ⟨RJ5, "isLatin1", "()Z"⟩
abbrev cJ5_inflateIfNeededFor_a7421 : ByteArray := prog_12_method_71_code
def yJ5_inflateIfNeededFor_a7421 : MethodName := ⟨RJ5, "inflateIfNeededFor", "(Ljava/lang/String;)V"⟩
abbrev cJ5_putStringAt_47b60 : ByteArray := prog_12_method_73_code
def yJ5_putStringAt_47b60 : MethodName := ⟨RJ5, "putStringAt", "(ILjava/lang/String;)V"⟩
def RJx2cfe8 : String := "java/lang/Appendable"
def TJx2cfe8 : u_T := fun k => match k with
  | _ => ("", "", "", false)
def tyJx2cfe8 : Nat → FieldType := fun k => match k with
  | _ => .int
abbrev wsJx2cfe80 : List Cond := u_ws RJx2cfe8 TJx2cfe8 0
theorem nmJx2cfe8 : ∀ a, a < 0 → ∀ b, b < 0 → a ≠ b → (TJx2cfe8 a).2.1 ≠ (TJx2cfe8 b).2.1 := by decide +kernel
theorem tyJx2cfe8_ok : ∀ k, k < 0 → parseFieldDescriptor (TJx2cfe8 k).2.2.1 = some (tyJx2cfe8 k) := by decide +kernel
def RJx9f9b0 : String := "java/lang/CharSequence"
def TJx9f9b0 : u_T := fun k => match k with
  | _ => ("", "", "", false)
def tyJx9f9b0 : Nat → FieldType := fun k => match k with
  | _ => .int
abbrev wsJx9f9b00 : List Cond := u_ws RJx9f9b0 TJx9f9b0 0
theorem nmJx9f9b0 : ∀ a, a < 0 → ∀ b, b < 0 → a ≠ b → (TJx9f9b0 a).2.1 ≠ (TJx9f9b0 b).2.1 := by decide +kernel
theorem tyJx9f9b0_ok : ∀ k, k < 0 → parseFieldDescriptor (TJx9f9b0 k).2.2.1 = some (tyJx9f9b0 k) := by decide +kernel
def RJx8e188 : String := "java/lang/Cloneable"
def TJx8e188 : u_T := fun k => match k with
  | _ => ("", "", "", false)
def tyJx8e188 : Nat → FieldType := fun k => match k with
  | _ => .int
abbrev wsJx8e1880 : List Cond := u_ws RJx8e188 TJx8e188 0
theorem nmJx8e188 : ∀ a, a < 0 → ∀ b, b < 0 → a ≠ b → (TJx8e188 a).2.1 ≠ (TJx8e188 b).2.1 := by decide +kernel
theorem tyJx8e188_ok : ∀ k, k < 0 → parseFieldDescriptor (TJx8e188 k).2.2.1 = some (tyJx8e188 k) := by decide +kernel
def RJxb160c : String := "java/lang/Comparable"
def TJxb160c : u_T := fun k => match k with
  | _ => ("", "", "", false)
def tyJxb160c : Nat → FieldType := fun k => match k with
  | _ => .int
abbrev wsJxb160c0 : List Cond := u_ws RJxb160c TJxb160c 0
theorem nmJxb160c : ∀ a, a < 0 → ∀ b, b < 0 → a ≠ b → (TJxb160c a).2.1 ≠ (TJxb160c b).2.1 := by decide +kernel
theorem tyJxb160c_ok : ∀ k, k < 0 → parseFieldDescriptor (TJxb160c k).2.2.1 = some (tyJxb160c k) := by decide +kernel
def RJx29ce0 : String := "java/lang/Enum"
def TJx29ce0 : u_T := fun k => match k with
  | _ => ("", "", "", false)
def tyJx29ce0 : Nat → FieldType := fun k => match k with
  | _ => .int
abbrev wsJx29ce00 : List Cond := u_ws RJx29ce0 TJx29ce0 0
theorem nmJx29ce0 : ∀ a, a < 0 → ∀ b, b < 0 → a ≠ b → (TJx29ce0 a).2.1 ≠ (TJx29ce0 b).2.1 := by decide +kernel
theorem tyJx29ce0_ok : ∀ k, k < 0 → parseFieldDescriptor (TJx29ce0 k).2.2.1 = some (tyJx29ce0 k) := by decide +kernel
def RJ6 : String := "java/lang/Integer"
def TJ6 : u_T := fun k => match k with
  | _ => ("", "", "", false)
def tyJ6 : Nat → FieldType := fun k => match k with
  | _ => .int
abbrev wsJ60 : List Cond := u_ws RJ6 TJ6 0
theorem nmJ6 : ∀ a, a < 0 → ∀ b, b < 0 → a ≠ b → (TJ6 a).2.1 ≠ (TJ6 b).2.1 := by decide +kernel
theorem tyJ6_ok : ∀ k, k < 0 → parseFieldDescriptor (TJ6 k).2.2.1 = some (tyJ6 k) := by decide +kernel
abbrev cJ6_getChars_ba4f3 : ByteArray := prog_19_method_12_code
def yJ6_getChars_ba4f3 : MethodName := ⟨RJ6, "getChars", "(II[B)I"⟩
abbrev cJ6_stringSize_0f7a4 : ByteArray := prog_19_method_13_code
def yJ6_stringSize_0f7a4 : MethodName := ⟨RJ6, "stringSize", "(I)I"⟩
def RJ9 : String := "java/lang/Math"
def TJ9 : u_T := fun k => match k with
  | _ => ("", "", "", false)
def tyJ9 : Nat → FieldType := fun k => match k with
  | _ => .int
abbrev wsJ90 : List Cond := u_ws RJ9 TJ9 0
theorem nmJ9 : ∀ a, a < 0 → ∀ b, b < 0 → a ≠ b → (TJ9 a).2.1 ≠ (TJ9 b).2.1 := by decide +kernel
theorem tyJ9_ok : ∀ k, k < 0 → parseFieldDescriptor (TJ9 k).2.2.1 = some (tyJ9 k) := by decide +kernel
abbrev cJ9_abs_0f7a4 : ByteArray := prog_20_method_59_code
def yJ9_abs_0f7a4 : MethodName := ⟨RJ9, "abs", "(I)I"⟩
abbrev cJ9_max_7cf53 : ByteArray := prog_20_method_65_code
def yJ9_max_7cf53 : MethodName := ⟨RJ9, "max", "(II)I"⟩
abbrev cJ9_min_7cf53 : ByteArray := prog_20_method_69_code
def yJ9_min_7cf53 : MethodName := ⟨RJ9, "min", "(II)I"⟩
def RJxd2413 : String := "java/lang/Number"
def TJxd2413 : u_T := fun k => match k with
  | _ => ("", "", "", false)
def tyJxd2413 : Nat → FieldType := fun k => match k with
  | _ => .int
abbrev wsJxd24130 : List Cond := u_ws RJxd2413 TJxd2413 0
theorem nmJxd2413 : ∀ a, a < 0 → ∀ b, b < 0 → a ≠ b → (TJxd2413 a).2.1 ≠ (TJxd2413 b).2.1 := by decide +kernel
theorem tyJxd2413_ok : ∀ k, k < 0 → parseFieldDescriptor (TJxd2413 k).2.2.1 = some (tyJxd2413 k) := by decide +kernel
def RJ0 : String := "java/lang/String"
def TJ0 : u_T := fun k => match k with
  | 0 => ("java/lang/String", "value", "[B", true)
  | 1 => ("java/lang/String", "coder", "B", true)
  | 2 => ("java/lang/String", "hash", "I", false)
  | _ => ("java/lang/String", "hashIsZero", "Z", false)
def tyJ0 : Nat → FieldType := fun k => match k with
  | 0 => .array .byte
  | 1 => .byte
  | 2 => .int
  | _ => .boolean
abbrev wsJ00 : List Cond := u_ws RJ0 TJ0 4
theorem nmJ0 : ∀ a, a < 4 → ∀ b, b < 4 → a ≠ b → (TJ0 a).2.1 ≠ (TJ0 b).2.1 := by decide +kernel
theorem tyJ0_ok : ∀ k, k < 4 → parseFieldDescriptor (TJ0 k).2.2.1 = some (tyJ0 k) := by decide +kernel
abbrev cJ0_init_81219 : ByteArray := prog_23_method_53_code
def yJ0_init_81219 : MethodName := ⟨RJ0, "<init>", "(Ljava/lang/StringBuilder;)V"⟩
abbrev cJ0_length_8abf5 : ByteArray := prog_23_method_54_code
def yJ0_length_8abf5 : MethodName := ⟨RJ0, "length", "()I"⟩
abbrev cJ0_charAt_5068e : ByteArray := prog_23_method_56_code
def yJ0_charAt_5068e : MethodName := ⟨RJ0, "charAt", "(I)C"⟩
abbrev cJ0_getBytes_840e7 : ByteArray := prog_23_method_147_code
def yJ0_getBytes_840e7 : MethodName := ⟨RJ0, "getBytes", "([BIB)V"⟩
abbrev cJ0_init_db425 : ByteArray := prog_23_method_150_code
def yJ0_init_db425 : MethodName := ⟨RJ0, "<init>", "(Ljava/lang/AbstractStringBuilder;Ljava/lang/Void;)V"⟩
abbrev cJ0_coder_7d493 : ByteArray := prog_23_method_152_code
def yJ0_coder_7d493 : MethodName := ⟨RJ0, "coder", "()B"⟩
abbrev cJ0_isLatin1_aae02 : ByteArray := prog_23_method_154_code
def yJ0_isLatin1_aae02 : MethodName := ⟨RJ0, "isLatin1", "()Z"⟩
abbrev cJ0_checkIndex_df160 : ByteArray := prog_23_method_155_code
def yJ0_checkIndex_df160 : MethodName := ⟨RJ0, "checkIndex", "(II)V"⟩
abbrev cJ0_checkBoundsOffCount_cabcc : ByteArray := prog_23_method_157_code
def yJ0_checkBoundsOffCount_cabcc : MethodName := ⟨RJ0, "checkBoundsOffCount", "(III)I"⟩
abbrev cJ0_checkBoundsBeginEnd_23922 : ByteArray := prog_23_method_158_code
def yJ0_checkBoundsBeginEnd_23922 : MethodName := ⟨RJ0, "checkBoundsBeginEnd", "(III)V"⟩
def RJ4 : String := "java/lang/StringBuilder"
def TJ4 : u_T := fun k => match k with
  | 0 => ("java/lang/AbstractStringBuilder", "value", "[B", false)
  | 1 => ("java/lang/AbstractStringBuilder", "coder", "B", false)
  | 2 => ("java/lang/AbstractStringBuilder", "maybeLatin1", "Z", false)
  | _ => ("java/lang/AbstractStringBuilder", "count", "I", false)
def tyJ4 : Nat → FieldType := fun k => match k with
  | 0 => .array .byte
  | 1 => .byte
  | 2 => .boolean
  | _ => .int
abbrev wsJ40 : List Cond := u_ws RJ4 TJ4 4
theorem nmJ4 : ∀ a, a < 4 → ∀ b, b < 4 → a ≠ b → (TJ4 a).2.1 ≠ (TJ4 b).2.1 := by decide +kernel
theorem tyJ4_ok : ∀ k, k < 4 → parseFieldDescriptor (TJ4 k).2.2.1 = some (tyJ4 k) := by decide +kernel
abbrev cJ4_init_da8c8 : ByteArray := prog_24_method_1_code
def yJ4_init_da8c8 : MethodName := ⟨RJ4, "<init>", "()V"⟩
abbrev cJ4_append_15ec4 : ByteArray := prog_24_method_7_code
def yJ4_append_15ec4 : MethodName := ⟨RJ4, "append", "(Ljava/lang/String;)Ljava/lang/StringBuilder;"⟩
abbrev cJ4_append_cf468 : ByteArray := prog_24_method_14_code
def yJ4_append_cf468 : MethodName := ⟨RJ4, "append", "(C)Ljava/lang/StringBuilder;"⟩
abbrev cJ4_append_bf812 : ByteArray := prog_24_method_15_code
def yJ4_append_bf812 : MethodName := ⟨RJ4, "append", "(I)Ljava/lang/StringBuilder;"⟩
abbrev cJ4_toString_0e30d : ByteArray := prog_24_method_42_code
def yJ4_toString_0e30d : MethodName := ⟨RJ4, "toString", "()Ljava/lang/String;"⟩
abbrev cJ4_length_8abf5 : ByteArray := prog_24_method_93_code
def yJ4_length_8abf5 : MethodName := ⟨RJ4, "length", "()I"⟩
def RJ1 : String := "java/lang/StringLatin1"
def TJ1 : u_T := fun k => match k with
  | _ => ("", "", "", false)
def tyJ1 : Nat → FieldType := fun k => match k with
  | _ => .int
abbrev wsJ10 : List Cond := u_ws RJ1 TJ1 0
theorem nmJ1 : ∀ a, a < 0 → ∀ b, b < 0 → a ≠ b → (TJ1 a).2.1 ≠ (TJ1 b).2.1 := by decide +kernel
theorem tyJ1_ok : ∀ k, k < 0 → parseFieldDescriptor (TJ1 k).2.2.1 = some (tyJ1 k) := by decide +kernel
abbrev cJ1_charAt_3b067 : ByteArray := prog_25_method_2_code
def yJ1_charAt_3b067 : MethodName := ⟨RJ1, "charAt", "([BI)C"⟩
abbrev cJ1_canEncode_fc78d : ByteArray := prog_25_method_3_code
def yJ1_canEncode_fc78d : MethodName := ⟨RJ1, "canEncode", "(C)Z"⟩
abbrev cJ1_inflate_0e8fd : ByteArray := prog_25_method_50_code
def yJ1_inflate_0e8fd : MethodName := ⟨RJ1, "inflate", "([BI[BII)V"⟩
def RJ2 : String := "java/lang/StringUTF16"
def TJ2 : u_T := fun k => match k with
  | _ => ("", "", "", false)
def tyJ2 : Nat → FieldType := fun k => match k with
  | _ => .int
abbrev wsJ20 : List Cond := u_ws RJ2 TJ2 0
theorem nmJ2 : ∀ a, a < 0 → ∀ b, b < 0 → a ≠ b → (TJ2 a).2.1 ≠ (TJ2 b).2.1 := by decide +kernel
theorem tyJ2_ok : ∀ k, k < 0 → parseFieldDescriptor (TJ2 k).2.2.1 = some (tyJ2 k) := by decide +kernel
abbrev cJ2_newBytesFor_77867 : ByteArray := prog_26_method_2_code
def yJ2_newBytesFor_77867 : MethodName := ⟨RJ2, "newBytesFor", "(I)[B"⟩
abbrev cJ2_newBytesLength_0f7a4 : ByteArray := prog_26_method_3_code
def yJ2_newBytesLength_0f7a4 : MethodName := ⟨RJ2, "newBytesLength", "(I)I"⟩
abbrev cJ2_putChar_b72d1 : ByteArray := prog_26_method_4_code
def yJ2_putChar_b72d1 : MethodName := ⟨RJ2, "putChar", "([BII)V"⟩
abbrev cJ2_getChar_3b067 : ByteArray := prog_26_method_5_code
def yJ2_getChar_3b067 : MethodName := ⟨RJ2, "getChar", "([BI)C"⟩
abbrev cJ2_length_9d52b : ByteArray := prog_26_method_6_code
def yJ2_length_9d52b : MethodName := ⟨RJ2, "length", "([B)I"⟩
abbrev cJ2_coderFromArrayLen_85cad : ByteArray := prog_26_method_15_code
def yJ2_coderFromArrayLen_85cad : MethodName := ⟨RJ2, "coderFromArrayLen", "([BI)B"⟩
abbrev cJ2_compress_39247 : ByteArray := prog_26_method_17_code
def yJ2_compress_39247 : MethodName := ⟨RJ2, "compress", "([BII)[B"⟩
abbrev cJ2_compress_5af95 : ByteArray := prog_26_method_22_code
def yJ2_compress_5af95 : MethodName := ⟨RJ2, "compress", "([BI[BII)I"⟩
abbrev cJ2_putCharSB_b72d1 : ByteArray := prog_26_method_71_code
def yJ2_putCharSB_b72d1 : MethodName := ⟨RJ2, "putCharSB", "([BII)V"⟩
abbrev cJ2_getChars_46870 : ByteArray := prog_26_method_77_code
def yJ2_getChars_46870 : MethodName := ⟨RJ2, "getChars", "(III[B)I"⟩
abbrev cJ2_putCharsAt_cd4e5 : ByteArray := prog_26_method_81_code
def yJ2_putCharsAt_cd4e5 : MethodName := ⟨RJ2, "putCharsAt", "([BICCCC)I"⟩
abbrev cJ2_charAt_3b067 : ByteArray := prog_26_method_83_code
def yJ2_charAt_3b067 : MethodName := ⟨RJ2, "charAt", "([BI)C"⟩
abbrev cJ2_inflate_0e8fd : ByteArray := prog_26_method_86_code
def yJ2_inflate_0e8fd : MethodName := ⟨RJ2, "inflate", "([BI[BII)V"⟩
abbrev cJ2_getChars_ba4f3 : ByteArray := prog_26_method_89_code
def yJ2_getChars_ba4f3 : MethodName := ⟨RJ2, "getChars", "(II[B)I"⟩
abbrev cJ2_checkIndex_2214a : ByteArray := prog_26_method_91_code
def yJ2_checkIndex_2214a : MethodName := ⟨RJ2, "checkIndex", "(I[B)V"⟩
abbrev cJ2_checkBoundsBeginEnd_d044e : ByteArray := prog_26_method_93_code
def yJ2_checkBoundsBeginEnd_d044e : MethodName := ⟨RJ2, "checkBoundsBeginEnd", "(II[B)V"⟩
abbrev cJ2_checkBoundsOffCount_d044e : ByteArray := prog_26_method_94_code
def yJ2_checkBoundsOffCount_d044e : MethodName := ⟨RJ2, "checkBoundsOffCount", "(II[B)V"⟩
def RJ10 : String := "java/lang/System"
def TJ10 : u_T := fun k => match k with
  | _ => ("", "", "", false)
def tyJ10 : Nat → FieldType := fun k => match k with
  | _ => .int
abbrev wsJ100 : List Cond := u_ws RJ10 TJ10 0
theorem nmJ10 : ∀ a, a < 0 → ∀ b, b < 0 → a ≠ b → (TJ10 a).2.1 ≠ (TJ10 b).2.1 := by decide +kernel
theorem tyJ10_ok : ∀ k, k < 0 → parseFieldDescriptor (TJ10 k).2.2.1 = some (tyJ10 k) := by decide +kernel
def RJxfd54e : String := "java/lang/constant/Constable"
def TJxfd54e : u_T := fun k => match k with
  | _ => ("", "", "", false)
def tyJxfd54e : Nat → FieldType := fun k => match k with
  | _ => .int
abbrev wsJxfd54e0 : List Cond := u_ws RJxfd54e TJxfd54e 0
theorem nmJxfd54e : ∀ a, a < 0 → ∀ b, b < 0 → a ≠ b → (TJxfd54e a).2.1 ≠ (TJxfd54e b).2.1 := by decide +kernel
theorem tyJxfd54e_ok : ∀ k, k < 0 → parseFieldDescriptor (TJxfd54e k).2.2.1 = some (tyJxfd54e k) := by decide +kernel
def RJx3cf43 : String := "java/lang/constant/ConstantDesc"
def TJx3cf43 : u_T := fun k => match k with
  | _ => ("", "", "", false)
def tyJx3cf43 : Nat → FieldType := fun k => match k with
  | _ => .int
abbrev wsJx3cf430 : List Cond := u_ws RJx3cf43 TJx3cf43 0
theorem nmJx3cf43 : ∀ a, a < 0 → ∀ b, b < 0 → a ≠ b → (TJx3cf43 a).2.1 ≠ (TJx3cf43 b).2.1 := by decide +kernel
theorem tyJx3cf43_ok : ∀ k, k < 0 → parseFieldDescriptor (TJx3cf43 k).2.2.1 = some (tyJx3cf43 k) := by decide +kernel
def RJ7 : String := "java/util/Arrays"
def TJ7 : u_T := fun k => match k with
  | _ => ("", "", "", false)
def tyJ7 : Nat → FieldType := fun k => match k with
  | _ => .int
abbrev wsJ70 : List Cond := u_ws RJ7 TJ7 0
theorem nmJ7 : ∀ a, a < 0 → ∀ b, b < 0 → a ≠ b → (TJ7 a).2.1 ≠ (TJ7 b).2.1 := by decide +kernel
theorem tyJ7_ok : ∀ k, k < 0 → parseFieldDescriptor (TJ7 k).2.2.1 = some (tyJ7 k) := by decide +kernel
abbrev cJ7_fill_53178 : ByteArray := prog_29_method_103_code
def yJ7_fill_53178 : MethodName := ⟨RJ7, "fill", "([II)V"⟩
abbrev cJ7_copyOf_9075b : ByteArray := prog_29_method_121_code
def yJ7_copyOf_9075b : MethodName := ⟨RJ7, "copyOf", "([BI)[B"⟩
abbrev cJ7_checkLength_df160 : ByteArray := prog_29_method_131_code
def yJ7_checkLength_df160 : MethodName := ⟨RJ7, "checkLength", "(II)V"⟩
abbrev cJ7_copyOfRange_39247 : ByteArray := prog_29_method_132_code
def yJ7_copyOfRange_39247 : MethodName := ⟨RJ7, "copyOfRange", "([BII)[B"⟩
abbrev cJ7_copyOfRangeByte_39247 : ByteArray := prog_29_method_133_code
def yJ7_copyOfRangeByte_39247 : MethodName := ⟨RJ7, "copyOfRangeByte", "([BII)[B"⟩
def RJ8 : String := "jdk/internal/util/ArraysSupport"
def TJ8 : u_T := fun k => match k with
  | _ => ("", "", "", false)
def tyJ8 : Nat → FieldType := fun k => match k with
  | _ => .int
abbrev wsJ80 : List Cond := u_ws RJ8 TJ8 0
theorem nmJ8 : ∀ a, a < 0 → ∀ b, b < 0 → a ≠ b → (TJ8 a).2.1 ≠ (TJ8 b).2.1 := by decide +kernel
theorem tyJ8_ok : ∀ k, k < 0 → parseFieldDescriptor (TJ8 k).2.2.1 = some (tyJ8 k) := by decide +kernel
abbrev cJ8_newLength_cabcc : ByteArray := prog_30_method_27_code
def yJ8_newLength_cabcc : MethodName := ⟨RJ8, "newLength", "(III)I"⟩
abbrev cJ8_hugeLength_7cf53 : ByteArray := prog_30_method_28_code
def yJ8_hugeLength_7cf53 : MethodName := ⟨RJ8, "hugeLength", "(II)I"⟩
def RJ3 : String := "jdk/internal/util/Preconditions"
def TJ3 : u_T := fun k => match k with
  | _ => ("", "", "", false)
def tyJ3 : Nat → FieldType := fun k => match k with
  | _ => .int
abbrev wsJ30 : List Cond := u_ws RJ3 TJ3 0
theorem nmJ3 : ∀ a, a < 0 → ∀ b, b < 0 → a ≠ b → (TJ3 a).2.1 ≠ (TJ3 b).2.1 := by decide +kernel
theorem tyJ3_ok : ∀ k, k < 0 → parseFieldDescriptor (TJ3 k).2.2.1 = some (tyJ3 k) := by decide +kernel
abbrev cJ3_checkIndex_8e157 : ByteArray := prog_31_method_11_code
def yJ3_checkIndex_8e157 : MethodName := ⟨RJ3, "checkIndex", "(IILjava/util/function/BiFunction;)I"⟩
abbrev cJ3_checkFromToIndex_8c36e : ByteArray := prog_31_method_12_code
def yJ3_checkFromToIndex_8c36e : MethodName := ⟨RJ3, "checkFromToIndex", "(IIILjava/util/function/BiFunction;)I"⟩
abbrev cJ3_checkFromIndexSize_8c36e : ByteArray := prog_31_method_13_code
def yJ3_checkFromIndexSize_8c36e : MethodName := ⟨RJ3, "checkFromIndexSize", "(IIILjava/util/function/BiFunction;)I"⟩
def RL : String := "HexCabinetLaw"
abbrev cL_below : ByteArray := method_2_code
def yL_below : MethodName := ⟨RL, "below", "(II)I"⟩
abbrev cL_cell : ByteArray := method_3_code
def yL_cell : MethodName := ⟨RL, "cell", "([II)I"⟩
abbrev cL_taught : ByteArray := method_4_code
def yL_taught : MethodName := ⟨RL, "taught", "(LHexCabinet;Ljava/lang/String;)I"⟩
abbrev cL_nameOf : ByteArray := method_5_code
def yL_nameOf : MethodName := ⟨RL, "nameOf", "(I)Ljava/lang/String;"⟩
abbrev cL_list : ByteArray := method_6_code
def yL_list : MethodName := ⟨RL, "list", "([ILjava/lang/StringBuilder;)LHexCabinetLaw$Sim;"⟩
abbrev cL_setUp : ByteArray := method_7_code
def yL_setUp : MethodName := ⟨RL, "setUp", "(LHexCabinetLaw$Sim;)V"⟩
abbrev cL_goes : ByteArray := method_8_code
def yL_goes : MethodName := ⟨RL, "goes", "(LHexCabinet;LHexCabinetLaw$Sim;I)Z"⟩
abbrev cL_law : ByteArray := code
def yL_law : MethodName := ⟨RL, "law", "([I)Z"⟩
abbrev vwCl : List vw_C := [(RJ0, TJ0, 4), (RJ4, TJ4, 4), (RX0, TX0, 3), (RX1, TX1, 14), (RX2, TX2, 0), (RX3, TX3, 4), (RX4, TX4, 2), (RX5, TX5, 1), (RX6, TX6, 4), (RX7, TX7, 7), (RX8, TX8, 5)]
