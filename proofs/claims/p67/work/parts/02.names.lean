def RX0 : String := "DominoChains$History"
def TX0 : u_T := fun k => match k with
  | 0 => ("DominoChains$History", "kept", "[LDominoChains$State;", true)
  | 1 => ("DominoChains$History", "count", "I", false)
  | _ => ("DominoChains$History", "next", "I", false)
def tyX0 : Nat → FieldType := fun k => match k with
  | 0 => .array (.object "DominoChains$State")
  | 1 => .int
  | _ => .int
abbrev wsX00 : List Cond := u_ws RX0 TX0 3
theorem nmX0 : ∀ a, a < 3 → ∀ b, b < 3 → a ≠ b → (TX0 a).2.1 ≠ (TX0 b).2.1 := by decide +kernel
theorem tyX0_ok : ∀ k, k < 3 → parseFieldDescriptor (TX0 k).2.2.1 = some (tyX0 k) := by decide +kernel
abbrev cX0_init : ByteArray := prog_2_method_1_code
def yX0_init : MethodName := ⟨RX0, "<init>", "()V"⟩
abbrev cX0_clear : ByteArray := prog_2_method_2_code
def yX0_clear : MethodName := ⟨RX0, "clear", "()V"⟩
abbrev cX0_remember : ByteArray := prog_2_method_3_code
def yX0_remember : MethodName := ⟨RX0, "remember", "(LDominoChains$State;)V"⟩
abbrev cX0_slotAt : ByteArray := prog_2_method_5_code
def yX0_slotAt : MethodName := ⟨RX0, "slotAt", "(I)LDominoChains$State;"⟩
def RX1 : String := "DominoChains$Layout"
def TX1 : u_T := fun k => match k with
  | 0 => ("DominoChains$Layout", "rounds", "I", false)
  | 1 => ("DominoChains$Layout", "chains", "[I", true)
  | 2 => ("DominoChains$Layout", "lengths", "[I", true)
  | 3 => ("DominoChains$Layout", "lefts", "[I", true)
  | 4 => ("DominoChains$Layout", "rights", "[I", true)
  | _ => ("DominoChains$Layout", "points", "[I", true)
def tyX1 : Nat → FieldType := fun k => match k with
  | 0 => .int
  | 1 => .array .int
  | 2 => .array .int
  | 3 => .array .int
  | 4 => .array .int
  | _ => .array .int
abbrev wsX10 : List Cond := u_ws RX1 TX1 6
theorem nmX1 : ∀ a, a < 6 → ∀ b, b < 6 → a ≠ b → (TX1 a).2.1 ≠ (TX1 b).2.1 := by decide +kernel
theorem tyX1_ok : ∀ k, k < 6 → parseFieldDescriptor (TX1 k).2.2.1 = some (tyX1 k) := by decide +kernel
abbrev cX1_init : ByteArray := prog_3_method_1_code
def yX1_init : MethodName := ⟨RX1, "<init>", "()V"⟩
abbrev cX1_copyFrom : ByteArray := prog_3_method_2_code
def yX1_copyFrom : MethodName := ⟨RX1, "copyFrom", "(LDominoChains$Layout;)V"⟩
abbrev cX1_clear : ByteArray := prog_3_method_3_code
def yX1_clear : MethodName := ⟨RX1, "clear", "()V"⟩
abbrev cX1_openRound : ByteArray := prog_3_method_4_code
def yX1_openRound : MethodName := ⟨RX1, "openRound", "()V"⟩
abbrev cX1_openChain : ByteArray := prog_3_method_5_code
def yX1_openChain : MethodName := ⟨RX1, "openChain", "()V"⟩
abbrev cX1_addTile : ByteArray := prog_3_method_6_code
def yX1_addTile : MethodName := ⟨RX1, "addTile", "(II)V"⟩
abbrev cX1_lengthOf : ByteArray := prog_3_method_7_code
def yX1_lengthOf : MethodName := ⟨RX1, "lengthOf", "(II)I"⟩
abbrev cX1_slotOf : ByteArray := prog_3_method_8_code
def yX1_slotOf : MethodName := ⟨RX1, "slotOf", "(III)I"⟩
def RX2 : String := "DominoChains$Match"
def TX2 : u_T := fun k => match k with
  | 0 => ("DominoChains$Match", "layout", "LDominoChains$Layout;", true)
  | _ => ("DominoChains$Match", "state", "LDominoChains$State;", true)
def tyX2 : Nat → FieldType := fun k => match k with
  | 0 => .object "DominoChains$Layout"
  | _ => .object "DominoChains$State"
abbrev wsX20 : List Cond := u_ws RX2 TX2 2
theorem nmX2 : ∀ a, a < 2 → ∀ b, b < 2 → a ≠ b → (TX2 a).2.1 ≠ (TX2 b).2.1 := by decide +kernel
theorem tyX2_ok : ∀ k, k < 2 → parseFieldDescriptor (TX2 k).2.2.1 = some (tyX2 k) := by decide +kernel
abbrev cX2_init : ByteArray := prog_4_method_1_code
def yX2_init : MethodName := ⟨RX2, "<init>", "()V"⟩
abbrev cX2_copyFrom : ByteArray := prog_4_method_2_code
def yX2_copyFrom : MethodName := ⟨RX2, "copyFrom", "(LDominoChains$Match;)V"⟩
abbrev cX2_setUpFirst : ByteArray := prog_4_method_3_code
def yX2_setUpFirst : MethodName := ⟨RX2, "setUpFirst", "()V"⟩
abbrev cX2_beginMatch : ByteArray := prog_4_method_4_code
def yX2_beginMatch : MethodName := ⟨RX2, "beginMatch", "()V"⟩
abbrev cX2_beginRound : ByteArray := prog_4_method_5_code
def yX2_beginRound : MethodName := ⟨RX2, "beginRound", "(II)V"⟩
abbrev cX2_beginNext : ByteArray := prog_4_method_6_code
def yX2_beginNext : MethodName := ⟨RX2, "beginNext", "()V"⟩
abbrev cX2_isLastRound : ByteArray := prog_4_method_7_code
def yX2_isLastRound : MethodName := ⟨RX2, "isLastRound", "()Z"⟩
abbrev cX2_chainsNow : ByteArray := prog_4_method_8_code
def yX2_chainsNow : MethodName := ⟨RX2, "chainsNow", "()I"⟩
abbrev cX2_lengthNow : ByteArray := prog_4_method_9_code
def yX2_lengthNow : MethodName := ⟨RX2, "lengthNow", "(I)I"⟩
abbrev cX2_burnsNow : ByteArray := prog_4_method_10_code
def yX2_burnsNow : MethodName := ⟨RX2, "burnsNow", "()I"⟩
abbrev cX2_slotNow : ByteArray := prog_4_method_11_code
def yX2_slotNow : MethodName := ⟨RX2, "slotNow", "(II)I"⟩
abbrev cX2_leftNow : ByteArray := prog_4_method_12_code
def yX2_leftNow : MethodName := ⟨RX2, "leftNow", "(II)I"⟩
abbrev cX2_rightNow : ByteArray := prog_4_method_13_code
def yX2_rightNow : MethodName := ⟨RX2, "rightNow", "(II)I"⟩
abbrev cX2_pointsNow : ByteArray := prog_4_method_14_code
def yX2_pointsNow : MethodName := ⟨RX2, "pointsNow", "(II)I"⟩
abbrev cX2_pointsOfChain : ByteArray := prog_4_method_15_code
def yX2_pointsOfChain : MethodName := ⟨RX2, "pointsOfChain", "(I)I"⟩
abbrev cX2_scoreOf : ByteArray := prog_4_method_17_code
def yX2_scoreOf : MethodName := ⟨RX2, "scoreOf", "(II)I"⟩
abbrev cX2_scoreNow : ByteArray := prog_4_method_18_code
def yX2_scoreNow : MethodName := ⟨RX2, "scoreNow", "(I)I"⟩
abbrev cX2_movesNow : ByteArray := prog_4_method_23_code
def yX2_movesNow : MethodName := ⟨RX2, "movesNow", "()I"⟩
abbrev cX2_codeOfMove : ByteArray := prog_4_method_24_code
def yX2_codeOfMove : MethodName := ⟨RX2, "codeOfMove", "(I)I"⟩
abbrev cX2_pointsOfCode : ByteArray := prog_4_method_25_code
def yX2_pointsOfCode : MethodName := ⟨RX2, "pointsOfCode", "(I)I"⟩
abbrev cX2_greediestMove : ByteArray := prog_4_method_26_code
def yX2_greediestMove : MethodName := ⟨RX2, "greediestMove", "()I"⟩
abbrev cX2_play : ByteArray := prog_4_method_27_code
def yX2_play : MethodName := ⟨RX2, "play", "(I)V"⟩
abbrev cX2_takeEnd : ByteArray := prog_4_method_28_code
def yX2_takeEnd : MethodName := ⟨RX2, "takeEnd", "(I)V"⟩
def RX3 : String := "DominoChains$Parser"
def TX3 : u_T := fun k => match k with
  | 0 => ("DominoChains$Parser", "draft", "LDominoChains$Match;", true)
  | 1 => ("DominoChains$Parser", "scanner", "LDominoChains$Scanner;", true)
  | 2 => ("DominoChains$Parser", "seen", "[I", true)
  | 3 => ("DominoChains$Parser", "openRight", "I", false)
  | 4 => ("DominoChains$Parser", "faultKind", "I", false)
  | _ => ("DominoChains$Parser", "faultPosition", "I", false)
def tyX3 : Nat → FieldType := fun k => match k with
  | 0 => .object "DominoChains$Match"
  | 1 => .object "DominoChains$Scanner"
  | 2 => .array .int
  | 3 => .int
  | 4 => .int
  | _ => .int
abbrev wsX30 : List Cond := u_ws RX3 TX3 6
theorem nmX3 : ∀ a, a < 6 → ∀ b, b < 6 → a ≠ b → (TX3 a).2.1 ≠ (TX3 b).2.1 := by decide +kernel
theorem tyX3_ok : ∀ k, k < 6 → parseFieldDescriptor (TX3 k).2.2.1 = some (tyX3 k) := by decide +kernel
abbrev cX3_init : ByteArray := prog_5_method_1_code
def yX3_init : MethodName := ⟨RX3, "<init>", "()V"⟩
abbrev cX3_readRounds : ByteArray := prog_5_method_2_code
def yX3_readRounds : MethodName := ⟨RX3, "readRounds", "([II)Z"⟩
abbrev cX3_readMoves : ByteArray := prog_5_method_3_code
def yX3_readMoves : MethodName := ⟨RX3, "readMoves", "()Z"⟩
abbrev cX3_readRound : ByteArray := prog_5_method_4_code
def yX3_readRound : MethodName := ⟨RX3, "readRound", "()Z"⟩
abbrev cX3_readChain : ByteArray := prog_5_method_5_code
def yX3_readChain : MethodName := ⟨RX3, "readChain", "()Z"⟩
abbrev cX3_tileFault : ByteArray := prog_5_method_6_code
def yX3_tileFault : MethodName := ⟨RX3, "tileFault", "(I)I"⟩
abbrev cX3_takeTile : ByteArray := prog_5_method_7_code
def yX3_takeTile : MethodName := ⟨RX3, "takeTile", "(II)V"⟩
abbrev cX3_pairOf : ByteArray := prog_5_method_8_code
def yX3_pairOf : MethodName := ⟨RX3, "pairOf", "(II)I"⟩
abbrev cX3_readMove : ByteArray := prog_5_method_9_code
def yX3_readMove : MethodName := ⟨RX3, "readMove", "()Z"⟩
abbrev cX3_readBurn : ByteArray := prog_5_method_10_code
def yX3_readBurn : MethodName := ⟨RX3, "readBurn", "(Z)Z"⟩
abbrev cX3_readPass : ByteArray := prog_5_method_11_code
def yX3_readPass : MethodName := ⟨RX3, "readPass", "()Z"⟩
abbrev cX3_readNext : ByteArray := prog_5_method_12_code
def yX3_readNext : MethodName := ⟨RX3, "readNext", "()Z"⟩
abbrev cX3_readSemicolon : ByteArray := prog_5_method_13_code
def yX3_readSemicolon : MethodName := ⟨RX3, "readSemicolon", "()Z"⟩
abbrev cX3_fail : ByteArray := prog_5_method_14_code
def yX3_fail : MethodName := ⟨RX3, "fail", "(I)Z"⟩
def RX4 : String := "DominoChains$Scanner"
def TX4 : u_T := fun k => match k with
  | 0 => ("DominoChains$Scanner", "bytes", "[I", true)
  | 1 => ("DominoChains$Scanner", "end", "I", false)
  | 2 => ("DominoChains$Scanner", "kind", "I", false)
  | 3 => ("DominoChains$Scanner", "start", "I", false)
  | _ => ("DominoChains$Scanner", "next", "I", false)
def tyX4 : Nat → FieldType := fun k => match k with
  | 0 => .array .int
  | 1 => .int
  | 2 => .int
  | 3 => .int
  | _ => .int
abbrev wsX40 : List Cond := u_ws RX4 TX4 5
theorem nmX4 : ∀ a, a < 5 → ∀ b, b < 5 → a ≠ b → (TX4 a).2.1 ≠ (TX4 b).2.1 := by decide +kernel
theorem tyX4_ok : ∀ k, k < 5 → parseFieldDescriptor (TX4 k).2.2.1 = some (tyX4 k) := by decide +kernel
abbrev cX4_init : ByteArray := prog_6_method_1_code
def yX4_init : MethodName := ⟨RX4, "<init>", "()V"⟩
abbrev cX4_open : ByteArray := prog_6_method_2_code
def yX4_open : MethodName := ⟨RX4, "open", "([II)V"⟩
abbrev cX4_step : ByteArray := prog_6_method_3_code
def yX4_step : MethodName := ⟨RX4, "step", "()V"⟩
abbrev cX4_isWord : ByteArray := prog_6_method_4_code
def yX4_isWord : MethodName := ⟨RX4, "isWord", "(Ljava/lang/String;)Z"⟩
abbrev cX4_isRun : ByteArray := prog_6_method_5_code
def yX4_isRun : MethodName := ⟨RX4, "isRun", "(I)Z"⟩
abbrev cX4_digit : ByteArray := prog_6_method_6_code
def yX4_digit : MethodName := ⟨RX4, "digit", "(I)I"⟩
abbrev cX4_isBlank : ByteArray := prog_6_method_7_code
def yX4_isBlank : MethodName := ⟨RX4, "isBlank", "(I)Z"⟩
abbrev cX4_kindOf : ByteArray := prog_6_method_8_code
def yX4_kindOf : MethodName := ⟨RX4, "kindOf", "(I)I"⟩
def RX5 : String := "DominoChains$Solver"
def TX5 : u_T := fun k => match k with
  | 0 => ("DominoChains$Solver", "lowOfSpan", "[I", true)
  | 1 => ("DominoChains$Solver", "highOfSpan", "[I", true)
  | 2 => ("DominoChains$Solver", "points", "[I", true)
  | 3 => ("DominoChains$Solver", "spanCounts", "[I", true)
  | 4 => ("DominoChains$Solver", "weights", "[I", true)
  | 5 => ("DominoChains$Solver", "spans", "[I", true)
  | 6 => ("DominoChains$Solver", "optimal", "[I", true)
  | 7 => ("DominoChains$Solver", "ahead", "[I", true)
  | 8 => ("DominoChains$Solver", "behind", "[I", true)
  | 9 => ("DominoChains$Solver", "positions", "I", false)
  | 10 => ("DominoChains$Solver", "shapedRound", "I", false)
  | 11 => ("DominoChains$Solver", "hasOptimal", "Z", false)
  | _ => ("DominoChains$Solver", "hasGreedy", "Z", false)
def tyX5 : Nat → FieldType := fun k => match k with
  | 0 => .array .int
  | 1 => .array .int
  | 2 => .array .int
  | 3 => .array .int
  | 4 => .array .int
  | 5 => .array .int
  | 6 => .array .int
  | 7 => .array .int
  | 8 => .array .int
  | 9 => .int
  | 10 => .int
  | 11 => .boolean
  | _ => .boolean
abbrev wsX50 : List Cond := u_ws RX5 TX5 13
theorem nmX5 : ∀ a, a < 13 → ∀ b, b < 13 → a ≠ b → (TX5 a).2.1 ≠ (TX5 b).2.1 := by decide +kernel
theorem tyX5_ok : ∀ k, k < 13 → parseFieldDescriptor (TX5 k).2.2.1 = some (tyX5 k) := by decide +kernel
abbrev cX5_init : ByteArray := prog_7_method_1_code
def yX5_init : MethodName := ⟨RX5, "<init>", "()V"⟩
abbrev cX5_forget : ByteArray := prog_7_method_2_code
def yX5_forget : MethodName := ⟨RX5, "forget", "()V"⟩
abbrev cX5_solveOptimal : ByteArray := prog_7_method_3_code
def yX5_solveOptimal : MethodName := ⟨RX5, "solveOptimal", "(LDominoChains$Match;)V"⟩
abbrev cX5_solveGreedy : ByteArray := prog_7_method_4_code
def yX5_solveGreedy : MethodName := ⟨RX5, "solveGreedy", "(LDominoChains$Match;)V"⟩
abbrev cX5_optimalOf : ByteArray := prog_7_method_5_code
def yX5_optimalOf : MethodName := ⟨RX5, "optimalOf", "(LDominoChains$Match;)I"⟩
abbrev cX5_optimalOfChain : ByteArray := prog_7_method_6_code
def yX5_optimalOfChain : MethodName := ⟨RX5, "optimalOfChain", "(LDominoChains$Match;I)I"⟩
abbrev cX5_valueOf : ByteArray := prog_7_method_7_code
def yX5_valueOf : MethodName := ⟨RX5, "valueOf", "(LDominoChains$Match;I)I"⟩
abbrev cX5_againstGreedy : ByteArray := prog_7_method_8_code
def yX5_againstGreedy : MethodName := ⟨RX5, "againstGreedy", "(LDominoChains$Match;)I"⟩
abbrev cX5_behindGreedy : ByteArray := prog_7_method_9_code
def yX5_behindGreedy : MethodName := ⟨RX5, "behindGreedy", "(LDominoChains$Match;)I"⟩
abbrev cX5_shape : ByteArray := prog_7_method_10_code
def yX5_shape : MethodName := ⟨RX5, "shape", "(LDominoChains$Match;)V"⟩
abbrev cX5_spanOf : ByteArray := prog_7_method_11_code
def yX5_spanOf : MethodName := ⟨RX5, "spanOf", "(II)I"⟩
abbrev cX5_placeAt : ByteArray := prog_7_method_12_code
def yX5_placeAt : MethodName := ⟨RX5, "placeAt", "(LDominoChains$Match;)I"⟩
abbrev cX5_startWalk : ByteArray := prog_7_method_13_code
def yX5_startWalk : MethodName := ⟨RX5, "startWalk", "()V"⟩
abbrev cX5_stepWalk : ByteArray := prog_7_method_14_code
def yX5_stepWalk : MethodName := ⟨RX5, "stepWalk", "()V"⟩
abbrev cX5_isBurnable : ByteArray := prog_7_method_15_code
def yX5_isBurnable : MethodName := ⟨RX5, "isBurnable", "(I)Z"⟩
abbrev cX5_leftPoints : ByteArray := prog_7_method_16_code
def yX5_leftPoints : MethodName := ⟨RX5, "leftPoints", "(I)I"⟩
abbrev cX5_rightPoints : ByteArray := prog_7_method_17_code
def yX5_rightPoints : MethodName := ⟨RX5, "rightPoints", "(I)I"⟩
abbrev cX5_afterLeft : ByteArray := prog_7_method_18_code
def yX5_afterLeft : MethodName := ⟨RX5, "afterLeft", "(II)I"⟩
abbrev cX5_afterRight : ByteArray := prog_7_method_19_code
def yX5_afterRight : MethodName := ⟨RX5, "afterRight", "(II)I"⟩
abbrev cX5_optimalHere : ByteArray := prog_7_method_20_code
def yX5_optimalHere : MethodName := ⟨RX5, "optimalHere", "(I)I"⟩
abbrev cX5_leftValue : ByteArray := prog_7_method_21_code
def yX5_leftValue : MethodName := ⟨RX5, "leftValue", "(II)I"⟩
abbrev cX5_rightValue : ByteArray := prog_7_method_22_code
def yX5_rightValue : MethodName := ⟨RX5, "rightValue", "(II)I"⟩
abbrev cX5_aheadHere : ByteArray := prog_7_method_23_code
def yX5_aheadHere : MethodName := ⟨RX5, "aheadHere", "(II)I"⟩
abbrev cX5_behindHere : ByteArray := prog_7_method_24_code
def yX5_behindHere : MethodName := ⟨RX5, "behindHere", "(I)I"⟩
def RX6 : String := "DominoChains$State"
def TX6 : u_T := fun k => match k with
  | 0 => ("DominoChains$State", "round", "I", false)
  | 1 => ("DominoChains$State", "starter", "I", false)
  | 2 => ("DominoChains$State", "mover", "I", false)
  | 3 => ("DominoChains$State", "passesInARow", "I", false)
  | 4 => ("DominoChains$State", "over", "Z", false)
  | 5 => ("DominoChains$State", "logged", "I", false)
  | 6 => ("DominoChains$State", "first", "[I", true)
  | 7 => ("DominoChains$State", "last", "[I", true)
  | 8 => ("DominoChains$State", "scores", "[I", true)
  | 9 => ("DominoChains$State", "burnt", "[I", true)
  | 10 => ("DominoChains$State", "passed", "[I", true)
  | 11 => ("DominoChains$State", "logCodes", "[I", true)
  | _ => ("DominoChains$State", "logPoints", "[I", true)
def tyX6 : Nat → FieldType := fun k => match k with
  | 0 => .int
  | 1 => .int
  | 2 => .int
  | 3 => .int
  | 4 => .boolean
  | 5 => .int
  | 6 => .array .int
  | 7 => .array .int
  | 8 => .array .int
  | 9 => .array .int
  | 10 => .array .int
  | 11 => .array .int
  | _ => .array .int
abbrev wsX60 : List Cond := u_ws RX6 TX6 13
theorem nmX6 : ∀ a, a < 13 → ∀ b, b < 13 → a ≠ b → (TX6 a).2.1 ≠ (TX6 b).2.1 := by decide +kernel
theorem tyX6_ok : ∀ k, k < 13 → parseFieldDescriptor (TX6 k).2.2.1 = some (tyX6 k) := by decide +kernel
abbrev cX6_init : ByteArray := prog_8_method_1_code
def yX6_init : MethodName := ⟨RX6, "<init>", "()V"⟩
abbrev cX6_copyFrom : ByteArray := prog_8_method_2_code
def yX6_copyFrom : MethodName := ⟨RX6, "copyFrom", "(LDominoChains$State;)V"⟩
abbrev cX6_clearCounts : ByteArray := prog_8_method_3_code
def yX6_clearCounts : MethodName := ⟨RX6, "clearCounts", "()V"⟩
abbrev cX6_log : ByteArray := prog_8_method_4_code
def yX6_log : MethodName := ⟨RX6, "log", "(II)V"⟩
def RX7 : String := "DominoChains$Text"
def TX7 : u_T := fun k => match k with
  | 0 => ("DominoChains$Text", "signs", "[I", true)
  | _ => ("DominoChains$Text", "length", "I", false)
def tyX7 : Nat → FieldType := fun k => match k with
  | 0 => .array .int
  | _ => .int
abbrev wsX70 : List Cond := u_ws RX7 TX7 2
theorem nmX7 : ∀ a, a < 2 → ∀ b, b < 2 → a ≠ b → (TX7 a).2.1 ≠ (TX7 b).2.1 := by decide +kernel
theorem tyX7_ok : ∀ k, k < 2 → parseFieldDescriptor (TX7 k).2.2.1 = some (tyX7 k) := by decide +kernel
abbrev cX7_init : ByteArray := prog_9_method_1_code
def yX7_init : MethodName := ⟨RX7, "<init>", "()V"⟩
def RX8 : String := "DominoChains"
def TX8 : u_T := fun k => match k with
  | 0 => ("DominoChains", "input", "[I", true)
  | 1 => ("DominoChains", "inputLength", "I", false)
  | 2 => ("DominoChains", "faultKind", "I", false)
  | 3 => ("DominoChains", "faultPosition", "I", false)
  | 4 => ("DominoChains", "parser", "LDominoChains$Parser;", true)
  | 5 => ("DominoChains", "match", "LDominoChains$Match;", true)
  | 6 => ("DominoChains", "trial", "LDominoChains$Match;", true)
  | 7 => ("DominoChains", "solver", "LDominoChains$Solver;", true)
  | 8 => ("DominoChains", "history", "LDominoChains$History;", true)
  | 9 => ("DominoChains", "saved", "LDominoChains$State;", true)
  | 10 => ("DominoChains", "hasSaved", "Z", false)
  | _ => ("DominoChains", "text", "LDominoChains$Text;", true)
def tyX8 : Nat → FieldType := fun k => match k with
  | 0 => .array .int
  | 1 => .int
  | 2 => .int
  | 3 => .int
  | 4 => .object "DominoChains$Parser"
  | 5 => .object "DominoChains$Match"
  | 6 => .object "DominoChains$Match"
  | 7 => .object "DominoChains$Solver"
  | 8 => .object "DominoChains$History"
  | 9 => .object "DominoChains$State"
  | 10 => .boolean
  | _ => .object "DominoChains$Text"
abbrev wsX80 : List Cond := u_ws RX8 TX8 12
theorem nmX8 : ∀ a, a < 12 → ∀ b, b < 12 → a ≠ b → (TX8 a).2.1 ≠ (TX8 b).2.1 := by decide +kernel
theorem tyX8_ok : ∀ k, k < 12 → parseFieldDescriptor (TX8 k).2.2.1 = some (tyX8 k) := by decide +kernel
abbrev cX8_init : ByteArray := prog_1_method_1_code
def yX8_init : MethodName := ⟨RX8, "<init>", "()V"⟩
abbrev cX8_append : ByteArray := prog_1_method_2_code
def yX8_append : MethodName := ⟨RX8, "append", "(IIIII)I"⟩
abbrev cX8_addWord : ByteArray := prog_1_method_3_code
def yX8_addWord : MethodName := ⟨RX8, "addWord", "(I)V"⟩
abbrev cX8_truncate : ByteArray := prog_1_method_4_code
def yX8_truncate : MethodName := ⟨RX8, "truncate", "(I)V"⟩
abbrev cX8_load : ByteArray := prog_1_method_5_code
def yX8_load : MethodName := ⟨RX8, "load", "()I"⟩
abbrev cX8_roundCount : ByteArray := prog_1_method_8_code
def yX8_roundCount : MethodName := ⟨RX8, "roundCount", "()I"⟩
abbrev cX8_currentRound : ByteArray := prog_1_method_9_code
def yX8_currentRound : MethodName := ⟨RX8, "currentRound", "()I"⟩
abbrev cX8_isRoundOver : ByteArray := prog_1_method_10_code
def yX8_isRoundOver : MethodName := ⟨RX8, "isRoundOver", "()Z"⟩
abbrev cX8_playerToMove : ByteArray := prog_1_method_15_code
def yX8_playerToMove : MethodName := ⟨RX8, "playerToMove", "()I"⟩
abbrev cX8_roundScore : ByteArray := prog_1_method_16_code
def yX8_roundScore : MethodName := ⟨RX8, "roundScore", "(II)I"⟩
abbrev cX8_chainCount : ByteArray := prog_1_method_21_code
def yX8_chainCount : MethodName := ⟨RX8, "chainCount", "()I"⟩
abbrev cX8_chainLength : ByteArray := prog_1_method_22_code
def yX8_chainLength : MethodName := ⟨RX8, "chainLength", "(I)I"⟩
abbrev cX8_leftPips : ByteArray := prog_1_method_23_code
def yX8_leftPips : MethodName := ⟨RX8, "leftPips", "(II)I"⟩
abbrev cX8_rightPips : ByteArray := prog_1_method_24_code
def yX8_rightPips : MethodName := ⟨RX8, "rightPips", "(II)I"⟩
abbrev cX8_tileScore : ByteArray := prog_1_method_25_code
def yX8_tileScore : MethodName := ⟨RX8, "tileScore", "(II)I"⟩
abbrev cX8_chainScore : ByteArray := prog_1_method_26_code
def yX8_chainScore : MethodName := ⟨RX8, "chainScore", "(I)I"⟩
abbrev cX8_remainingScore : ByteArray := prog_1_method_27_code
def yX8_remainingScore : MethodName := ⟨RX8, "remainingScore", "()I"⟩
abbrev cX8_moveCount : ByteArray := prog_1_method_30_code
def yX8_moveCount : MethodName := ⟨RX8, "moveCount", "()I"⟩
abbrev cX8_isPass : ByteArray := prog_1_method_31_code
def yX8_isPass : MethodName := ⟨RX8, "isPass", "(I)Z"⟩
abbrev cX8_moveChain : ByteArray := prog_1_method_32_code
def yX8_moveChain : MethodName := ⟨RX8, "moveChain", "(I)I"⟩
abbrev cX8_isLeftBurn : ByteArray := prog_1_method_33_code
def yX8_isLeftBurn : MethodName := ⟨RX8, "isLeftBurn", "(I)Z"⟩
abbrev cX8_moveScore : ByteArray := prog_1_method_34_code
def yX8_moveScore : MethodName := ⟨RX8, "moveScore", "(I)I"⟩
abbrev cX8_highestEndScore : ByteArray := prog_1_method_38_code
def yX8_highestEndScore : MethodName := ⟨RX8, "highestEndScore", "()I"⟩
abbrev cX8_optimalDifference : ByteArray := prog_1_method_42_code
def yX8_optimalDifference : MethodName := ⟨RX8, "optimalDifference", "()I"⟩
abbrev cX8_moveValue : ByteArray := prog_1_method_43_code
def yX8_moveValue : MethodName := ⟨RX8, "moveValue", "(I)I"⟩
abbrev cX8_optimalMove : ByteArray := prog_1_method_44_code
def yX8_optimalMove : MethodName := ⟨RX8, "optimalMove", "()I"⟩
abbrev cX8_worstMove : ByteArray := prog_1_method_45_code
def yX8_worstMove : MethodName := ⟨RX8, "worstMove", "()I"⟩
abbrev cX8_optimalMoveCount : ByteArray := prog_1_method_46_code
def yX8_optimalMoveCount : MethodName := ⟨RX8, "optimalMoveCount", "()I"⟩
abbrev cX8_isPassForced : ByteArray := prog_1_method_47_code
def yX8_isPassForced : MethodName := ⟨RX8, "isPassForced", "()Z"⟩
abbrev cX8_optimalLineLength : ByteArray := prog_1_method_48_code
def yX8_optimalLineLength : MethodName := ⟨RX8, "optimalLineLength", "()I"⟩
abbrev cX8_optimalLineScore : ByteArray := prog_1_method_49_code
def yX8_optimalLineScore : MethodName := ⟨RX8, "optimalLineScore", "(I)I"⟩
abbrev cX8_chainDifference : ByteArray := prog_1_method_50_code
def yX8_chainDifference : MethodName := ⟨RX8, "chainDifference", "(I)I"⟩
abbrev cX8_expectedLead : ByteArray := prog_1_method_51_code
def yX8_expectedLead : MethodName := ⟨RX8, "expectedLead", "()I"⟩
abbrev cX8_firstBest : ByteArray := prog_1_method_52_code
def yX8_firstBest : MethodName := ⟨RX8, "firstBest", "(LDominoChains$Match;)I"⟩
abbrev cX8_countBest : ByteArray := prog_1_method_53_code
def yX8_countBest : MethodName := ⟨RX8, "countBest", "()I"⟩
abbrev cX8_playBest : ByteArray := prog_1_method_54_code
def yX8_playBest : MethodName := ⟨RX8, "playBest", "(LDominoChains$Match;I)I"⟩
abbrev cX8_tryOptimalLine : ByteArray := prog_1_method_55_code
def yX8_tryOptimalLine : MethodName := ⟨RX8, "tryOptimalLine", "()V"⟩
abbrev cX8_greedyMove : ByteArray := prog_1_method_56_code
def yX8_greedyMove : MethodName := ⟨RX8, "greedyMove", "()I"⟩
abbrev cX8_greedyDifference : ByteArray := prog_1_method_57_code
def yX8_greedyDifference : MethodName := ⟨RX8, "greedyDifference", "()I"⟩
abbrev cX8_differenceAgainstGreedy : ByteArray := prog_1_method_58_code
def yX8_differenceAgainstGreedy : MethodName := ⟨RX8, "differenceAgainstGreedy", "()I"⟩
abbrev cX8_greedyAgainstBest : ByteArray := prog_1_method_59_code
def yX8_greedyAgainstBest : MethodName := ⟨RX8, "greedyAgainstBest", "()I"⟩
abbrev cX8_burn : ByteArray := prog_1_method_60_code
def yX8_burn : MethodName := ⟨RX8, "burn", "(IZ)I"⟩
abbrev cX8_pass : ByteArray := prog_1_method_61_code
def yX8_pass : MethodName := ⟨RX8, "pass", "()Z"⟩
abbrev cX8_needPlayer : ByteArray := prog_1_method_71_code
def yX8_needPlayer : MethodName := ⟨RX8, "needPlayer", "(I)V"⟩
abbrev cX8_needRound : ByteArray := prog_1_method_72_code
def yX8_needRound : MethodName := ⟨RX8, "needRound", "(I)V"⟩
abbrev cX8_needChain : ByteArray := prog_1_method_73_code
def yX8_needChain : MethodName := ⟨RX8, "needChain", "(I)V"⟩
abbrev cX8_needTile : ByteArray := prog_1_method_74_code
def yX8_needTile : MethodName := ⟨RX8, "needTile", "(II)V"⟩
abbrev cX8_neededCode : ByteArray := prog_1_method_76_code
def yX8_neededCode : MethodName := ⟨RX8, "neededCode", "(I)I"⟩
abbrev cX8_burnCode : ByteArray := prog_1_method_77_code
def yX8_burnCode : MethodName := ⟨RX8, "burnCode", "(IZ)I"⟩
abbrev cX8_chainOfCode : ByteArray := prog_1_method_78_code
def yX8_chainOfCode : MethodName := ⟨RX8, "chainOfCode", "(I)I"⟩
abbrev cX8_isLeftCode : ByteArray := prog_1_method_79_code
def yX8_isLeftCode : MethodName := ⟨RX8, "isLeftCode", "(I)Z"⟩
abbrev cX8_leader : ByteArray := prog_1_method_80_code
def yX8_leader : MethodName := ⟨RX8, "leader", "(I)I"⟩
abbrev cX8_at : ByteArray := prog_1_method_81_code
def yX8_at : MethodName := ⟨RX8, "at", "([II)I"⟩
abbrev cX8_put : ByteArray := prog_1_method_82_code
def yX8_put : MethodName := ⟨RX8, "put", "([III)V"⟩
abbrev cX8_copyRow : ByteArray := prog_1_method_83_code
def yX8_copyRow : MethodName := ⟨RX8, "copyRow", "([I[I)V"⟩
def RX9 : String := "DominoChainsModel"
def TX9 : u_T := fun k => match k with
  | _ => ("", "", "", false)
def tyX9 : Nat → FieldType := fun k => match k with
  | _ => .int
abbrev wsX90 : List Cond := u_ws RX9 TX9 0
theorem nmX9 : ∀ a, a < 0 → ∀ b, b < 0 → a ≠ b → (TX9 a).2.1 ≠ (TX9 b).2.1 := by decide +kernel
theorem tyX9_ok : ∀ k, k < 0 → parseFieldDescriptor (TX9 k).2.2.1 = some (tyX9 k) := by decide +kernel
def RJx145de : String := "java/io/Serializable"
def TJx145de : u_T := fun k => match k with
  | _ => ("", "", "", false)
def tyJx145de : Nat → FieldType := fun k => match k with
  | _ => .int
abbrev wsJx145de0 : List Cond := u_ws RJx145de TJx145de 0
theorem nmJx145de : ∀ a, a < 0 → ∀ b, b < 0 → a ≠ b → (TJx145de a).2.1 ≠ (TJx145de b).2.1 := by decide +kernel
theorem tyJx145de_ok : ∀ k, k < 0 → parseFieldDescriptor (TJx145de k).2.2.1 = some (tyJx145de k) := by decide +kernel
def RJ5 : String := "java/lang/AbstractStringBuilder"
def TJ5 : u_T := fun k => match k with
  | _ => ("", "", "", false)
def tyJ5 : Nat → FieldType := fun k => match k with
  | _ => .int
abbrev wsJ50 : List Cond := u_ws RJ5 TJ5 0
theorem nmJ5 : ∀ a, a < 0 → ∀ b, b < 0 → a ≠ b → (TJ5 a).2.1 ≠ (TJ5 b).2.1 := by decide +kernel
theorem tyJ5_ok : ∀ k, k < 0 → parseFieldDescriptor (TJ5 k).2.2.1 = some (tyJ5 k) := by decide +kernel
abbrev cJ5_init_d00df : ByteArray := prog_13_method_2_code
def yJ5_init_d00df : MethodName := ⟨RJ5, "<init>", "(I)V"⟩
abbrev cJ5_length_8abf5 : ByteArray := prog_13_method_6_code
def yJ5_length_8abf5 : MethodName := ⟨RJ5, "length", "()I"⟩
abbrev cJ5_ensureCapacityInternal_d00df : ByteArray := prog_13_method_9_code
def yJ5_ensureCapacityInternal_d00df : MethodName := ⟨RJ5, "ensureCapacityInternal", "(I)V"⟩
abbrev cJ5_newCapacity_0f7a4 : ByteArray := prog_13_method_10_code
def yJ5_newCapacity_0f7a4 : MethodName := ⟨RJ5, "newCapacity", "(I)I"⟩
abbrev cJ5_inflate_da8c8 : ByteArray := prog_13_method_11_code
def yJ5_inflate_da8c8 : MethodName := ⟨RJ5, "inflate", "()V"⟩
abbrev cJ5_append_cf1ce : ByteArray := prog_13_method_22_code
def yJ5_append_cf1ce : MethodName := ⟨RJ5, "append", "(Ljava/lang/String;)Ljava/lang/AbstractStringBuilder;"⟩
abbrev cJ5_appendNull_278bc : ByteArray := prog_13_method_26_code
def yJ5_appendNull_278bc : MethodName := ⟨RJ5, "appendNull", "()Ljava/lang/AbstractStringBuilder;"⟩
abbrev cJ5_append_3fe6f : ByteArray := prog_13_method_31_code
def yJ5_append_3fe6f : MethodName := ⟨RJ5, "append", "(C)Ljava/lang/AbstractStringBuilder;"⟩
abbrev cJ5_append_c97b9 : ByteArray := prog_13_method_32_code
def yJ5_append_c97b9 : MethodName := ⟨RJ5, "append", "(I)Ljava/lang/AbstractStringBuilder;"⟩
abbrev cJ5_getValue_6d5f1 : ByteArray := prog_13_method_64_code
def yJ5_getValue_6d5f1 : MethodName := ⟨RJ5, "getValue", "()[B"⟩
abbrev cJ5_isLatin1_aae02 : ByteArray := prog_13_method_68_code
def yJ5_isLatin1_aae02 : MethodName := ⟨RJ5, "isLatin1", "()Z"⟩
abbrev cJ5_inflateIfNeededFor_a7421 : ByteArray := prog_13_method_71_code
def yJ5_inflateIfNeededFor_a7421 : MethodName := ⟨RJ5, "inflateIfNeededFor", "(Ljava/lang/String;)V"⟩
abbrev cJ5_putStringAt_47b60 : ByteArray := prog_13_method_73_code
def yJ5_putStringAt_47b60 : MethodName := ⟨RJ5, "putStringAt", "(ILjava/lang/String;)V"⟩
def RJx2cfe8 : String := "java/lang/Appendable"
def TJx2cfe8 : u_T := fun k => match k with
  | _ => ("", "", "", false)
def tyJx2cfe8 : Nat → FieldType := fun k => match k with
  | _ => .int
abbrev wsJx2cfe80 : List Cond := u_ws RJx2cfe8 TJx2cfe8 0
theorem nmJx2cfe8 : ∀ a, a < 0 → ∀ b, b < 0 → a ≠ b → (TJx2cfe8 a).2.1 ≠ (TJx2cfe8 b).2.1 := by decide +kernel
theorem tyJx2cfe8_ok : ∀ k, k < 0 → parseFieldDescriptor (TJx2cfe8 k).2.2.1 = some (tyJx2cfe8 k) := by decide +kernel
def RJx9f9b0 : String := "java/lang/CharSequence"
def TJx9f9b0 : u_T := fun k => match k with
  | _ => ("", "", "", false)
def tyJx9f9b0 : Nat → FieldType := fun k => match k with
  | _ => .int
abbrev wsJx9f9b00 : List Cond := u_ws RJx9f9b0 TJx9f9b0 0
theorem nmJx9f9b0 : ∀ a, a < 0 → ∀ b, b < 0 → a ≠ b → (TJx9f9b0 a).2.1 ≠ (TJx9f9b0 b).2.1 := by decide +kernel
theorem tyJx9f9b0_ok : ∀ k, k < 0 → parseFieldDescriptor (TJx9f9b0 k).2.2.1 = some (tyJx9f9b0 k) := by decide +kernel
def RJx8e188 : String := "java/lang/Cloneable"
def TJx8e188 : u_T := fun k => match k with
  | _ => ("", "", "", false)
def tyJx8e188 : Nat → FieldType := fun k => match k with
  | _ => .int
abbrev wsJx8e1880 : List Cond := u_ws RJx8e188 TJx8e188 0
theorem nmJx8e188 : ∀ a, a < 0 → ∀ b, b < 0 → a ≠ b → (TJx8e188 a).2.1 ≠ (TJx8e188 b).2.1 := by decide +kernel
theorem tyJx8e188_ok : ∀ k, k < 0 → parseFieldDescriptor (TJx8e188 k).2.2.1 = some (tyJx8e188 k) := by decide +kernel
def RJxb160c : String := "java/lang/Comparable"
def TJxb160c : u_T := fun k => match k with
  | _ => ("", "", "", false)
def tyJxb160c : Nat → FieldType := fun k => match k with
  | _ => .int
abbrev wsJxb160c0 : List Cond := u_ws RJxb160c TJxb160c 0
theorem nmJxb160c : ∀ a, a < 0 → ∀ b, b < 0 → a ≠ b → (TJxb160c a).2.1 ≠ (TJxb160c b).2.1 := by decide +kernel
theorem tyJxb160c_ok : ∀ k, k < 0 → parseFieldDescriptor (TJxb160c k).2.2.1 = some (tyJxb160c k) := by decide +kernel
def RJ6 : String := "java/lang/Integer"
def TJ6 : u_T := fun k => match k with
  | _ => ("", "", "", false)
def tyJ6 : Nat → FieldType := fun k => match k with
  | _ => .int
abbrev wsJ60 : List Cond := u_ws RJ6 TJ6 0
theorem nmJ6 : ∀ a, a < 0 → ∀ b, b < 0 → a ≠ b → (TJ6 a).2.1 ≠ (TJ6 b).2.1 := by decide +kernel
theorem tyJ6_ok : ∀ k, k < 0 → parseFieldDescriptor (TJ6 k).2.2.1 = some (tyJ6 k) := by decide +kernel
abbrev cJ6_getChars_ba4f3 : ByteArray := prog_22_method_12_code
def yJ6_getChars_ba4f3 : MethodName := ⟨RJ6, "getChars", "(II[B)I"⟩
abbrev cJ6_stringSize_0f7a4 : ByteArray := prog_22_method_13_code
def yJ6_stringSize_0f7a4 : MethodName := ⟨RJ6, "stringSize", "(I)I"⟩
def RJ9 : String := "java/lang/Math"
def TJ9 : u_T := fun k => match k with
  | _ => ("", "", "", false)
def tyJ9 : Nat → FieldType := fun k => match k with
  | _ => .int
abbrev wsJ90 : List Cond := u_ws RJ9 TJ9 0
theorem nmJ9 : ∀ a, a < 0 → ∀ b, b < 0 → a ≠ b → (TJ9 a).2.1 ≠ (TJ9 b).2.1 := by decide +kernel
theorem tyJ9_ok : ∀ k, k < 0 → parseFieldDescriptor (TJ9 k).2.2.1 = some (tyJ9 k) := by decide +kernel
abbrev cJ9_max_7cf53 : ByteArray := prog_23_method_65_code
def yJ9_max_7cf53 : MethodName := ⟨RJ9, "max", "(II)I"⟩
abbrev cJ9_min_7cf53 : ByteArray := prog_23_method_69_code
def yJ9_min_7cf53 : MethodName := ⟨RJ9, "min", "(II)I"⟩
def RJxd2413 : String := "java/lang/Number"
def TJxd2413 : u_T := fun k => match k with
  | _ => ("", "", "", false)
def tyJxd2413 : Nat → FieldType := fun k => match k with
  | _ => .int
abbrev wsJxd24130 : List Cond := u_ws RJxd2413 TJxd2413 0
theorem nmJxd2413 : ∀ a, a < 0 → ∀ b, b < 0 → a ≠ b → (TJxd2413 a).2.1 ≠ (TJxd2413 b).2.1 := by decide +kernel
theorem tyJxd2413_ok : ∀ k, k < 0 → parseFieldDescriptor (TJxd2413 k).2.2.1 = some (tyJxd2413 k) := by decide +kernel
def RJ0 : String := "java/lang/String"
def TJ0 : u_T := fun k => match k with
  | 0 => ("java/lang/String", "value", "[B", true)
  | 1 => ("java/lang/String", "coder", "B", true)
  | 2 => ("java/lang/String", "hash", "I", false)
  | _ => ("java/lang/String", "hashIsZero", "Z", false)
def tyJ0 : Nat → FieldType := fun k => match k with
  | 0 => .array .byte
  | 1 => .byte
  | 2 => .int
  | _ => .boolean
abbrev wsJ00 : List Cond := u_ws RJ0 TJ0 4
theorem nmJ0 : ∀ a, a < 4 → ∀ b, b < 4 → a ≠ b → (TJ0 a).2.1 ≠ (TJ0 b).2.1 := by decide +kernel
theorem tyJ0_ok : ∀ k, k < 4 → parseFieldDescriptor (TJ0 k).2.2.1 = some (tyJ0 k) := by decide +kernel
abbrev cJ0_init_81219 : ByteArray := prog_26_method_53_code
def yJ0_init_81219 : MethodName := ⟨RJ0, "<init>", "(Ljava/lang/StringBuilder;)V"⟩
abbrev cJ0_length_8abf5 : ByteArray := prog_26_method_54_code
def yJ0_length_8abf5 : MethodName := ⟨RJ0, "length", "()I"⟩
abbrev cJ0_charAt_5068e : ByteArray := prog_26_method_56_code
def yJ0_charAt_5068e : MethodName := ⟨RJ0, "charAt", "(I)C"⟩
abbrev cJ0_getBytes_840e7 : ByteArray := prog_26_method_147_code
def yJ0_getBytes_840e7 : MethodName := ⟨RJ0, "getBytes", "([BIB)V"⟩
abbrev cJ0_init_db425 : ByteArray := prog_26_method_150_code
def yJ0_init_db425 : MethodName := ⟨RJ0, "<init>", "(Ljava/lang/AbstractStringBuilder;Ljava/lang/Void;)V"⟩
abbrev cJ0_coder_7d493 : ByteArray := prog_26_method_152_code
def yJ0_coder_7d493 : MethodName := ⟨RJ0, "coder", "()B"⟩
abbrev cJ0_isLatin1_aae02 : ByteArray := prog_26_method_154_code
def yJ0_isLatin1_aae02 : MethodName := ⟨RJ0, "isLatin1", "()Z"⟩
abbrev cJ0_checkIndex_df160 : ByteArray := prog_26_method_155_code
def yJ0_checkIndex_df160 : MethodName := ⟨RJ0, "checkIndex", "(II)V"⟩
abbrev cJ0_checkBoundsOffCount_cabcc : ByteArray := prog_26_method_157_code
def yJ0_checkBoundsOffCount_cabcc : MethodName := ⟨RJ0, "checkBoundsOffCount", "(III)I"⟩
abbrev cJ0_checkBoundsBeginEnd_23922 : ByteArray := prog_26_method_158_code
def yJ0_checkBoundsBeginEnd_23922 : MethodName := ⟨RJ0, "checkBoundsBeginEnd", "(III)V"⟩
def RJ4 : String := "java/lang/StringBuilder"
def TJ4 : u_T := fun k => match k with
  | 0 => ("java/lang/AbstractStringBuilder", "value", "[B", false)
  | 1 => ("java/lang/AbstractStringBuilder", "coder", "B", false)
  | 2 => ("java/lang/AbstractStringBuilder", "maybeLatin1", "Z", false)
  | _ => ("java/lang/AbstractStringBuilder", "count", "I", false)
def tyJ4 : Nat → FieldType := fun k => match k with
  | 0 => .array .byte
  | 1 => .byte
  | 2 => .boolean
  | _ => .int
abbrev wsJ40 : List Cond := u_ws RJ4 TJ4 4
theorem nmJ4 : ∀ a, a < 4 → ∀ b, b < 4 → a ≠ b → (TJ4 a).2.1 ≠ (TJ4 b).2.1 := by decide +kernel
theorem tyJ4_ok : ∀ k, k < 4 → parseFieldDescriptor (TJ4 k).2.2.1 = some (tyJ4 k) := by decide +kernel
abbrev cJ4_init_da8c8 : ByteArray := prog_27_method_1_code
def yJ4_init_da8c8 : MethodName := ⟨RJ4, "<init>", "()V"⟩
abbrev cJ4_append_15ec4 : ByteArray := prog_27_method_7_code
def yJ4_append_15ec4 : MethodName := ⟨RJ4, "append", "(Ljava/lang/String;)Ljava/lang/StringBuilder;"⟩
abbrev cJ4_append_cf468 : ByteArray := prog_27_method_14_code
def yJ4_append_cf468 : MethodName := ⟨RJ4, "append", "(C)Ljava/lang/StringBuilder;"⟩
abbrev cJ4_append_bf812 : ByteArray := prog_27_method_15_code
def yJ4_append_bf812 : MethodName := ⟨RJ4, "append", "(I)Ljava/lang/StringBuilder;"⟩
abbrev cJ4_toString_0e30d : ByteArray := prog_27_method_42_code
def yJ4_toString_0e30d : MethodName := ⟨RJ4, "toString", "()Ljava/lang/String;"⟩
abbrev cJ4_length_8abf5 : ByteArray := prog_27_method_93_code
def yJ4_length_8abf5 : MethodName := ⟨RJ4, "length", "()I"⟩
def RJ1 : String := "java/lang/StringLatin1"
def TJ1 : u_T := fun k => match k with
  | _ => ("", "", "", false)
def tyJ1 : Nat → FieldType := fun k => match k with
  | _ => .int
abbrev wsJ10 : List Cond := u_ws RJ1 TJ1 0
theorem nmJ1 : ∀ a, a < 0 → ∀ b, b < 0 → a ≠ b → (TJ1 a).2.1 ≠ (TJ1 b).2.1 := by decide +kernel
theorem tyJ1_ok : ∀ k, k < 0 → parseFieldDescriptor (TJ1 k).2.2.1 = some (tyJ1 k) := by decide +kernel
abbrev cJ1_charAt_3b067 : ByteArray := prog_28_method_2_code
def yJ1_charAt_3b067 : MethodName := ⟨RJ1, "charAt", "([BI)C"⟩
abbrev cJ1_canEncode_fc78d : ByteArray := prog_28_method_3_code
def yJ1_canEncode_fc78d : MethodName := ⟨RJ1, "canEncode", "(C)Z"⟩
abbrev cJ1_inflate_0e8fd : ByteArray := prog_28_method_50_code
def yJ1_inflate_0e8fd : MethodName := ⟨RJ1, "inflate", "([BI[BII)V"⟩
def RJ2 : String := "java/lang/StringUTF16"
def TJ2 : u_T := fun k => match k with
  | _ => ("", "", "", false)
def tyJ2 : Nat → FieldType := fun k => match k with
  | _ => .int
abbrev wsJ20 : List Cond := u_ws RJ2 TJ2 0
theorem nmJ2 : ∀ a, a < 0 → ∀ b, b < 0 → a ≠ b → (TJ2 a).2.1 ≠ (TJ2 b).2.1 := by decide +kernel
theorem tyJ2_ok : ∀ k, k < 0 → parseFieldDescriptor (TJ2 k).2.2.1 = some (tyJ2 k) := by decide +kernel
abbrev cJ2_newBytesFor_77867 : ByteArray := prog_29_method_2_code
def yJ2_newBytesFor_77867 : MethodName := ⟨RJ2, "newBytesFor", "(I)[B"⟩
abbrev cJ2_newBytesLength_0f7a4 : ByteArray := prog_29_method_3_code
def yJ2_newBytesLength_0f7a4 : MethodName := ⟨RJ2, "newBytesLength", "(I)I"⟩
abbrev cJ2_putChar_b72d1 : ByteArray := prog_29_method_4_code
def yJ2_putChar_b72d1 : MethodName := ⟨RJ2, "putChar", "([BII)V"⟩
abbrev cJ2_getChar_3b067 : ByteArray := prog_29_method_5_code
def yJ2_getChar_3b067 : MethodName := ⟨RJ2, "getChar", "([BI)C"⟩
abbrev cJ2_length_9d52b : ByteArray := prog_29_method_6_code
def yJ2_length_9d52b : MethodName := ⟨RJ2, "length", "([B)I"⟩
abbrev cJ2_coderFromArrayLen_85cad : ByteArray := prog_29_method_15_code
def yJ2_coderFromArrayLen_85cad : MethodName := ⟨RJ2, "coderFromArrayLen", "([BI)B"⟩
abbrev cJ2_compress_39247 : ByteArray := prog_29_method_17_code
def yJ2_compress_39247 : MethodName := ⟨RJ2, "compress", "([BII)[B"⟩
abbrev cJ2_compress_5af95 : ByteArray := prog_29_method_22_code
def yJ2_compress_5af95 : MethodName := ⟨RJ2, "compress", "([BI[BII)I"⟩
abbrev cJ2_putCharSB_b72d1 : ByteArray := prog_29_method_71_code
def yJ2_putCharSB_b72d1 : MethodName := ⟨RJ2, "putCharSB", "([BII)V"⟩
abbrev cJ2_getChars_46870 : ByteArray := prog_29_method_77_code
def yJ2_getChars_46870 : MethodName := ⟨RJ2, "getChars", "(III[B)I"⟩
abbrev cJ2_putCharsAt_cd4e5 : ByteArray := prog_29_method_81_code
def yJ2_putCharsAt_cd4e5 : MethodName := ⟨RJ2, "putCharsAt", "([BICCCC)I"⟩
abbrev cJ2_charAt_3b067 : ByteArray := prog_29_method_83_code
def yJ2_charAt_3b067 : MethodName := ⟨RJ2, "charAt", "([BI)C"⟩
abbrev cJ2_inflate_0e8fd : ByteArray := prog_29_method_86_code
def yJ2_inflate_0e8fd : MethodName := ⟨RJ2, "inflate", "([BI[BII)V"⟩
abbrev cJ2_getChars_ba4f3 : ByteArray := prog_29_method_89_code
def yJ2_getChars_ba4f3 : MethodName := ⟨RJ2, "getChars", "(II[B)I"⟩
abbrev cJ2_checkIndex_2214a : ByteArray := prog_29_method_91_code
def yJ2_checkIndex_2214a : MethodName := ⟨RJ2, "checkIndex", "(I[B)V"⟩
abbrev cJ2_checkBoundsBeginEnd_d044e : ByteArray := prog_29_method_93_code
def yJ2_checkBoundsBeginEnd_d044e : MethodName := ⟨RJ2, "checkBoundsBeginEnd", "(II[B)V"⟩
abbrev cJ2_checkBoundsOffCount_d044e : ByteArray := prog_29_method_94_code
def yJ2_checkBoundsOffCount_d044e : MethodName := ⟨RJ2, "checkBoundsOffCount", "(II[B)V"⟩
def RJ10 : String := "java/lang/System"
def TJ10 : u_T := fun k => match k with
  | _ => ("", "", "", false)
def tyJ10 : Nat → FieldType := fun k => match k with
  | _ => .int
abbrev wsJ100 : List Cond := u_ws RJ10 TJ10 0
theorem nmJ10 : ∀ a, a < 0 → ∀ b, b < 0 → a ≠ b → (TJ10 a).2.1 ≠ (TJ10 b).2.1 := by decide +kernel
theorem tyJ10_ok : ∀ k, k < 0 → parseFieldDescriptor (TJ10 k).2.2.1 = some (tyJ10 k) := by decide +kernel
def RJxfd54e : String := "java/lang/constant/Constable"
def TJxfd54e : u_T := fun k => match k with
  | _ => ("", "", "", false)
def tyJxfd54e : Nat → FieldType := fun k => match k with
  | _ => .int
abbrev wsJxfd54e0 : List Cond := u_ws RJxfd54e TJxfd54e 0
theorem nmJxfd54e : ∀ a, a < 0 → ∀ b, b < 0 → a ≠ b → (TJxfd54e a).2.1 ≠ (TJxfd54e b).2.1 := by decide +kernel
theorem tyJxfd54e_ok : ∀ k, k < 0 → parseFieldDescriptor (TJxfd54e k).2.2.1 = some (tyJxfd54e k) := by decide +kernel
def RJx3cf43 : String := "java/lang/constant/ConstantDesc"
def TJx3cf43 : u_T := fun k => match k with
  | _ => ("", "", "", false)
def tyJx3cf43 : Nat → FieldType := fun k => match k with
  | _ => .int
abbrev wsJx3cf430 : List Cond := u_ws RJx3cf43 TJx3cf43 0
theorem nmJx3cf43 : ∀ a, a < 0 → ∀ b, b < 0 → a ≠ b → (TJx3cf43 a).2.1 ≠ (TJx3cf43 b).2.1 := by decide +kernel
theorem tyJx3cf43_ok : ∀ k, k < 0 → parseFieldDescriptor (TJx3cf43 k).2.2.1 = some (tyJx3cf43 k) := by decide +kernel
def RJ7 : String := "java/util/Arrays"
def TJ7 : u_T := fun k => match k with
  | _ => ("", "", "", false)
def tyJ7 : Nat → FieldType := fun k => match k with
  | _ => .int
abbrev wsJ70 : List Cond := u_ws RJ7 TJ7 0
theorem nmJ7 : ∀ a, a < 0 → ∀ b, b < 0 → a ≠ b → (TJ7 a).2.1 ≠ (TJ7 b).2.1 := by decide +kernel
theorem tyJ7_ok : ∀ k, k < 0 → parseFieldDescriptor (TJ7 k).2.2.1 = some (tyJ7 k) := by decide +kernel
abbrev cJ7_copyOf_9075b : ByteArray := prog_34_method_121_code
def yJ7_copyOf_9075b : MethodName := ⟨RJ7, "copyOf", "([BI)[B"⟩
abbrev cJ7_checkLength_df160 : ByteArray := prog_34_method_131_code
def yJ7_checkLength_df160 : MethodName := ⟨RJ7, "checkLength", "(II)V"⟩
abbrev cJ7_copyOfRange_39247 : ByteArray := prog_34_method_132_code
def yJ7_copyOfRange_39247 : MethodName := ⟨RJ7, "copyOfRange", "([BII)[B"⟩
abbrev cJ7_copyOfRangeByte_39247 : ByteArray := prog_34_method_133_code
def yJ7_copyOfRangeByte_39247 : MethodName := ⟨RJ7, "copyOfRangeByte", "([BII)[B"⟩
def RJ8 : String := "jdk/internal/util/ArraysSupport"
def TJ8 : u_T := fun k => match k with
  | _ => ("", "", "", false)
def tyJ8 : Nat → FieldType := fun k => match k with
  | _ => .int
abbrev wsJ80 : List Cond := u_ws RJ8 TJ8 0
theorem nmJ8 : ∀ a, a < 0 → ∀ b, b < 0 → a ≠ b → (TJ8 a).2.1 ≠ (TJ8 b).2.1 := by decide +kernel
theorem tyJ8_ok : ∀ k, k < 0 → parseFieldDescriptor (TJ8 k).2.2.1 = some (tyJ8 k) := by decide +kernel
abbrev cJ8_newLength_cabcc : ByteArray := prog_36_method_27_code
def yJ8_newLength_cabcc : MethodName := ⟨RJ8, "newLength", "(III)I"⟩
abbrev cJ8_hugeLength_7cf53 : ByteArray := prog_36_method_28_code
def yJ8_hugeLength_7cf53 : MethodName := ⟨RJ8, "hugeLength", "(II)I"⟩
def RJ3 : String := "jdk/internal/util/Preconditions"
def TJ3 : u_T := fun k => match k with
  | _ => ("", "", "", false)
def tyJ3 : Nat → FieldType := fun k => match k with
  | _ => .int
abbrev wsJ30 : List Cond := u_ws RJ3 TJ3 0
theorem nmJ3 : ∀ a, a < 0 → ∀ b, b < 0 → a ≠ b → (TJ3 a).2.1 ≠ (TJ3 b).2.1 := by decide +kernel
theorem tyJ3_ok : ∀ k, k < 0 → parseFieldDescriptor (TJ3 k).2.2.1 = some (tyJ3 k) := by decide +kernel
abbrev cJ3_checkIndex_8e157 : ByteArray := prog_37_method_11_code
def yJ3_checkIndex_8e157 : MethodName := ⟨RJ3, "checkIndex", "(IILjava/util/function/BiFunction;)I"⟩
abbrev cJ3_checkFromToIndex_8c36e : ByteArray := prog_37_method_12_code
def yJ3_checkFromToIndex_8c36e : MethodName := ⟨RJ3, "checkFromToIndex", "(IIILjava/util/function/BiFunction;)I"⟩
abbrev cJ3_checkFromIndexSize_8c36e : ByteArray := prog_37_method_13_code
def yJ3_checkFromIndexSize_8c36e : MethodName := ⟨RJ3, "checkFromIndexSize", "(IIILjava/util/function/BiFunction;)I"⟩
def RL : String := "DominoChainsLaw"
abbrev cL_cell : ByteArray := method_2_code
def yL_cell : MethodName := ⟨RL, "cell", "([II)I"⟩
abbrev cL_part : ByteArray := method_3_code
def yL_part : MethodName := ⟨RL, "part", "(II)I"⟩
abbrev cL_four : ByteArray := method_4_code
def yL_four : MethodName := ⟨RL, "four", "(Ljava/lang/String;I)I"⟩
abbrev cL_adds : ByteArray := method_5_code
def yL_adds : MethodName := ⟨RL, "adds", "(LDominoChains;Ljava/lang/String;I)I"⟩
abbrev cL_cuts : ByteArray := method_6_code
def yL_cuts : MethodName := ⟨RL, "cuts", "(LDominoChains;I)I"⟩
abbrev cL_loads : ByteArray := method_7_code
def yL_loads : MethodName := ⟨RL, "loads", "(LDominoChains;Ljava/lang/String;)I"⟩
abbrev cL_chain : ByteArray := method_8_code
def yL_chain : MethodName := ⟨RL, "chain", "(LDominoChains;IZ)I"⟩
abbrev cL_pips : ByteArray := method_9_code
def yL_pips : MethodName := ⟨RL, "pips", "(LDominoChains;III)I"⟩
abbrev cL_score : ByteArray := method_10_code
def yL_score : MethodName := ⟨RL, "score", "(LDominoChains;II)I"⟩
abbrev cL_move : ByteArray := method_11_code
def yL_move : MethodName := ⟨RL, "move", "(LDominoChains;II)I"⟩
abbrev cL_burns : ByteArray := method_12_code
def yL_burns : MethodName := ⟨RL, "burns", "(LDominoChains;IZ)I"⟩
abbrev cL_passes : ByteArray := method_13_code
def yL_passes : MethodName := ⟨RL, "passes", "(LDominoChains;)I"⟩
abbrev cL_makes : ByteArray := method_16_code
def yL_makes : MethodName := ⟨RL, "makes", "(LDominoChains;I)I"⟩
abbrev cL_match : ByteArray := method_18_code
def yL_match : MethodName := ⟨RL, "match", "([II)Ljava/lang/String;"⟩
abbrev cL_optimal : ByteArray := method_20_code
def yL_optimal : MethodName := ⟨RL, "optimal", "(LDominoChains;)I"⟩
abbrev cL_worst : ByteArray := method_21_code
def yL_worst : MethodName := ⟨RL, "worst", "(LDominoChains;)I"⟩
abbrev cL_greedy : ByteArray := method_22_code
def yL_greedy : MethodName := ⟨RL, "greedy", "(LDominoChains;)I"⟩
abbrev cL_line : ByteArray := method_23_code
def yL_line : MethodName := ⟨RL, "line", "(LDominoChains;I)I"⟩
abbrev cL_single : ByteArray := method_24_code
def yL_single : MethodName := ⟨RL, "single", "(LDominoChains;I)I"⟩
abbrev cL_best : ByteArray := method_25_code
def yL_best : MethodName := ⟨RL, "best", "([[I[IZ)I"⟩
abbrev cL_against : ByteArray := method_26_code
def yL_against : MethodName := ⟨RL, "against", "([[I[IZ)I"⟩
abbrev cL_greedyOf : ByteArray := method_27_code
def yL_greedyOf : MethodName := ⟨RL, "greedyOf", "([[I[I)I"⟩
abbrev cL_behind : ByteArray := method_28_code
def yL_behind : MethodName := ⟨RL, "behind", "([[I[I)I"⟩
abbrev cL_law : ByteArray := code
def yL_law : MethodName := ⟨RL, "law", "([I)Z"⟩
abbrev vwCl : List vw_C := [(RX0, TX0, 3), (RX1, TX1, 6), (RX2, TX2, 2), (RX3, TX3, 6), (RX4, TX4, 5), (RX5, TX5, 13), (RX6, TX6, 13), (RX7, TX7, 2), (RX8, TX8, 12), (RJ0, TJ0, 4), (RJ4, TJ4, 4)]
