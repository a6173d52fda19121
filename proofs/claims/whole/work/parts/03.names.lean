def RX0 : String := "Pegboardry$Board"
def TX0 : u_T := fun k => match k with
  | _ => ("Pegboardry$Board", "masks", "[I", true)
def tyX0 : Nat → FieldType := fun k => match k with
  | _ => .array .int
abbrev wsX00 : List Cond := u_ws RX0 TX0 1
theorem nmX0 : ∀ a, a < 1 → ∀ b, b < 1 → a ≠ b → (TX0 a).2.1 ≠ (TX0 b).2.1 := by decide +kernel
theorem tyX0_ok : ∀ k, k < 1 → parseFieldDescriptor (TX0 k).2.2.1 = some (tyX0 k) := by decide +kernel
abbrev cX0_init : ByteArray := prog_2_method_1_code
def yX0_init : MethodName := ⟨RX0, "<init>", "()V"⟩
abbrev cX0_fill : ByteArray := prog_2_method_2_code
def yX0_fill : MethodName := ⟨RX0, "fill", "()V"⟩
abbrev cX0_holds : ByteArray := prog_2_method_3_code
def yX0_holds : MethodName := ⟨RX0, "holds", "(II)Z"⟩
abbrev cX0_takeAway : ByteArray := prog_2_method_4_code
def yX0_takeAway : MethodName := ⟨RX0, "takeAway", "(II)V"⟩
abbrev cX0_countCandidates : ByteArray := prog_2_method_5_code
def yX0_countCandidates : MethodName := ⟨RX0, "countCandidates", "()I"⟩
abbrev cX0_lowestCandidate : ByteArray := prog_2_method_6_code
def yX0_lowestCandidate : MethodName := ⟨RX0, "lowestCandidate", "(I)I"⟩
abbrev cX0_isSettled : ByteArray := prog_2_method_7_code
def yX0_isSettled : MethodName := ⟨RX0, "isSettled", "()Z"⟩
abbrev cX0_isBroken : ByteArray := prog_2_method_8_code
def yX0_isBroken : MethodName := ⟨RX0, "isBroken", "()Z"⟩
abbrev cX0_yieldsTo : ByteArray := prog_2_method_9_code
def yX0_yieldsTo : MethodName := ⟨RX0, "yieldsTo", "(ILPegboardry$Puzzle;II)Z"⟩
abbrev cX0_isOnlyCandidateElsewhere : ByteArray := prog_2_method_10_code
def yX0_isOnlyCandidateElsewhere : MethodName := ⟨RX0, "isOnlyCandidateElsewhere", "(III)Z"⟩
abbrev cX0_isOnlyPlaceOfOther : ByteArray := prog_2_method_11_code
def yX0_isOnlyPlaceOfOther : MethodName := ⟨RX0, "isOnlyPlaceOfOther", "(III)Z"⟩
abbrev cX0_isInPairElsewhere : ByteArray := prog_2_method_12_code
def yX0_isInPairElsewhere : MethodName := ⟨RX0, "isInPairElsewhere", "(III)Z"⟩
abbrev cX0_leavesCageUnfilled : ByteArray := prog_2_method_13_code
def yX0_leavesCageUnfilled : MethodName := ⟨RX0, "leavesCageUnfilled", "(LPegboardry$Puzzle;II)Z"⟩
def RX1 : String := "Pegboardry$Cage"
def TX1 : u_T := fun k => match k with
  | 0 => ("Pegboardry$Cage", "cellRow", "[I", true)
  | _ => ("Pegboardry$Cage", "sum", "I", true)
def tyX1 : Nat → FieldType := fun k => match k with
  | 0 => .array .int
  | _ => .int
abbrev wsX10 : List Cond := u_ws RX1 TX1 2
theorem nmX1 : ∀ a, a < 2 → ∀ b, b < 2 → a ≠ b → (TX1 a).2.1 ≠ (TX1 b).2.1 := by decide +kernel
theorem tyX1_ok : ∀ k, k < 2 → parseFieldDescriptor (TX1 k).2.2.1 = some (tyX1 k) := by decide +kernel
abbrev cX1_init : ByteArray := prog_3_method_1_code
def yX1_init : MethodName := ⟨RX1, "<init>", "(II)V"⟩
abbrev cX1_isCageOf : ByteArray := prog_3_method_2_code
def yX1_isCageOf : MethodName := ⟨RX1, "isCageOf", "(I)Z"⟩
abbrev cX1_hasSumIn : ByteArray := prog_3_method_3_code
def yX1_hasSumIn : MethodName := ⟨RX1, "hasSumIn", "([I)Z"⟩
abbrev cX1_canBeFilled : ByteArray := prog_3_method_4_code
def yX1_canBeFilled : MethodName := ⟨RX1, "canBeFilled", "(LPegboardry$Cage;LPegboardry$Board;III)Z"⟩
def RX2 : String := "Pegboardry$Draws"
def TX2 : u_T := fun k => match k with
  | _ => ("Pegboardry$Draws", "z", "J", false)
def tyX2 : Nat → FieldType := fun k => match k with
  | _ => .long
abbrev wsX20 : List Cond := u_ws RX2 TX2 1
theorem nmX2 : ∀ a, a < 1 → ∀ b, b < 1 → a ≠ b → (TX2 a).2.1 ≠ (TX2 b).2.1 := by decide +kernel
theorem tyX2_ok : ∀ k, k < 1 → parseFieldDescriptor (TX2 k).2.2.1 = some (tyX2 k) := by decide +kernel
abbrev cX2_init : ByteArray := prog_4_method_1_code
def yX2_init : MethodName := ⟨RX2, "<init>", "(I)V"⟩
abbrev cX2_below : ByteArray := prog_4_method_2_code
def yX2_below : MethodName := ⟨RX2, "below", "(I)I"⟩
abbrev cX2_mix : ByteArray := prog_4_method_3_code
def yX2_mix : MethodName := ⟨RX2, "mix", "([I)V"⟩
def RX3 : String := "Pegboardry$Puzzle"
def TX3 : u_T := fun k => match k with
  | 0 => ("Pegboardry$Puzzle", "givenRow", "[I", true)
  | 1 => ("Pegboardry$Puzzle", "markRow", "[I", true)
  | 2 => ("Pegboardry$Puzzle", "cages", "Ljava/util/ArrayList;", true)
  | 3 => ("Pegboardry$Puzzle", "solver", "LPegboardry$Solver;", true)
  | 4 => ("Pegboardry$Puzzle", "search", "LPegboardry$Search;", true)
  | 5 => ("Pegboardry$Puzzle", "solverIsFresh", "Z", false)
  | _ => ("Pegboardry$Puzzle", "searchIsFresh", "Z", false)
def tyX3 : Nat → FieldType := fun k => match k with
  | 0 => .array .int
  | 1 => .array .int
  | 2 => .object "java/util/ArrayList"
  | 3 => .object "Pegboardry$Solver"
  | 4 => .object "Pegboardry$Search"
  | 5 => .boolean
  | _ => .boolean
abbrev wsX30 : List Cond := u_ws RX3 TX3 7
theorem nmX3 : ∀ a, a < 7 → ∀ b, b < 7 → a ≠ b → (TX3 a).2.1 ≠ (TX3 b).2.1 := by decide +kernel
theorem tyX3_ok : ∀ k, k < 7 → parseFieldDescriptor (TX3 k).2.2.1 = some (tyX3 k) := by decide +kernel
abbrev cX3_init : ByteArray := prog_5_method_1_code
def yX3_init : MethodName := ⟨RX3, "<init>", "()V"⟩
abbrev cX3_putGiven : ByteArray := prog_5_method_2_code
def yX3_putGiven : MethodName := ⟨RX3, "putGiven", "(II)V"⟩
abbrev cX3_putCage : ByteArray := prog_5_method_3_code
def yX3_putCage : MethodName := ⟨RX3, "putCage", "(LPegboardry$Cage;)V"⟩
abbrev cX3_countGivens : ByteArray := prog_5_method_4_code
def yX3_countGivens : MethodName := ⟨RX3, "countGivens", "()I"⟩
abbrev cX3_solved : ByteArray := prog_5_method_5_code
def yX3_solved : MethodName := ⟨RX3, "solved", "()LPegboardry$Solver;"⟩
abbrev cX3_searched : ByteArray := prog_5_method_6_code
def yX3_searched : MethodName := ⟨RX3, "searched", "()LPegboardry$Search;"⟩
def RX4 : String := "Pegboardry$Search"
def TX4 : u_T := fun k => match k with
  | 0 => ("Pegboardry$Search", "tried", "[I", true)
  | 1 => ("Pegboardry$Search", "firstFound", "[I", true)
  | _ => ("Pegboardry$Search", "found", "I", false)
def tyX4 : Nat → FieldType := fun k => match k with
  | 0 => .array .int
  | 1 => .array .int
  | _ => .int
abbrev wsX40 : List Cond := u_ws RX4 TX4 3
theorem nmX4 : ∀ a, a < 3 → ∀ b, b < 3 → a ≠ b → (TX4 a).2.1 ≠ (TX4 b).2.1 := by decide +kernel
theorem tyX4_ok : ∀ k, k < 3 → parseFieldDescriptor (TX4 k).2.2.1 = some (tyX4 k) := by decide +kernel
abbrev cX4_init : ByteArray := prog_6_method_1_code
def yX4_init : MethodName := ⟨RX4, "<init>", "()V"⟩
abbrev cX4_run : ByteArray := prog_6_method_2_code
def yX4_run : MethodName := ⟨RX4, "run", "(LPegboardry$Puzzle;I)V"⟩
abbrev cX4_tryFrom : ByteArray := prog_6_method_3_code
def yX4_tryFrom : MethodName := ⟨RX4, "tryFrom", "(LPegboardry$Search;LPegboardry$Puzzle;III)V"⟩
abbrev cX4_keepIfCagesHold : ByteArray := prog_6_method_4_code
def yX4_keepIfCagesHold : MethodName := ⟨RX4, "keepIfCagesHold", "(LPegboardry$Puzzle;)V"⟩
def RX5 : String := "Pegboardry$Solver"
def TX5 : u_T := fun k => match k with
  | 0 => ("Pegboardry$Solver", "board", "LPegboardry$Board;", true)
  | 1 => ("Pegboardry$Solver", "stepRow", "[I", true)
  | 2 => ("Pegboardry$Solver", "settledRow", "[I", true)
  | 3 => ("Pegboardry$Solver", "stepCount", "I", false)
  | 4 => ("Pegboardry$Solver", "settledCount", "I", false)
  | _ => ("Pegboardry$Solver", "outcome", "C", false)
def tyX5 : Nat → FieldType := fun k => match k with
  | 0 => .object "Pegboardry$Board"
  | 1 => .array .int
  | 2 => .array .int
  | 3 => .int
  | 4 => .int
  | _ => .char
abbrev wsX50 : List Cond := u_ws RX5 TX5 6
theorem nmX5 : ∀ a, a < 6 → ∀ b, b < 6 → a ≠ b → (TX5 a).2.1 ≠ (TX5 b).2.1 := by decide +kernel
theorem tyX5_ok : ∀ k, k < 6 → parseFieldDescriptor (TX5 k).2.2.1 = some (tyX5 k) := by decide +kernel
abbrev cX5_init : ByteArray := prog_7_method_1_code
def yX5_init : MethodName := ⟨RX5, "<init>", "()V"⟩
abbrev cX5_run : ByteArray := prog_7_method_2_code
def yX5_run : MethodName := ⟨RX5, "run", "(LPegboardry$Puzzle;I)V"⟩
abbrev cX5_takeOneAway : ByteArray := prog_7_method_3_code
def yX5_takeOneAway : MethodName := ⟨RX5, "takeOneAway", "(LPegboardry$Puzzle;I)Z"⟩
abbrev cX5_keepStep : ByteArray := prog_7_method_4_code
def yX5_keepStep : MethodName := ⟨RX5, "keepStep", "(III)V"⟩
abbrev cX5_gradeOfSteps : ByteArray := prog_7_method_5_code
def yX5_gradeOfSteps : MethodName := ⟨RX5, "gradeOfSteps", "()I"⟩
def RX6 : String := "Pegboardry"
def TX6 : u_T := fun k => match k with
  | 0 => ("Pegboardry", "puzzles", "Ljava/util/ArrayList;", true)
  | 1 => ("Pegboardry", "makersSolver", "LPegboardry$Solver;", true)
  | 2 => ("Pegboardry", "trialSearch", "LPegboardry$Search;", true)
  | 3 => ("Pegboardry", "proofBoard", "LPegboardry$Board;", true)
  | 4 => ("Pegboardry", "proofPuzzle", "LPegboardry$Puzzle;", false)
  | _ => ("Pegboardry", "lastRefusal", "I", false)
def tyX6 : Nat → FieldType := fun k => match k with
  | 0 => .object "java/util/ArrayList"
  | 1 => .object "Pegboardry$Solver"
  | 2 => .object "Pegboardry$Search"
  | 3 => .object "Pegboardry$Board"
  | 4 => .object "Pegboardry$Puzzle"
  | _ => .int
abbrev wsX60 : List Cond := u_ws RX6 TX6 6
theorem nmX6 : ∀ a, a < 6 → ∀ b, b < 6 → a ≠ b → (TX6 a).2.1 ≠ (TX6 b).2.1 := by decide +kernel
theorem tyX6_ok : ∀ k, k < 6 → parseFieldDescriptor (TX6 k).2.2.1 = some (tyX6 k) := by decide +kernel
abbrev cX6_init : ByteArray := prog_1_method_1_code
def yX6_init : MethodName := ⟨RX6, "<init>", "()V"⟩
abbrev cX6_puzzle : ByteArray := prog_1_method_2_code
def yX6_puzzle : MethodName := ⟨RX6, "puzzle", "()I"⟩
abbrev cX6_give : ByteArray := prog_1_method_3_code
def yX6_give : MethodName := ⟨RX6, "give", "(III)I"⟩
abbrev cX6_addCage : ByteArray := prog_1_method_4_code
def yX6_addCage : MethodName := ⟨RX6, "addCage", "(III)I"⟩
abbrev cX6_make : ByteArray := prog_1_method_5_code
def yX6_make : MethodName := ⟨RX6, "make", "(II)I"⟩
abbrev cX6_given : ByteArray := prog_1_method_6_code
def yX6_given : MethodName := ⟨RX6, "given", "(II)I"⟩
abbrev cX6_givens : ByteArray := prog_1_method_7_code
def yX6_givens : MethodName := ⟨RX6, "givens", "(I)I"⟩
abbrev cX6_solutions : ByteArray := prog_1_method_8_code
def yX6_solutions : MethodName := ⟨RX6, "solutions", "(I)I"⟩
abbrev cX6_solution : ByteArray := prog_1_method_9_code
def yX6_solution : MethodName := ⟨RX6, "solution", "(II)I"⟩
abbrev cX6_solve : ByteArray := prog_1_method_10_code
def yX6_solve : MethodName := ⟨RX6, "solve", "(I)C"⟩
abbrev cX6_steps : ByteArray := prog_1_method_11_code
def yX6_steps : MethodName := ⟨RX6, "steps", "(I)I"⟩
abbrev cX6_stepAt : ByteArray := prog_1_method_12_code
def yX6_stepAt : MethodName := ⟨RX6, "stepAt", "(II)I"⟩
abbrev cX6_grade : ByteArray := prog_1_method_13_code
def yX6_grade : MethodName := ⟨RX6, "grade", "(I)I"⟩
abbrev cX6_isMinimal : ByteArray := prog_1_method_14_code
def yX6_isMinimal : MethodName := ⟨RX6, "isMinimal", "(I)Z"⟩
abbrev cX6_areAlike : ByteArray := prog_1_method_15_code
def yX6_areAlike : MethodName := ⟨RX6, "areAlike", "(II)Z"⟩
abbrev cX6_begin : ByteArray := prog_1_method_16_code
def yX6_begin : MethodName := ⟨RX6, "begin", "(I)I"⟩
abbrev cX6_tell : ByteArray := prog_1_method_17_code
def yX6_tell : MethodName := ⟨RX6, "tell", "(III)I"⟩
abbrev cX6_reason : ByteArray := prog_1_method_18_code
def yX6_reason : MethodName := ⟨RX6, "reason", "()I"⟩
abbrev cX6_candidates : ByteArray := prog_1_method_19_code
def yX6_candidates : MethodName := ⟨RX6, "candidates", "(I)I"⟩
abbrev cX6_isWhole : ByteArray := prog_1_method_20_code
def yX6_isWhole : MethodName := ⟨RX6, "isWhole", "()Z"⟩
abbrev cX6_mark : ByteArray := prog_1_method_21_code
def yX6_mark : MethodName := ⟨RX6, "mark", "(III)I"⟩
abbrev cX6_marked : ByteArray := prog_1_method_22_code
def yX6_marked : MethodName := ⟨RX6, "marked", "(II)I"⟩
abbrev cX6_wrong : ByteArray := prog_1_method_23_code
def yX6_wrong : MethodName := ⟨RX6, "wrong", "(I)I"⟩
abbrev cX6_hint : ByteArray := prog_1_method_24_code
def yX6_hint : MethodName := ⟨RX6, "hint", "(I)I"⟩
abbrev cX6_checksum : ByteArray := prog_1_method_25_code
def yX6_checksum : MethodName := ⟨RX6, "checksum", "()J"⟩
abbrev cX6_solvedShare : ByteArray := prog_1_method_26_code
def yX6_solvedShare : MethodName := ⟨RX6, "solvedShare", "()F"⟩
abbrev cX6_meanGivens : ByteArray := prog_1_method_27_code
def yX6_meanGivens : MethodName := ⟨RX6, "meanGivens", "()D"⟩
abbrev cX6_isSound : ByteArray := prog_1_method_28_code
def yX6_isSound : MethodName := ⟨RX6, "isSound", "()Z"⟩
abbrev cX6_puzzleAt : ByteArray := prog_1_method_29_code
def yX6_puzzleAt : MethodName := ⟨RX6, "puzzleAt", "(I)LPegboardry$Puzzle;"⟩
abbrev cX6_checkCell : ByteArray := prog_1_method_30_code
def yX6_checkCell : MethodName := ⟨RX6, "checkCell", "(I)V"⟩
abbrev cX6_checkValueOrNone : ByteArray := prog_1_method_31_code
def yX6_checkValueOrNone : MethodName := ⟨RX6, "checkValueOrNone", "(I)V"⟩
abbrev cX6_checkProof : ByteArray := prog_1_method_32_code
def yX6_checkProof : MethodName := ⟨RX6, "checkProof", "()V"⟩
abbrev cX6_lowestWrongCell : ByteArray := prog_1_method_33_code
def yX6_lowestWrongCell : MethodName := ⟨RX6, "lowestWrongCell", "(LPegboardry$Puzzle;)I"⟩
abbrev cX6_isOnlySolution : ByteArray := prog_1_method_34_code
def yX6_isOnlySolution : MethodName := ⟨RX6, "isOnlySolution", "(LPegboardry$Board;LPegboardry$Search;)Z"⟩
abbrev cX6_bitOf : ByteArray := prog_1_method_35_code
def yX6_bitOf : MethodName := ⟨RX6, "bitOf", "(I)I"⟩
abbrev cX6_lineBits : ByteArray := prog_1_method_36_code
def yX6_lineBits : MethodName := ⟨RX6, "lineBits", "(II)I"⟩
abbrev cX6_cellOfLine : ByteArray := prog_1_method_37_code
def yX6_cellOfLine : MethodName := ⟨RX6, "cellOfLine", "(II)I"⟩
abbrev cX6_giveAllCells : ByteArray := prog_1_method_38_code
def yX6_giveAllCells : MethodName := ⟨RX6, "giveAllCells", "(LPegboardry$Puzzle;LPegboardry$Draws;)V"⟩
abbrev cX6_takeGivensAway : ByteArray := prog_1_method_39_code
def yX6_takeGivensAway : MethodName := ⟨RX6, "takeGivensAway", "(LPegboardry$Puzzle;LPegboardry$Draws;I)V"⟩
abbrev cX6_areRenamed : ByteArray := prog_1_method_40_code
def yX6_areRenamed : MethodName := ⟨RX6, "areRenamed", "(LPegboardry$Puzzle;LPegboardry$Puzzle;I)Z"⟩
abbrev cX6_seenFrom : ByteArray := prog_1_method_41_code
def yX6_seenFrom : MethodName := ⟨RX6, "seenFrom", "(II)I"⟩
def RX7 : String := "PegboardryModel$Cage"
def TX7 : u_T := fun k => match k with
  | 0 => ("PegboardryModel$Cage", "cells", "I", true)
  | _ => ("PegboardryModel$Cage", "sum", "I", true)
def tyX7 : Nat → FieldType := fun k => match k with
  | 0 => .int
  | _ => .int
abbrev wsX70 : List Cond := u_ws RX7 TX7 2
theorem nmX7 : ∀ a, a < 2 → ∀ b, b < 2 → a ≠ b → (TX7 a).2.1 ≠ (TX7 b).2.1 := by decide +kernel
theorem tyX7_ok : ∀ k, k < 2 → parseFieldDescriptor (TX7 k).2.2.1 = some (tyX7 k) := by decide +kernel
abbrev cX7_init : ByteArray := prog_10_method_1_code
def yX7_init : MethodName := ⟨RX7, "<init>", "(II)V"⟩
abbrev cX7_has : ByteArray := prog_10_method_2_code
def yX7_has : MethodName := ⟨RX7, "has", "(I)Z"⟩
abbrev cX7_fits : ByteArray := prog_10_method_3_code
def yX7_fits : MethodName := ⟨RX7, "fits", "(II[I[I)Z"⟩
def RX8 : String := "PegboardryModel$Puzzle"
def TX8 : u_T := fun k => match k with
  | 0 => ("PegboardryModel$Puzzle", "givens", "[I", true)
  | 1 => ("PegboardryModel$Puzzle", "marks", "[I", true)
  | _ => ("PegboardryModel$Puzzle", "cages", "Ljava/util/List;", true)
def tyX8 : Nat → FieldType := fun k => match k with
  | 0 => .array .int
  | 1 => .array .int
  | _ => .object "java/util/List"
abbrev wsX80 : List Cond := u_ws RX8 TX8 3
theorem nmX8 : ∀ a, a < 3 → ∀ b, b < 3 → a ≠ b → (TX8 a).2.1 ≠ (TX8 b).2.1 := by decide +kernel
theorem tyX8_ok : ∀ k, k < 3 → parseFieldDescriptor (TX8 k).2.2.1 = some (tyX8 k) := by decide +kernel
abbrev cX8_init : ByteArray := prog_11_method_1_code
def yX8_init : MethodName := ⟨RX8, "<init>", "()V"⟩
abbrev cX8_isTaken : ByteArray := prog_11_method_2_code
def yX8_isTaken : MethodName := ⟨RX8, "isTaken", "(III[I)Z"⟩
abbrev cX8_byOnly : ByteArray := prog_11_method_3_code
def yX8_byOnly : MethodName := ⟨RX8, "byOnly", "(II[I)Z"⟩
abbrev cX8_byPlace : ByteArray := prog_11_method_4_code
def yX8_byPlace : MethodName := ⟨RX8, "byPlace", "(II[I)Z"⟩
abbrev cX8_byPair : ByteArray := prog_11_method_5_code
def yX8_byPair : MethodName := ⟨RX8, "byPair", "(II[I)Z"⟩
abbrev cX8_byCage : ByteArray := prog_11_method_6_code
def yX8_byCage : MethodName := ⟨RX8, "byCage", "(II[I)Z"⟩
abbrev cX8_isAllowed : ByteArray := prog_11_method_7_code
def yX8_isAllowed : MethodName := ⟨RX8, "isAllowed", "(I[I)Z"⟩
abbrev cX8_areSums : ByteArray := prog_11_method_8_code
def yX8_areSums : MethodName := ⟨RX8, "areSums", "([I)Z"⟩
abbrev cX8_count : ByteArray := prog_11_method_9_code
def yX8_count : MethodName := ⟨RX8, "count", "(I[I[I)I"⟩
abbrev cX8_solutions : ByteArray := prog_11_method_10_code
def yX8_solutions : MethodName := ⟨RX8, "solutions", "([I)I"⟩
def RX9 : String := "PegboardryModel$Way"
def TX9 : u_T := fun k => match k with
  | 0 => ("PegboardryModel$Way", "candidates", "[I", true)
  | 1 => ("PegboardryModel$Way", "steps", "Ljava/util/List;", true)
  | _ => ("PegboardryModel$Way", "single", "Ljava/util/List;", true)
def tyX9 : Nat → FieldType := fun k => match k with
  | 0 => .array .int
  | 1 => .object "java/util/List"
  | _ => .object "java/util/List"
abbrev wsX90 : List Cond := u_ws RX9 TX9 3
theorem nmX9 : ∀ a, a < 3 → ∀ b, b < 3 → a ≠ b → (TX9 a).2.1 ≠ (TX9 b).2.1 := by decide +kernel
theorem tyX9_ok : ∀ k, k < 3 → parseFieldDescriptor (TX9 k).2.2.1 = some (tyX9 k) := by decide +kernel
abbrev cX9_init : ByteArray := prog_12_method_1_code
def yX9_init : MethodName := ⟨RX9, "<init>", "(LPegboardryModel$Puzzle;I)V"⟩
abbrev cX9_next : ByteArray := prog_12_method_2_code
def yX9_next : MethodName := ⟨RX9, "next", "(LPegboardryModel$Puzzle;I)I"⟩
abbrev cX9_state : ByteArray := prog_12_method_3_code
def yX9_state : MethodName := ⟨RX9, "state", "()C"⟩
def RX10 : String := "PegboardryModel"
def TX10 : u_T := fun k => match k with
  | 0 => ("PegboardryModel", "thrown", "I", false)
  | 1 => ("PegboardryModel", "puzzles", "Ljava/util/List;", true)
  | 2 => ("PegboardryModel", "z", "J", false)
  | 3 => ("PegboardryModel", "proved", "LPegboardryModel$Puzzle;", false)
  | 4 => ("PegboardryModel", "proof", "[I", true)
  | _ => ("PegboardryModel", "reason", "I", false)
def tyX10 : Nat → FieldType := fun k => match k with
  | 0 => .int
  | 1 => .object "java/util/List"
  | 2 => .long
  | 3 => .object "PegboardryModel$Puzzle"
  | 4 => .array .int
  | _ => .int
abbrev wsX100 : List Cond := u_ws RX10 TX10 6
theorem nmX10 : ∀ a, a < 6 → ∀ b, b < 6 → a ≠ b → (TX10 a).2.1 ≠ (TX10 b).2.1 := by decide +kernel
theorem tyX10_ok : ∀ k, k < 6 → parseFieldDescriptor (TX10 k).2.2.1 = some (tyX10 k) := by decide +kernel
abbrev cX10_init : ByteArray := prog_9_method_1_code
def yX10_init : MethodName := ⟨RX10, "<init>", "()V"⟩
abbrev cX10_thrown : ByteArray := prog_9_method_2_code
def yX10_thrown : MethodName := ⟨RX10, "thrown", "()I"⟩
abbrev cX10_isWrong : ByteArray := prog_9_method_3_code
def yX10_isWrong : MethodName := ⟨RX10, "isWrong", "(I)Z"⟩
abbrev cX10_isBetween : ByteArray := prog_9_method_4_code
def yX10_isBetween : MethodName := ⟨RX10, "isBetween", "(III)Z"⟩
abbrev cX10_isCell : ByteArray := prog_9_method_5_code
def yX10_isCell : MethodName := ⟨RX10, "isCell", "(I)Z"⟩
abbrev cX10_isIn : ByteArray := prog_9_method_6_code
def yX10_isIn : MethodName := ⟨RX10, "isIn", "(II)Z"⟩
abbrev cX10_areInLine : ByteArray := prog_9_method_7_code
def yX10_areInLine : MethodName := ⟨RX10, "areInLine", "(II)Z"⟩
abbrev cX10_isPuzzle : ByteArray := prog_9_method_8_code
def yX10_isPuzzle : MethodName := ⟨RX10, "isPuzzle", "(I)Z"⟩
abbrev cX10_isNone : ByteArray := prog_9_method_9_code
def yX10_isNone : MethodName := ⟨RX10, "isNone", "(I)Z"⟩
abbrev cX10_isNoCell : ByteArray := prog_9_method_10_code
def yX10_isNoCell : MethodName := ⟨RX10, "isNoCell", "(II)Z"⟩
abbrev cX10_way : ByteArray := prog_9_method_11_code
def yX10_way : MethodName := ⟨RX10, "way", "(I)LPegboardryModel$Way;"⟩
abbrev cX10_puzzle : ByteArray := prog_9_method_12_code
def yX10_puzzle : MethodName := ⟨RX10, "puzzle", "()I"⟩
abbrev cX10_give : ByteArray := prog_9_method_13_code
def yX10_give : MethodName := ⟨RX10, "give", "(III)I"⟩
abbrev cX10_addCage : ByteArray := prog_9_method_14_code
def yX10_addCage : MethodName := ⟨RX10, "addCage", "(III)I"⟩
abbrev cX10_draw : ByteArray := prog_9_method_15_code
def yX10_draw : MethodName := ⟨RX10, "draw", "(I)I"⟩
abbrev cX10_make : ByteArray := prog_9_method_16_code
def yX10_make : MethodName := ⟨RX10, "make", "(II)I"⟩
abbrev cX10_changes : ByteArray := prog_9_method_17_code
def yX10_changes : MethodName := ⟨RX10, "changes", "(LPegboardryModel$Puzzle;ZII)V"⟩
abbrev cX10_given : ByteArray := prog_9_method_18_code
def yX10_given : MethodName := ⟨RX10, "given", "(II)I"⟩
abbrev cX10_many : ByteArray := prog_9_method_19_code
def yX10_many : MethodName := ⟨RX10, "many", "([I)I"⟩
abbrev cX10_givens : ByteArray := prog_9_method_20_code
def yX10_givens : MethodName := ⟨RX10, "givens", "(I)I"⟩
abbrev cX10_solutions : ByteArray := prog_9_method_21_code
def yX10_solutions : MethodName := ⟨RX10, "solutions", "(I)I"⟩
abbrev cX10_solution : ByteArray := prog_9_method_22_code
def yX10_solution : MethodName := ⟨RX10, "solution", "(II)I"⟩
abbrev cX10_solve : ByteArray := prog_9_method_23_code
def yX10_solve : MethodName := ⟨RX10, "solve", "(I)C"⟩
abbrev cX10_steps : ByteArray := prog_9_method_24_code
def yX10_steps : MethodName := ⟨RX10, "steps", "(I)I"⟩
abbrev cX10_stepAt : ByteArray := prog_9_method_25_code
def yX10_stepAt : MethodName := ⟨RX10, "stepAt", "(II)I"⟩
abbrev cX10_grade : ByteArray := prog_9_method_26_code
def yX10_grade : MethodName := ⟨RX10, "grade", "(I)I"⟩
abbrev cX10_isMinimal : ByteArray := prog_9_method_27_code
def yX10_isMinimal : MethodName := ⟨RX10, "isMinimal", "(I)Z"⟩
abbrev cX10_from : ByteArray := prog_9_method_28_code
def yX10_from : MethodName := ⟨RX10, "from", "(II)I"⟩
abbrev cX10_areSame : ByteArray := prog_9_method_29_code
def yX10_areSame : MethodName := ⟨RX10, "areSame", "(I[I[I)Z"⟩
abbrev cX10_areAlike : ByteArray := prog_9_method_30_code
def yX10_areAlike : MethodName := ⟨RX10, "areAlike", "(II)Z"⟩
abbrev cX10_begin : ByteArray := prog_9_method_31_code
def yX10_begin : MethodName := ⟨RX10, "begin", "(I)I"⟩
abbrev cX10_tell : ByteArray := prog_9_method_32_code
def yX10_tell : MethodName := ⟨RX10, "tell", "(III)I"⟩
abbrev cX10_reason : ByteArray := prog_9_method_33_code
def yX10_reason : MethodName := ⟨RX10, "reason", "()I"⟩
abbrev cX10_candidates : ByteArray := prog_9_method_34_code
def yX10_candidates : MethodName := ⟨RX10, "candidates", "(I)I"⟩
abbrev cX10_isWhole : ByteArray := prog_9_method_35_code
def yX10_isWhole : MethodName := ⟨RX10, "isWhole", "()Z"⟩
abbrev cX10_mark : ByteArray := prog_9_method_36_code
def yX10_mark : MethodName := ⟨RX10, "mark", "(III)I"⟩
abbrev cX10_marked : ByteArray := prog_9_method_37_code
def yX10_marked : MethodName := ⟨RX10, "marked", "(II)I"⟩
abbrev cX10_wrong : ByteArray := prog_9_method_38_code
def yX10_wrong : MethodName := ⟨RX10, "wrong", "(LPegboardryModel$Puzzle;)I"⟩
abbrev cX10_wrong_ : ByteArray := prog_9_method_39_code
def yX10_wrong_ : MethodName := ⟨RX10, "wrong", "(I)I"⟩
abbrev cX10_hint : ByteArray := prog_9_method_40_code
def yX10_hint : MethodName := ⟨RX10, "hint", "(I)I"⟩
abbrev cX10_checksum : ByteArray := prog_9_method_41_code
def yX10_checksum : MethodName := ⟨RX10, "checksum", "()J"⟩
abbrev cX10_solvedShare : ByteArray := prog_9_method_42_code
def yX10_solvedShare : MethodName := ⟨RX10, "solvedShare", "()F"⟩
abbrev cX10_meanGivens : ByteArray := prog_9_method_43_code
def yX10_meanGivens : MethodName := ⟨RX10, "meanGivens", "()D"⟩
abbrev cX10_isSound : ByteArray := prog_9_method_44_code
def yX10_isSound : MethodName := ⟨RX10, "isSound", "()Z"⟩
def RJx145de : String := "java/io/Serializable"
def TJx145de : u_T := fun k => match k with
  | _ => ("", "", "", false)
def tyJx145de : Nat → FieldType := fun k => match k with
  | _ => .int
abbrev wsJx145de0 : List Cond := u_ws RJx145de TJx145de 0
theorem nmJx145de : ∀ a, a < 0 → ∀ b, b < 0 → a ≠ b → (TJx145de a).2.1 ≠ (TJx145de b).2.1 := by decide +kernel
theorem tyJx145de_ok : ∀ k, k < 0 → parseFieldDescriptor (TJx145de k).2.2.1 = some (tyJx145de k) := by decide +kernel
def RJx00060 : String := "java/lang/ArrayIndexOutOfBoundsException"
def TJx00060 : u_T := fun k => match k with
  | 0 => ("java/lang/Throwable", "backtrace", "Ljava/lang/Object;", false)
  | 1 => ("java/lang/Throwable", "detailMessage", "Ljava/lang/String;", false)
  | 2 => ("java/lang/Throwable", "cause", "Ljava/lang/Throwable;", false)
  | 3 => ("java/lang/Throwable", "stackTrace", "[Ljava/lang/StackTraceElement;", false)
  | 4 => ("java/lang/Throwable", "depth", "I", false)
  | _ => ("java/lang/Throwable", "suppressedExceptions", "Ljava/util/List;", false)
def tyJx00060 : Nat → FieldType := fun k => match k with
  | 0 => .object "java/lang/Object"
  | 1 => .object "java/lang/String"
  | 2 => .object "java/lang/Throwable"
  | 3 => .array (.object "java/lang/StackTraceElement")
  | 4 => .int
  | _ => .object "java/util/List"
abbrev wsJx000600 : List Cond := u_ws RJx00060 TJx00060 6
theorem nmJx00060 : ∀ a, a < 6 → ∀ b, b < 6 → a ≠ b → (TJx00060 a).2.1 ≠ (TJx00060 b).2.1 := by decide +kernel
theorem tyJx00060_ok : ∀ k, k < 6 → parseFieldDescriptor (TJx00060 k).2.2.1 = some (tyJx00060 k) := by decide +kernel
abbrev cJx00060_init_a7421 : ByteArray := prog_15_method_2_code
def yJx00060_init_a7421 : MethodName := ⟨RJx00060, "<init>", "(Ljava/lang/String;)V"⟩
def RJx8e188 : String := "java/lang/Cloneable"
def TJx8e188 : u_T := fun k => match k with
  | _ => ("", "", "", false)
def tyJx8e188 : Nat → FieldType := fun k => match k with
  | _ => .int
abbrev wsJx8e1880 : List Cond := u_ws RJx8e188 TJx8e188 0
theorem nmJx8e188 : ∀ a, a < 0 → ∀ b, b < 0 → a ≠ b → (TJx8e188 a).2.1 ≠ (TJx8e188 b).2.1 := by decide +kernel
theorem tyJx8e188_ok : ∀ k, k < 0 → parseFieldDescriptor (TJx8e188 k).2.2.1 = some (tyJx8e188 k) := by decide +kernel
def RJxb160c : String := "java/lang/Comparable"
def TJxb160c : u_T := fun k => match k with
  | _ => ("", "", "", false)
def tyJxb160c : Nat → FieldType := fun k => match k with
  | _ => .int
abbrev wsJxb160c0 : List Cond := u_ws RJxb160c TJxb160c 0
theorem nmJxb160c : ∀ a, a < 0 → ∀ b, b < 0 → a ≠ b → (TJxb160c a).2.1 ≠ (TJxb160c b).2.1 := by decide +kernel
theorem tyJxb160c_ok : ∀ k, k < 0 → parseFieldDescriptor (TJxb160c k).2.2.1 = some (tyJxb160c k) := by decide +kernel
def RJxabbfe : String := "java/lang/Integer$IntegerCache"
def TJxabbfe : u_T := fun k => match k with
  | _ => ("", "", "", false)
def tyJxabbfe : Nat → FieldType := fun k => match k with
  | _ => .int
abbrev wsJxabbfe0 : List Cond := u_ws RJxabbfe TJxabbfe 0
theorem nmJxabbfe : ∀ a, a < 0 → ∀ b, b < 0 → a ≠ b → (TJxabbfe a).2.1 ≠ (TJxabbfe b).2.1 := by decide +kernel
theorem tyJxabbfe_ok : ∀ k, k < 0 → parseFieldDescriptor (TJxabbfe k).2.2.1 = some (tyJxabbfe k) := by decide +kernel
def RJ6 : String := "java/lang/Integer"
def TJ6 : u_T := fun k => match k with
  | _ => ("java/lang/Integer", "value", "I", true)
def tyJ6 : Nat → FieldType := fun k => match k with
  | _ => .int
abbrev wsJ60 : List Cond := u_ws RJ6 TJ6 1
theorem nmJ6 : ∀ a, a < 1 → ∀ b, b < 1 → a ≠ b → (TJ6 a).2.1 ≠ (TJ6 b).2.1 := by decide +kernel
theorem tyJ6_ok : ∀ k, k < 1 → parseFieldDescriptor (TJ6 k).2.2.1 = some (tyJ6 k) := by decide +kernel
abbrev cJ6_valueOf_2dffe : ByteArray := prog_22_method_22_code
def yJ6_valueOf_2dffe : MethodName := ⟨RJ6, "valueOf", "(I)Ljava/lang/Integer;"⟩
abbrev cJ6_init_d00df : ByteArray := prog_22_method_23_code
def yJ6_init_d00df : MethodName := ⟨RJ6, "<init>", "(I)V"⟩
abbrev cJ6_intValue_8abf5 : ByteArray := prog_22_method_27_code
def yJ6_intValue_8abf5 : MethodName := ⟨RJ6, "intValue", "()I"⟩
abbrev cJ6_numberOfTrailingZeros_0f7a4 : ByteArray := prog_22_method_48_code
def yJ6_numberOfTrailingZeros_0f7a4 : MethodName := ⟨RJ6, "numberOfTrailingZeros", "(I)I"⟩
abbrev cJ6_bitCount_0f7a4 : ByteArray := prog_22_method_49_code
def yJ6_bitCount_0f7a4 : MethodName := ⟨RJ6, "bitCount", "(I)I"⟩
def RJxab1ab : String := "java/lang/Iterable"
def TJxab1ab : u_T := fun k => match k with
  | _ => ("", "", "", false)
def tyJxab1ab : Nat → FieldType := fun k => match k with
  | _ => .int
abbrev wsJxab1ab0 : List Cond := u_ws RJxab1ab TJxab1ab 0
theorem nmJxab1ab : ∀ a, a < 0 → ∀ b, b < 0 → a ≠ b → (TJxab1ab a).2.1 ≠ (TJxab1ab b).2.1 := by decide +kernel
theorem tyJxab1ab_ok : ∀ k, k < 0 → parseFieldDescriptor (TJxab1ab k).2.2.1 = some (tyJxab1ab k) := by decide +kernel
def RJ9 : String := "java/lang/Math"
def TJ9 : u_T := fun k => match k with
  | _ => ("", "", "", false)
def tyJ9 : Nat → FieldType := fun k => match k with
  | _ => .int
abbrev wsJ90 : List Cond := u_ws RJ9 TJ9 0
theorem nmJ9 : ∀ a, a < 0 → ∀ b, b < 0 → a ≠ b → (TJ9 a).2.1 ≠ (TJ9 b).2.1 := by decide +kernel
theorem tyJ9_ok : ∀ k, k < 0 → parseFieldDescriptor (TJ9 k).2.2.1 = some (tyJ9 k) := by decide +kernel
abbrev cJ9_max_7cf53 : ByteArray := prog_25_method_65_code
def yJ9_max_7cf53 : MethodName := ⟨RJ9, "max", "(II)I"⟩
abbrev cJ9_min_7cf53 : ByteArray := prog_25_method_69_code
def yJ9_min_7cf53 : MethodName := ⟨RJ9, "min", "(II)I"⟩
def RJxd2413 : String := "java/lang/Number"
def TJxd2413 : u_T := fun k => match k with
  | _ => ("", "", "", false)
def tyJxd2413 : Nat → FieldType := fun k => match k with
  | _ => .int
abbrev wsJxd24130 : List Cond := u_ws RJxd2413 TJxd2413 0
theorem nmJxd2413 : ∀ a, a < 0 → ∀ b, b < 0 → a ≠ b → (TJxd2413 a).2.1 ≠ (TJxd2413 b).2.1 := by decide +kernel
theorem tyJxd2413_ok : ∀ k, k < 0 → parseFieldDescriptor (TJxd2413 k).2.2.1 = some (tyJxd2413 k) := by decide +kernel
abbrev cJxd2413_init_da8c8 : ByteArray := prog_26_method_1_code
def yJxd2413_init_da8c8 : MethodName := ⟨RJxd2413, "<init>", "()V"⟩
def RJ0 : String := "java/lang/String"
def TJ0 : u_T := fun k => match k with
  | 0 => ("java/lang/String", "value", "[B", true)
  | _ => ("java/lang/String", "coder", "B", true)
def tyJ0 : Nat → FieldType := fun k => match k with
  | 0 => .array .byte
  | _ => .byte
abbrev wsJ00 : List Cond := u_ws RJ0 TJ0 2
theorem nmJ0 : ∀ a, a < 2 → ∀ b, b < 2 → a ≠ b → (TJ0 a).2.1 ≠ (TJ0 b).2.1 := by decide +kernel
theorem tyJ0_ok : ∀ k, k < 2 → parseFieldDescriptor (TJ0 k).2.2.1 = some (tyJ0 k) := by decide +kernel
def RJ10 : String := "java/lang/System"
def TJ10 : u_T := fun k => match k with
  | _ => ("", "", "", false)
def tyJ10 : Nat → FieldType := fun k => match k with
  | _ => .int
abbrev wsJ100 : List Cond := u_ws RJ10 TJ10 0
theorem nmJ10 : ∀ a, a < 0 → ∀ b, b < 0 → a ≠ b → (TJ10 a).2.1 ≠ (TJ10 b).2.1 := by decide +kernel
theorem tyJ10_ok : ∀ k, k < 0 → parseFieldDescriptor (TJ10 k).2.2.1 = some (tyJ10 k) := by decide +kernel
def RJxfd54e : String := "java/lang/constant/Constable"
def TJxfd54e : u_T := fun k => match k with
  | _ => ("", "", "", false)
def tyJxfd54e : Nat → FieldType := fun k => match k with
  | _ => .int
abbrev wsJxfd54e0 : List Cond := u_ws RJxfd54e TJxfd54e 0
theorem nmJxfd54e : ∀ a, a < 0 → ∀ b, b < 0 → a ≠ b → (TJxfd54e a).2.1 ≠ (TJxfd54e b).2.1 := by decide +kernel
theorem tyJxfd54e_ok : ∀ k, k < 0 → parseFieldDescriptor (TJxfd54e k).2.2.1 = some (tyJxfd54e k) := by decide +kernel
def RJx3cf43 : String := "java/lang/constant/ConstantDesc"
def TJx3cf43 : u_T := fun k => match k with
  | _ => ("", "", "", false)
def tyJx3cf43 : Nat → FieldType := fun k => match k with
  | _ => .int
abbrev wsJx3cf430 : List Cond := u_ws RJx3cf43 TJx3cf43 0
theorem nmJx3cf43 : ∀ a, a < 0 → ∀ b, b < 0 → a ≠ b → (TJx3cf43 a).2.1 ≠ (TJx3cf43 b).2.1 := by decide +kernel
theorem tyJx3cf43_ok : ∀ k, k < 0 → parseFieldDescriptor (TJx3cf43 k).2.2.1 = some (tyJx3cf43 k) := by decide +kernel
def RJxa1e45 : String := "java/util/AbstractCollection"
def TJxa1e45 : u_T := fun k => match k with
  | _ => ("", "", "", false)
def tyJxa1e45 : Nat → FieldType := fun k => match k with
  | _ => .int
abbrev wsJxa1e450 : List Cond := u_ws RJxa1e45 TJxa1e45 0
theorem nmJxa1e45 : ∀ a, a < 0 → ∀ b, b < 0 → a ≠ b → (TJxa1e45 a).2.1 ≠ (TJxa1e45 b).2.1 := by decide +kernel
theorem tyJxa1e45_ok : ∀ k, k < 0 → parseFieldDescriptor (TJxa1e45 k).2.2.1 = some (tyJxa1e45 k) := by decide +kernel
abbrev cJxa1e45_init_da8c8 : ByteArray := prog_34_method_1_code
def yJxa1e45_init_da8c8 : MethodName := ⟨RJxa1e45, "<init>", "()V"⟩
def RJxc12de : String := "java/util/AbstractList"
def TJxc12de : u_T := fun k => match k with
  | _ => ("", "", "", false)
def tyJxc12de : Nat → FieldType := fun k => match k with
  | _ => .int
abbrev wsJxc12de0 : List Cond := u_ws RJxc12de TJxc12de 0
theorem nmJxc12de : ∀ a, a < 0 → ∀ b, b < 0 → a ≠ b → (TJxc12de a).2.1 ≠ (TJxc12de b).2.1 := by decide +kernel
theorem tyJxc12de_ok : ∀ k, k < 0 → parseFieldDescriptor (TJxc12de k).2.2.1 = some (tyJxc12de k) := by decide +kernel
abbrev cJxc12de_init_da8c8 : ByteArray := prog_35_method_1_code
def yJxc12de_init_da8c8 : MethodName := ⟨RJxc12de, "<init>", "()V"⟩
def RJx35411 : String := "java/util/ArrayList$Itr"
def TJx35411 : u_T := fun k => match k with
  | 0 => ("java/util/ArrayList$Itr", "cursor", "I", false)
  | 1 => ("java/util/ArrayList$Itr", "lastRet", "I", false)
  | 2 => ("java/util/ArrayList$Itr", "expectedModCount", "I", false)
  | _ => ("java/util/ArrayList$Itr", "this$0", "Ljava/util/ArrayList;", true)
def tyJx35411 : Nat → FieldType := fun k => match k with
  | 0 => .int
  | 1 => .int
  | 2 => .int
  | _ => .object "java/util/ArrayList"
abbrev wsJx354110 : List Cond := u_ws RJx35411 TJx35411 4
theorem nmJx35411 : ∀ a, a < 4 → ∀ b, b < 4 → a ≠ b → (TJx35411 a).2.1 ≠ (TJx35411 b).2.1 := by decide +kernel
theorem tyJx35411_ok : ∀ k, k < 4 → parseFieldDescriptor (TJx35411 k).2.2.1 = some (tyJx35411 k) := by decide +kernel
abbrev cJx35411_init_45d68 : ByteArray := prog_37_method_1_code
def yJx35411_init_45d68 : MethodName := ⟨RJx35411, "<init>", "(Ljava/util/ArrayList;)V"⟩
abbrev cJx35411_hasNext_aae02 : ByteArray := prog_37_method_2_code
def yJx35411_hasNext_aae02 : MethodName := ⟨RJx35411, "hasNext", "()Z"⟩
abbrev cJx35411_next_0502b : ByteArray := prog_37_method_3_code
def yJx35411_next_0502b : MethodName := ⟨RJx35411, "next", "()Ljava/lang/Object;"⟩
abbrev cJx35411_checkForComodification_da8c8 : ByteArray := prog_37_method_6_code
def yJx35411_checkForComodification_da8c8 : MethodName := ⟨RJx35411, "checkForComodification", "()V"⟩
def RJx4a65c : String := "java/util/ArrayList"
def TJx4a65c : u_T := fun k => match k with
  | 0 => ("java/util/AbstractList", "modCount", "I", false)
  | 1 => ("java/util/ArrayList", "elementData", "[Ljava/lang/Object;", false)
  | _ => ("java/util/ArrayList", "size", "I", false)
def tyJx4a65c : Nat → FieldType := fun k => match k with
  | 0 => .int
  | 1 => .array (.object "java/lang/Object")
  | _ => .int
abbrev wsJx4a65c0 : List Cond := u_ws RJx4a65c TJx4a65c 3
theorem nmJx4a65c : ∀ a, a < 3 → ∀ b, b < 3 → a ≠ b → (TJx4a65c a).2.1 ≠ (TJx4a65c b).2.1 := by decide +kernel
theorem tyJx4a65c_ok : ∀ k, k < 3 → parseFieldDescriptor (TJx4a65c k).2.2.1 = some (tyJx4a65c k) := by decide +kernel
abbrev cJx4a65c_init_da8c8 : ByteArray := prog_36_method_2_code
def yJx4a65c_init_da8c8 : MethodName := ⟨RJx4a65c, "<init>", "()V"⟩
abbrev cJx4a65c_grow_92f84 : ByteArray := prog_36_method_6_code
def yJx4a65c_grow_92f84 : MethodName := ⟨RJx4a65c, "grow", "(I)[Ljava/lang/Object;"⟩
abbrev cJx4a65c_grow_d5877 : ByteArray := prog_36_method_7_code
def yJx4a65c_grow_d5877 : MethodName := ⟨RJx4a65c, "grow", "()[Ljava/lang/Object;"⟩
abbrev cJx4a65c_size_8abf5 : ByteArray := prog_36_method_8_code
def yJx4a65c_size_8abf5 : MethodName := ⟨RJx4a65c, "size", "()I"⟩
abbrev cJx4a65c_isEmpty_aae02 : ByteArray := prog_36_method_9_code
def yJx4a65c_isEmpty_aae02 : MethodName := ⟨RJx4a65c, "isEmpty", "()Z"⟩
abbrev cJx4a65c_elementData_915e3 : ByteArray := prog_36_method_18_code
def yJx4a65c_elementData_915e3 : MethodName := ⟨RJx4a65c, "elementData", "(I)Ljava/lang/Object;"⟩
abbrev cJx4a65c_get_915e3 : ByteArray := prog_36_method_20_code
def yJx4a65c_get_915e3 : MethodName := ⟨RJx4a65c, "get", "(I)Ljava/lang/Object;"⟩
abbrev cJx4a65c_add_72be8 : ByteArray := prog_36_method_24_code
def yJx4a65c_add_72be8 : MethodName := ⟨RJx4a65c, "add", "(Ljava/lang/Object;[Ljava/lang/Object;I)V"⟩
abbrev cJx4a65c_add_9ea2d : ByteArray := prog_36_method_25_code
def yJx4a65c_add_9ea2d : MethodName := ⟨RJx4a65c, "add", "(Ljava/lang/Object;)Z"⟩
abbrev cJx4a65c_iterator_32c93 : ByteArray := prog_36_method_55_code
def yJx4a65c_iterator_32c93 : MethodName := ⟨RJx4a65c, "iterator", "()Ljava/util/Iterator;"⟩
def RJ7 : String := "java/util/Arrays"
def TJ7 : u_T := fun k => match k with
  | _ => ("", "", "", false)
def tyJ7 : Nat → FieldType := fun k => match k with
  | _ => .int
abbrev wsJ70 : List Cond := u_ws RJ7 TJ7 0
theorem nmJ7 : ∀ a, a < 0 → ∀ b, b < 0 → a ≠ b → (TJ7 a).2.1 ≠ (TJ7 b).2.1 := by decide +kernel
theorem tyJ7_ok : ∀ k, k < 0 → parseFieldDescriptor (TJ7 k).2.2.1 = some (tyJ7 k) := by decide +kernel
abbrev cJ7_fill_53178 : ByteArray := prog_38_method_103_code
def yJ7_fill_53178 : MethodName := ⟨RJ7, "fill", "([II)V"⟩
abbrev cJ7_copyOf_1904c : ByteArray := prog_38_method_119_code
def yJ7_copyOf_1904c : MethodName := ⟨RJ7, "copyOf", "([Ljava/lang/Object;I)[Ljava/lang/Object;"⟩
abbrev cJ7_copyOf_6403c : ByteArray := prog_38_method_120_code
def yJ7_copyOf_6403c : MethodName := ⟨RJ7, "copyOf", "([Ljava/lang/Object;ILjava/lang/Class;)[Ljava/lang/Object;"⟩
def RJx5ef63 : String := "java/util/Collection"
def TJx5ef63 : u_T := fun k => match k with
  | _ => ("", "", "", false)
def tyJx5ef63 : Nat → FieldType := fun k => match k with
  | _ => .int
abbrev wsJx5ef630 : List Cond := u_ws RJx5ef63 TJx5ef63 0
theorem nmJx5ef63 : ∀ a, a < 0 → ∀ b, b < 0 → a ≠ b → (TJx5ef63 a).2.1 ≠ (TJx5ef63 b).2.1 := by decide +kernel
theorem tyJx5ef63_ok : ∀ k, k < 0 → parseFieldDescriptor (TJx5ef63 k).2.2.1 = some (tyJx5ef63 k) := by decide +kernel
def RJx4d0d8 : String := "java/util/Iterator"
def TJx4d0d8 : u_T := fun k => match k with
  | _ => ("", "", "", false)
def tyJx4d0d8 : Nat → FieldType := fun k => match k with
  | _ => .int
abbrev wsJx4d0d80 : List Cond := u_ws RJx4d0d8 TJx4d0d8 0
theorem nmJx4d0d8 : ∀ a, a < 0 → ∀ b, b < 0 → a ≠ b → (TJx4d0d8 a).2.1 ≠ (TJx4d0d8 b).2.1 := by decide +kernel
theorem tyJx4d0d8_ok : ∀ k, k < 0 → parseFieldDescriptor (TJx4d0d8 k).2.2.1 = some (tyJx4d0d8 k) := by decide +kernel
def RJxbd725 : String := "java/util/List"
def TJxbd725 : u_T := fun k => match k with
  | _ => ("", "", "", false)
def tyJxbd725 : Nat → FieldType := fun k => match k with
  | _ => .int
abbrev wsJxbd7250 : List Cond := u_ws RJxbd725 TJxbd725 0
theorem nmJxbd725 : ∀ a, a < 0 → ∀ b, b < 0 → a ≠ b → (TJxbd725 a).2.1 ≠ (TJxbd725 b).2.1 := by decide +kernel
theorem tyJxbd725_ok : ∀ k, k < 0 → parseFieldDescriptor (TJxbd725 k).2.2.1 = some (tyJxbd725 k) := by decide +kernel
def RJ15 : String := "java/util/Objects"
def TJ15 : u_T := fun k => match k with
  | _ => ("", "", "", false)
def tyJ15 : Nat → FieldType := fun k => match k with
  | _ => .int
abbrev wsJ150 : List Cond := u_ws RJ15 TJ15 0
theorem nmJ15 : ∀ a, a < 0 → ∀ b, b < 0 → a ≠ b → (TJ15 a).2.1 ≠ (TJ15 b).2.1 := by decide +kernel
theorem tyJ15_ok : ∀ k, k < 0 → parseFieldDescriptor (TJ15 k).2.2.1 = some (tyJ15 k) := by decide +kernel
abbrev cJ15_checkIndex_7cf53 : ByteArray := prog_43_method_17_code
def yJ15_checkIndex_7cf53 : MethodName := ⟨RJ15, "checkIndex", "(II)I"⟩
def RJxf0a74 : String := "java/util/RandomAccess"
def TJxf0a74 : u_T := fun k => match k with
  | _ => ("", "", "", false)
def tyJxf0a74 : Nat → FieldType := fun k => match k with
  | _ => .int
abbrev wsJxf0a740 : List Cond := u_ws RJxf0a74 TJxf0a74 0
theorem nmJxf0a74 : ∀ a, a < 0 → ∀ b, b < 0 → a ≠ b → (TJxf0a74 a).2.1 ≠ (TJxf0a74 b).2.1 := by decide +kernel
theorem tyJxf0a74_ok : ∀ k, k < 0 → parseFieldDescriptor (TJxf0a74 k).2.2.1 = some (tyJxf0a74 k) := by decide +kernel
def RJxa66e6 : String := "java/util/SequencedCollection"
def TJxa66e6 : u_T := fun k => match k with
  | _ => ("", "", "", false)
def tyJxa66e6 : Nat → FieldType := fun k => match k with
  | _ => .int
abbrev wsJxa66e60 : List Cond := u_ws RJxa66e6 TJxa66e6 0
theorem nmJxa66e6 : ∀ a, a < 0 → ∀ b, b < 0 → a ≠ b → (TJxa66e6 a).2.1 ≠ (TJxa66e6 b).2.1 := by decide +kernel
theorem tyJxa66e6_ok : ∀ k, k < 0 → parseFieldDescriptor (TJxa66e6 k).2.2.1 = some (tyJxa66e6 k) := by decide +kernel
def RJ8 : String := "jdk/internal/util/ArraysSupport"
def TJ8 : u_T := fun k => match k with
  | _ => ("", "", "", false)
def tyJ8 : Nat → FieldType := fun k => match k with
  | _ => .int
abbrev wsJ80 : List Cond := u_ws RJ8 TJ8 0
theorem nmJ8 : ∀ a, a < 0 → ∀ b, b < 0 → a ≠ b → (TJ8 a).2.1 ≠ (TJ8 b).2.1 := by decide +kernel
theorem tyJ8_ok : ∀ k, k < 0 → parseFieldDescriptor (TJ8 k).2.2.1 = some (tyJ8 k) := by decide +kernel
abbrev cJ8_newLength_cabcc : ByteArray := prog_46_method_27_code
def yJ8_newLength_cabcc : MethodName := ⟨RJ8, "newLength", "(III)I"⟩
abbrev cJ8_hugeLength_7cf53 : ByteArray := prog_46_method_28_code
def yJ8_hugeLength_7cf53 : MethodName := ⟨RJ8, "hugeLength", "(II)I"⟩
def RJ3 : String := "jdk/internal/util/Preconditions"
def TJ3 : u_T := fun k => match k with
  | _ => ("", "", "", false)
def tyJ3 : Nat → FieldType := fun k => match k with
  | _ => .int
abbrev wsJ30 : List Cond := u_ws RJ3 TJ3 0
theorem nmJ3 : ∀ a, a < 0 → ∀ b, b < 0 → a ≠ b → (TJ3 a).2.1 ≠ (TJ3 b).2.1 := by decide +kernel
theorem tyJ3_ok : ∀ k, k < 0 → parseFieldDescriptor (TJ3 k).2.2.1 = some (tyJ3 k) := by decide +kernel
abbrev cJ3_checkIndex_8e157 : ByteArray := prog_47_method_11_code
def yJ3_checkIndex_8e157 : MethodName := ⟨RJ3, "checkIndex", "(IILjava/util/function/BiFunction;)I"⟩
def RL : String := "PegboardryLaw"
abbrev cL_puzzle : ByteArray := method_3_code
def yL_puzzle : MethodName := ⟨RL, "puzzle", "(LPegboardry;[J)I"⟩
abbrev cL_give : ByteArray := method_4_code
def yL_give : MethodName := ⟨RL, "give", "(LPegboardry;III[J)I"⟩
abbrev cL_addCage : ByteArray := method_5_code
def yL_addCage : MethodName := ⟨RL, "addCage", "(LPegboardry;III[J)I"⟩
abbrev cL_make : ByteArray := method_6_code
def yL_make : MethodName := ⟨RL, "make", "(LPegboardry;II[J)I"⟩
abbrev cL_given : ByteArray := method_7_code
def yL_given : MethodName := ⟨RL, "given", "(LPegboardry;II[J)I"⟩
abbrev cL_givens : ByteArray := method_8_code
def yL_givens : MethodName := ⟨RL, "givens", "(LPegboardry;I[J)I"⟩
abbrev cL_solutions : ByteArray := method_9_code
def yL_solutions : MethodName := ⟨RL, "solutions", "(LPegboardry;I[J)I"⟩
abbrev cL_solution : ByteArray := method_10_code
def yL_solution : MethodName := ⟨RL, "solution", "(LPegboardry;II[J)I"⟩
abbrev cL_solve : ByteArray := method_11_code
def yL_solve : MethodName := ⟨RL, "solve", "(LPegboardry;I[J)I"⟩
abbrev cL_steps : ByteArray := method_12_code
def yL_steps : MethodName := ⟨RL, "steps", "(LPegboardry;I[J)I"⟩
abbrev cL_stepAt : ByteArray := method_13_code
def yL_stepAt : MethodName := ⟨RL, "stepAt", "(LPegboardry;II[J)I"⟩
abbrev cL_grade : ByteArray := method_14_code
def yL_grade : MethodName := ⟨RL, "grade", "(LPegboardry;I[J)I"⟩
abbrev cL_isMinimal : ByteArray := method_15_code
def yL_isMinimal : MethodName := ⟨RL, "isMinimal", "(LPegboardry;I[J)I"⟩
abbrev cL_areAlike : ByteArray := method_16_code
def yL_areAlike : MethodName := ⟨RL, "areAlike", "(LPegboardry;II[J)I"⟩
abbrev cL_begin : ByteArray := method_17_code
def yL_begin : MethodName := ⟨RL, "begin", "(LPegboardry;I[J)I"⟩
abbrev cL_tell : ByteArray := method_18_code
def yL_tell : MethodName := ⟨RL, "tell", "(LPegboardry;III[J)I"⟩
abbrev cL_candidates : ByteArray := method_19_code
def yL_candidates : MethodName := ⟨RL, "candidates", "(LPegboardry;I[J)I"⟩
abbrev cL_isWhole : ByteArray := method_20_code
def yL_isWhole : MethodName := ⟨RL, "isWhole", "(LPegboardry;[J)I"⟩
abbrev cL_mark : ByteArray := method_21_code
def yL_mark : MethodName := ⟨RL, "mark", "(LPegboardry;III[J)I"⟩
abbrev cL_marked : ByteArray := method_22_code
def yL_marked : MethodName := ⟨RL, "marked", "(LPegboardry;II[J)I"⟩
abbrev cL_wrong : ByteArray := method_23_code
def yL_wrong : MethodName := ⟨RL, "wrong", "(LPegboardry;I[J)I"⟩
abbrev cL_hint : ByteArray := method_24_code
def yL_hint : MethodName := ⟨RL, "hint", "(LPegboardry;I[J)I"⟩
abbrev cL_solvedShare : ByteArray := method_25_code
def yL_solvedShare : MethodName := ⟨RL, "solvedShare", "(LPegboardry;[D)I"⟩
abbrev cL_meanGivens : ByteArray := method_26_code
def yL_meanGivens : MethodName := ⟨RL, "meanGivens", "(LPegboardry;[D)I"⟩
abbrev cL_law : ByteArray := code
def yL_law : MethodName := ⟨RL, "law", "([I)Z"⟩
abbrev vwCl : List vw_C := [(RJ0, TJ0, 2), (RJ6, TJ6, 1), (RJx00060, TJx00060, 6), (RJx35411, TJx35411, 4), (RJx4a65c, TJx4a65c, 3), (RX0, TX0, 1), (RX1, TX1, 2), (RX2, TX2, 1), (RX3, TX3, 7), (RX4, TX4, 3), (RX5, TX5, 6), (RX6, TX6, 6), (RX7, TX7, 2), (RX8, TX8, 3), (RX9, TX9, 3), (RX10, TX10, 6)]
