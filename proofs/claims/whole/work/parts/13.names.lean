def RX0 : String := "MazeDesk$Board"
def TX0 : u_T := fun k => match k with
  | 0 => ("MazeDesk$Board", "width", "I", true)
  | 1 => ("MazeDesk$Board", "height", "I", true)
  | 2 => ("MazeDesk$Board", "cells", "I", true)
  | 3 => ("MazeDesk$Board", "cutOut", "[Z", true)
  | 4 => ("MazeDesk$Board", "beside", "[I", true)
  | 5 => ("MazeDesk$Board", "leadsTo", "[I", true)
  | 6 => ("MazeDesk$Board", "passageNumbers", "[I", true)
  | _ => ("MazeDesk$Board", "free", "I", false)
def tyX0 : Nat → FieldType := fun k => match k with
  | 0 => .int
  | 1 => .int
  | 2 => .int
  | 3 => .array .boolean
  | 4 => .array .int
  | 5 => .array .int
  | 6 => .array .int
  | _ => .int
theorem nmX0 : ∀ a, a < 8 → ∀ b, b < 8 → a ≠ b → (TX0 a).2.1 ≠ (TX0 b).2.1 := by decide +kernel
theorem tyX0_ok : ∀ k, k < 8 → parseFieldDescriptor (TX0 k).2.2.1 = some (tyX0 k) := by decide +kernel
abbrev cX0_init : ByteArray := prog_2_method_1_code
def yX0_init : MethodName := ⟨RX0, "<init>", "(III)V"⟩
abbrev cX0_placeCells : ByteArray := prog_2_method_2_code
def yX0_placeCells : MethodName := ⟨RX0, "placeCells", "(ZZ)V"⟩
abbrev cX0_acrossTo : ByteArray := prog_2_method_3_code
def yX0_acrossTo : MethodName := ⟨RX0, "acrossTo", "(ZII)I"⟩
abbrev cX0_findWays : ByteArray := prog_2_method_4_code
def yX0_findWays : MethodName := ⟨RX0, "findWays", "()V"⟩
abbrev cX0_passageNumber : ByteArray := prog_2_method_5_code
def yX0_passageNumber : MethodName := ⟨RX0, "passageNumber", "(III)I"⟩
abbrev cX0_width : ByteArray := prog_2_method_6_code
def yX0_width : MethodName := ⟨RX0, "width", "()I"⟩
abbrev cX0_height : ByteArray := prog_2_method_7_code
def yX0_height : MethodName := ⟨RX0, "height", "()I"⟩
abbrev cX0_cells : ByteArray := prog_2_method_8_code
def yX0_cells : MethodName := ⟨RX0, "cells", "()I"⟩
abbrev cX0_freeCells : ByteArray := prog_2_method_9_code
def yX0_freeCells : MethodName := ⟨RX0, "freeCells", "()I"⟩
abbrev cX0_has : ByteArray := prog_2_method_10_code
def yX0_has : MethodName := ⟨RX0, "has", "(I)Z"⟩
abbrev cX0_isCut : ByteArray := prog_2_method_11_code
def yX0_isCut : MethodName := ⟨RX0, "isCut", "(I)Z"⟩
abbrev cX0_isFree : ByteArray := prog_2_method_12_code
def yX0_isFree : MethodName := ⟨RX0, "isFree", "(I)Z"⟩
abbrev cX0_setCut : ByteArray := prog_2_method_13_code
def yX0_setCut : MethodName := ⟨RX0, "setCut", "(IZ)V"⟩
abbrev cX0_ahead : ByteArray := prog_2_method_14_code
def yX0_ahead : MethodName := ⟨RX0, "ahead", "(II)I"⟩
abbrev cX0_passages : ByteArray := prog_2_method_15_code
def yX0_passages : MethodName := ⟨RX0, "passages", "()I"⟩
abbrev cX0_passageAt : ByteArray := prog_2_method_16_code
def yX0_passageAt : MethodName := ⟨RX0, "passageAt", "(II)I"⟩
def RX1 : String := "MazeDesk$Flood"
def TX1 : u_T := fun k => match k with
  | 0 => ("MazeDesk$Flood", "board", "LMazeDesk$Board;", true)
  | 1 => ("MazeDesk$Flood", "maze", "LMazeDesk$Maze;", true)
  | 2 => ("MazeDesk$Flood", "reached", "[Z", true)
  | 3 => ("MazeDesk$Flood", "queue", "[I", true)
  | _ => ("MazeDesk$Flood", "count", "I", false)
def tyX1 : Nat → FieldType := fun k => match k with
  | 0 => .object "MazeDesk$Board"
  | 1 => .object "MazeDesk$Maze"
  | 2 => .array .boolean
  | 3 => .array .int
  | _ => .int
theorem nmX1 : ∀ a, a < 5 → ∀ b, b < 5 → a ≠ b → (TX1 a).2.1 ≠ (TX1 b).2.1 := by decide +kernel
theorem tyX1_ok : ∀ k, k < 5 → parseFieldDescriptor (TX1 k).2.2.1 = some (tyX1 k) := by decide +kernel
abbrev cX1_init : ByteArray := prog_3_method_1_code
def yX1_init : MethodName := ⟨RX1, "<init>", "(LMazeDesk$Board;LMazeDesk$Maze;)V"⟩
abbrev cX1_has : ByteArray := prog_3_method_2_code
def yX1_has : MethodName := ⟨RX1, "has", "(I)Z"⟩
abbrev cX1_size : ByteArray := prog_3_method_3_code
def yX1_size : MethodName := ⟨RX1, "size", "()I"⟩
abbrev cX1_cellNumber : ByteArray := prog_3_method_4_code
def yX1_cellNumber : MethodName := ⟨RX1, "cellNumber", "(I)I"⟩
abbrev cX1_spreadByWays : ByteArray := prog_3_method_5_code
def yX1_spreadByWays : MethodName := ⟨RX1, "spreadByWays", "(I)I"⟩
abbrev cX1_spreadByWalking : ByteArray := prog_3_method_6_code
def yX1_spreadByWalking : MethodName := ⟨RX1, "spreadByWalking", "(II)V"⟩
abbrev cX1_startAt : ByteArray := prog_3_method_7_code
def yX1_startAt : MethodName := ⟨RX1, "startAt", "(I)V"⟩
abbrev cX1_reach : ByteArray := prog_3_method_8_code
def yX1_reach : MethodName := ⟨RX1, "reach", "(I)V"⟩
def RX2 : String := "MazeDesk$KeyPlacer"
def TX2 : u_T := fun k => match k with
  | 0 => ("MazeDesk$KeyPlacer", "board", "LMazeDesk$Board;", true)
  | 1 => ("MazeDesk$KeyPlacer", "maze", "LMazeDesk$Maze;", true)
  | _ => ("MazeDesk$KeyPlacer", "reach", "LMazeDesk$Flood;", true)
def tyX2 : Nat → FieldType := fun k => match k with
  | 0 => .object "MazeDesk$Board"
  | 1 => .object "MazeDesk$Maze"
  | _ => .object "MazeDesk$Flood"
theorem nmX2 : ∀ a, a < 3 → ∀ b, b < 3 → a ≠ b → (TX2 a).2.1 ≠ (TX2 b).2.1 := by decide +kernel
theorem tyX2_ok : ∀ k, k < 3 → parseFieldDescriptor (TX2 k).2.2.1 = some (tyX2 k) := by decide +kernel
abbrev cX2_init : ByteArray := prog_4_method_1_code
def yX2_init : MethodName := ⟨RX2, "<init>", "(LMazeDesk$Board;LMazeDesk$Maze;LMazeDesk$Flood;)V"⟩
abbrev cX2_placeAll : ByteArray := prog_4_method_2_code
def yX2_placeAll : MethodName := ⟨RX2, "placeAll", "(I)Z"⟩
abbrev cX2_leastKeyWanted : ByteArray := prog_4_method_3_code
def yX2_leastKeyWanted : MethodName := ⟨RX2, "leastKeyWanted", "(I)I"⟩
abbrev cX2_keysWantedAt : ByteArray := prog_4_method_4_code
def yX2_keysWantedAt : MethodName := ⟨RX2, "keysWantedAt", "(I)I"⟩
def RX3 : String := "MazeDesk$Maze"
def TX3 : u_T := fun k => match k with
  | 0 => ("MazeDesk$Maze", "board", "LMazeDesk$Board;", true)
  | 1 => ("MazeDesk$Maze", "opened", "[Z", true)
  | 2 => ("MazeDesk$Maze", "doorKeys", "[I", true)
  | 3 => ("MazeDesk$Maze", "onlyDirections", "[I", true)
  | 4 => ("MazeDesk$Maze", "keyCells", "[I", true)
  | 5 => ("MazeDesk$Maze", "startsAt", "I", false)
  | 6 => ("MazeDesk$Maze", "endsAt", "I", false)
  | _ => ("MazeDesk$Maze", "changes", "I", false)
def tyX3 : Nat → FieldType := fun k => match k with
  | 0 => .object "MazeDesk$Board"
  | 1 => .array .boolean
  | 2 => .array .int
  | 3 => .array .int
  | 4 => .array .int
  | 5 => .int
  | 6 => .int
  | _ => .int
theorem nmX3 : ∀ a, a < 8 → ∀ b, b < 8 → a ≠ b → (TX3 a).2.1 ≠ (TX3 b).2.1 := by decide +kernel
theorem tyX3_ok : ∀ k, k < 8 → parseFieldDescriptor (TX3 k).2.2.1 = some (tyX3 k) := by decide +kernel
abbrev cX3_init : ByteArray := prog_5_method_1_code
def yX3_init : MethodName := ⟨RX3, "<init>", "(LMazeDesk$Board;)V"⟩
abbrev cX3_layOut : ByteArray := prog_5_method_2_code
def yX3_layOut : MethodName := ⟨RX3, "layOut", "(LMazeDesk$Stacks;I)V"⟩
abbrev cX3_changeCount : ByteArray := prog_5_method_3_code
def yX3_changeCount : MethodName := ⟨RX3, "changeCount", "()I"⟩
abbrev cX3_isOpen : ByteArray := prog_5_method_4_code
def yX3_isOpen : MethodName := ⟨RX3, "isOpen", "(I)Z"⟩
abbrev cX3_setOpen : ByteArray := prog_5_method_5_code
def yX3_setOpen : MethodName := ⟨RX3, "setOpen", "(IZ)V"⟩
abbrev cX3_doorAt : ByteArray := prog_5_method_6_code
def yX3_doorAt : MethodName := ⟨RX3, "doorAt", "(I)I"⟩
abbrev cX3_setDoor : ByteArray := prog_5_method_7_code
def yX3_setDoor : MethodName := ⟨RX3, "setDoor", "(II)V"⟩
abbrev cX3_onlyDirectionAt : ByteArray := prog_5_method_8_code
def yX3_onlyDirectionAt : MethodName := ⟨RX3, "onlyDirectionAt", "(I)I"⟩
abbrev cX3_turnOneWay : ByteArray := prog_5_method_9_code
def yX3_turnOneWay : MethodName := ⟨RX3, "turnOneWay", "(II)V"⟩
abbrev cX3_startCell : ByteArray := prog_5_method_10_code
def yX3_startCell : MethodName := ⟨RX3, "startCell", "()I"⟩
abbrev cX3_setStart : ByteArray := prog_5_method_11_code
def yX3_setStart : MethodName := ⟨RX3, "setStart", "(I)V"⟩
abbrev cX3_exitCell : ByteArray := prog_5_method_12_code
def yX3_exitCell : MethodName := ⟨RX3, "exitCell", "()I"⟩
abbrev cX3_setExit : ByteArray := prog_5_method_13_code
def yX3_setExit : MethodName := ⟨RX3, "setExit", "(I)V"⟩
abbrev cX3_putKey : ByteArray := prog_5_method_14_code
def yX3_putKey : MethodName := ⟨RX3, "putKey", "(II)V"⟩
abbrev cX3_liftKeys : ByteArray := prog_5_method_15_code
def yX3_liftKeys : MethodName := ⟨RX3, "liftKeys", "()V"⟩
abbrev cX3_keysIn : ByteArray := prog_5_method_16_code
def yX3_keysIn : MethodName := ⟨RX3, "keysIn", "(I)I"⟩
abbrev cX3_doorAhead : ByteArray := prog_5_method_17_code
def yX3_doorAhead : MethodName := ⟨RX3, "doorAhead", "(II)I"⟩
abbrev cX3_cellAfter : ByteArray := prog_5_method_18_code
def yX3_cellAfter : MethodName := ⟨RX3, "cellAfter", "(III)I"⟩
abbrev cX3_walkablePassage : ByteArray := prog_5_method_19_code
def yX3_walkablePassage : MethodName := ⟨RX3, "walkablePassage", "(II)I"⟩
abbrev cX3_countDeadEnds : ByteArray := prog_5_method_20_code
def yX3_countDeadEnds : MethodName := ⟨RX3, "countDeadEnds", "()I"⟩
abbrev cX3_openDeadEnds : ByteArray := prog_5_method_21_code
def yX3_openDeadEnds : MethodName := ⟨RX3, "openDeadEnds", "(I)I"⟩
abbrev cX3_openPassages : ByteArray := prog_5_method_22_code
def yX3_openPassages : MethodName := ⟨RX3, "openPassages", "(I)I"⟩
abbrev cX3_firstClosedPassage : ByteArray := prog_5_method_23_code
def yX3_firstClosedPassage : MethodName := ⟨RX3, "firstClosedPassage", "(I)I"⟩
def RX4 : String := "MazeDesk$Picture"
def TX4 : u_T := fun k => match k with
  | 0 => ("MazeDesk$Picture", "board", "LMazeDesk$Board;", true)
  | _ => ("MazeDesk$Picture", "maze", "LMazeDesk$Maze;", true)
def tyX4 : Nat → FieldType := fun k => match k with
  | 0 => .object "MazeDesk$Board"
  | _ => .object "MazeDesk$Maze"
theorem nmX4 : ∀ a, a < 2 → ∀ b, b < 2 → a ≠ b → (TX4 a).2.1 ≠ (TX4 b).2.1 := by decide +kernel
theorem tyX4_ok : ∀ k, k < 2 → parseFieldDescriptor (TX4 k).2.2.1 = some (tyX4 k) := by decide +kernel
abbrev cX4_init : ByteArray := prog_6_method_1_code
def yX4_init : MethodName := ⟨RX4, "<init>", "(LMazeDesk$Board;LMazeDesk$Maze;)V"⟩
abbrev cX4_byteAt : ByteArray := prog_6_method_2_code
def yX4_byteAt : MethodName := ⟨RX4, "byteAt", "(I)I"⟩
abbrev cX4_signAt : ByteArray := prog_6_method_3_code
def yX4_signAt : MethodName := ⟨RX4, "signAt", "(II)C"⟩
abbrev cX4_signOfCell : ByteArray := prog_6_method_4_code
def yX4_signOfCell : MethodName := ⟨RX4, "signOfCell", "(I)C"⟩
abbrev cX4_signBetweenRows : ByteArray := prog_6_method_5_code
def yX4_signBetweenRows : MethodName := ⟨RX4, "signBetweenRows", "(II)C"⟩
abbrev cX4_signBetweenColumns : ByteArray := prog_6_method_6_code
def yX4_signBetweenColumns : MethodName := ⟨RX4, "signBetweenColumns", "(II)C"⟩
abbrev cX4_signOfPassage : ByteArray := prog_6_method_7_code
def yX4_signOfPassage : MethodName := ⟨RX4, "signOfPassage", "(IIC)C"⟩
def RX5 : String := "MazeDesk$Route"
def TX5 : u_T := fun k => match k with
  | 0 => ("MazeDesk$Route", "maze", "LMazeDesk$Maze;", true)
  | 1 => ("MazeDesk$Route", "cameFrom", "[I", true)
  | 2 => ("MazeDesk$Route", "cameBy", "[I", true)
  | 3 => ("MazeDesk$Route", "queue", "[I", true)
  | 4 => ("MazeDesk$Route", "queued", "I", false)
  | 5 => ("MazeDesk$Route", "lastState", "I", false)
  | 6 => ("MazeDesk$Route", "stepCount", "I", false)
  | _ => ("MazeDesk$Route", "knownAtChange", "I", false)
def tyX5 : Nat → FieldType := fun k => match k with
  | 0 => .object "MazeDesk$Maze"
  | 1 => .array .int
  | 2 => .array .int
  | 3 => .array .int
  | 4 => .int
  | 5 => .int
  | 6 => .int
  | _ => .int
theorem nmX5 : ∀ a, a < 8 → ∀ b, b < 8 → a ≠ b → (TX5 a).2.1 ≠ (TX5 b).2.1 := by decide +kernel
theorem tyX5_ok : ∀ k, k < 8 → parseFieldDescriptor (TX5 k).2.2.1 = some (tyX5 k) := by decide +kernel
abbrev cX5_init : ByteArray := prog_7_method_1_code
def yX5_init : MethodName := ⟨RX5, "<init>", "(LMazeDesk$Board;LMazeDesk$Maze;)V"⟩
abbrev cX5_length : ByteArray := prog_7_method_2_code
def yX5_length : MethodName := ⟨RX5, "length", "()I"⟩
abbrev cX5_directionAt : ByteArray := prog_7_method_3_code
def yX5_directionAt : MethodName := ⟨RX5, "directionAt", "(I)I"⟩
abbrev cX5_find : ByteArray := prog_7_method_4_code
def yX5_find : MethodName := ⟨RX5, "find", "()I"⟩
abbrev cX5_lookAround : ByteArray := prog_7_method_5_code
def yX5_lookAround : MethodName := ⟨RX5, "lookAround", "(I)V"⟩
abbrev cX5_comeUpon : ByteArray := prog_7_method_6_code
def yX5_comeUpon : MethodName := ⟨RX5, "comeUpon", "(IIII)V"⟩
abbrev cX5_stepsTo : ByteArray := prog_7_method_7_code
def yX5_stepsTo : MethodName := ⟨RX5, "stepsTo", "(I)I"⟩
def RX6 : String := "MazeDesk$Stacks"
def TX6 : u_T := fun k => match k with
  | 0 => ("MazeDesk$Stacks", "board", "LMazeDesk$Board;", true)
  | 1 => ("MazeDesk$Stacks", "ways", "[I", true)
  | 2 => ("MazeDesk$Stacks", "wayCounts", "[I", true)
  | 3 => ("MazeDesk$Stacks", "xs", "[I", true)
  | 4 => ("MazeDesk$Stacks", "tops", "[I", true)
  | 5 => ("MazeDesk$Stacks", "pops", "[I", true)
  | 6 => ("MazeDesk$Stacks", "marks", "[I", true)
  | _ => ("MazeDesk$Stacks", "circlesPopped", "I", false)
def tyX6 : Nat → FieldType := fun k => match k with
  | 0 => .object "MazeDesk$Board"
  | 1 => .array .int
  | 2 => .array .int
  | 3 => .array .int
  | 4 => .array .int
  | 5 => .array .int
  | 6 => .array .int
  | _ => .int
theorem nmX6 : ∀ a, a < 8 → ∀ b, b < 8 → a ≠ b → (TX6 a).2.1 ≠ (TX6 b).2.1 := by decide +kernel
theorem tyX6_ok : ∀ k, k < 8 → parseFieldDescriptor (TX6 k).2.2.1 = some (tyX6 k) := by decide +kernel
abbrev cX6_init : ByteArray := prog_8_method_1_code
def yX6_init : MethodName := ⟨RX6, "<init>", "(LMazeDesk$Board;)V"⟩
abbrev cX6_topOf : ByteArray := prog_8_method_2_code
def yX6_topOf : MethodName := ⟨RX6, "topOf", "(I)I"⟩
abbrev cX6_popsOf : ByteArray := prog_8_method_3_code
def yX6_popsOf : MethodName := ⟨RX6, "popsOf", "(I)I"⟩
abbrev cX6_circleCount : ByteArray := prog_8_method_4_code
def yX6_circleCount : MethodName := ⟨RX6, "circleCount", "()I"⟩
abbrev cX6_settle : ByteArray := prog_8_method_5_code
def yX6_settle : MethodName := ⟨RX6, "settle", "(II)Z"⟩
abbrev cX6_lay : ByteArray := prog_8_method_6_code
def yX6_lay : MethodName := ⟨RX6, "lay", "(II)V"⟩
abbrev cX6_listWays : ByteArray := prog_8_method_7_code
def yX6_listWays : MethodName := ⟨RX6, "listWays", "(I)V"⟩
abbrev cX6_uncoverNext : ByteArray := prog_8_method_8_code
def yX6_uncoverNext : MethodName := ⟨RX6, "uncoverNext", "(I)V"⟩
abbrev cX6_joinTree : ByteArray := prog_8_method_9_code
def yX6_joinTree : MethodName := ⟨RX6, "joinTree", "(I)Z"⟩
abbrev cX6_popCircle : ByteArray := prog_8_method_10_code
def yX6_popCircle : MethodName := ⟨RX6, "popCircle", "(I)Z"⟩
abbrev cX6_markTrail : ByteArray := prog_8_method_11_code
def yX6_markTrail : MethodName := ⟨RX6, "markTrail", "(I)V"⟩
def RX7 : String := "MazeDesk$TreeCount"
def TX7 : u_T := fun k => match k with
  | 0 => ("MazeDesk$TreeCount", "board", "LMazeDesk$Board;", true)
  | 1 => ("MazeDesk$TreeCount", "rowOf", "[I", true)
  | _ => ("MazeDesk$TreeCount", "matrix", "[[J", true)
def tyX7 : Nat → FieldType := fun k => match k with
  | 0 => .object "MazeDesk$Board"
  | 1 => .array .int
  | _ => .array (.array .long)
theorem nmX7 : ∀ a, a < 3 → ∀ b, b < 3 → a ≠ b → (TX7 a).2.1 ≠ (TX7 b).2.1 := by decide +kernel
theorem tyX7_ok : ∀ k, k < 3 → parseFieldDescriptor (TX7 k).2.2.1 = some (tyX7 k) := by decide +kernel
abbrev cX7_init : ByteArray := prog_9_method_1_code
def yX7_init : MethodName := ⟨RX7, "<init>", "(LMazeDesk$Board;)V"⟩
abbrev cX7_count : ByteArray := prog_9_method_2_code
def yX7_count : MethodName := ⟨RX7, "count", "()J"⟩
abbrev cX7_numberRows : ByteArray := prog_9_method_3_code
def yX7_numberRows : MethodName := ⟨RX7, "numberRows", "()V"⟩
abbrev cX7_fillMatrix : ByteArray := prog_9_method_4_code
def yX7_fillMatrix : MethodName := ⟨RX7, "fillMatrix", "(I)V"⟩
abbrev cX7_determinant : ByteArray := prog_9_method_5_code
def yX7_determinant : MethodName := ⟨RX7, "determinant", "(I)J"⟩
abbrev cX7_eliminate : ByteArray := prog_9_method_6_code
def yX7_eliminate : MethodName := ⟨RX7, "eliminate", "(IIIJ)V"⟩
def RX8 : String := "MazeDesk$Walker"
def TX8 : u_T := fun k => match k with
  | 0 => ("MazeDesk$Walker", "maze", "LMazeDesk$Maze;", true)
  | 1 => ("MazeDesk$Walker", "at", "I", false)
  | 2 => ("MazeDesk$Walker", "keysHad", "I", false)
  | _ => ("MazeDesk$Walker", "stepsGone", "I", false)
def tyX8 : Nat → FieldType := fun k => match k with
  | 0 => .object "MazeDesk$Maze"
  | 1 => .int
  | 2 => .int
  | _ => .int
theorem nmX8 : ∀ a, a < 4 → ∀ b, b < 4 → a ≠ b → (TX8 a).2.1 ≠ (TX8 b).2.1 := by decide +kernel
theorem tyX8_ok : ∀ k, k < 4 → parseFieldDescriptor (TX8 k).2.2.1 = some (tyX8 k) := by decide +kernel
abbrev cX8_init : ByteArray := prog_10_method_1_code
def yX8_init : MethodName := ⟨RX8, "<init>", "(LMazeDesk$Maze;)V"⟩
abbrev cX8_begin : ByteArray := prog_10_method_2_code
def yX8_begin : MethodName := ⟨RX8, "begin", "()V"⟩
abbrev cX8_go : ByteArray := prog_10_method_3_code
def yX8_go : MethodName := ⟨RX8, "go", "(I)Z"⟩
abbrev cX8_tell : ByteArray := prog_10_method_4_code
def yX8_tell : MethodName := ⟨RX8, "tell", "(I)I"⟩
def RX9 : String := "MazeDesk"
def TX9 : u_T := fun k => match k with
  | 0 => ("MazeDesk", "board", "LMazeDesk$Board;", true)
  | 1 => ("MazeDesk", "stacks", "LMazeDesk$Stacks;", true)
  | 2 => ("MazeDesk", "treeCount", "LMazeDesk$TreeCount;", true)
  | 3 => ("MazeDesk", "maze", "LMazeDesk$Maze;", true)
  | 4 => ("MazeDesk", "flood", "LMazeDesk$Flood;", true)
  | 5 => ("MazeDesk", "keyPlacer", "LMazeDesk$KeyPlacer;", true)
  | 6 => ("MazeDesk", "route", "LMazeDesk$Route;", true)
  | 7 => ("MazeDesk", "walker", "LMazeDesk$Walker;", true)
  | 8 => ("MazeDesk", "picture", "LMazeDesk$Picture;", true)
  | _ => ("MazeDesk", "hasMaze", "Z", false)
def tyX9 : Nat → FieldType := fun k => match k with
  | 0 => .object "MazeDesk$Board"
  | 1 => .object "MazeDesk$Stacks"
  | 2 => .object "MazeDesk$TreeCount"
  | 3 => .object "MazeDesk$Maze"
  | 4 => .object "MazeDesk$Flood"
  | 5 => .object "MazeDesk$KeyPlacer"
  | 6 => .object "MazeDesk$Route"
  | 7 => .object "MazeDesk$Walker"
  | 8 => .object "MazeDesk$Picture"
  | _ => .boolean
theorem nmX9 : ∀ a, a < 10 → ∀ b, b < 10 → a ≠ b → (TX9 a).2.1 ≠ (TX9 b).2.1 := by decide +kernel
theorem tyX9_ok : ∀ k, k < 10 → parseFieldDescriptor (TX9 k).2.2.1 = some (tyX9 k) := by decide +kernel
abbrev cX9_init : ByteArray := prog_1_method_1_code
def yX9_init : MethodName := ⟨RX9, "<init>", "(III)V"⟩
abbrev cX9_cut : ByteArray := prog_1_method_2_code
def yX9_cut : MethodName := ⟨RX9, "cut", "(IZ)Z"⟩
abbrev cX9_make : ByteArray := prog_1_method_3_code
def yX9_make : MethodName := ⟨RX9, "make", "(II)I"⟩
abbrev cX9_top : ByteArray := prog_1_method_4_code
def yX9_top : MethodName := ⟨RX9, "top", "(I)I"⟩
abbrev cX9_popped : ByteArray := prog_1_method_5_code
def yX9_popped : MethodName := ⟨RX9, "popped", "(I)I"⟩
abbrev cX9_circles : ByteArray := prog_1_method_6_code
def yX9_circles : MethodName := ⟨RX9, "circles", "()I"⟩
abbrev cX9_trees : ByteArray := prog_1_method_7_code
def yX9_trees : MethodName := ⟨RX9, "trees", "()J"⟩
abbrev cX9_passage : ByteArray := prog_1_method_8_code
def yX9_passage : MethodName := ⟨RX9, "passage", "(II)I"⟩
abbrev cX9_open : ByteArray := prog_1_method_9_code
def yX9_open : MethodName := ⟨RX9, "open", "(IIZ)Z"⟩
abbrev cX9_braid : ByteArray := prog_1_method_10_code
def yX9_braid : MethodName := ⟨RX9, "braid", "(I)I"⟩
abbrev cX9_deadEnds : ByteArray := prog_1_method_11_code
def yX9_deadEnds : MethodName := ⟨RX9, "deadEnds", "()I"⟩
abbrev cX9_key : ByteArray := prog_1_method_12_code
def yX9_key : MethodName := ⟨RX9, "key", "(II)Z"⟩
abbrev cX9_door : ByteArray := prog_1_method_13_code
def yX9_door : MethodName := ⟨RX9, "door", "(III)Z"⟩
abbrev cX9_oneWay : ByteArray := prog_1_method_14_code
def yX9_oneWay : MethodName := ⟨RX9, "oneWay", "(II)Z"⟩
abbrev cX9_start : ByteArray := prog_1_method_15_code
def yX9_start : MethodName := ⟨RX9, "start", "(I)Z"⟩
abbrev cX9_exit : ByteArray := prog_1_method_16_code
def yX9_exit : MethodName := ⟨RX9, "exit", "(I)Z"⟩
abbrev cX9_placeKeys : ByteArray := prog_1_method_17_code
def yX9_placeKeys : MethodName := ⟨RX9, "placeKeys", "(I)I"⟩
abbrev cX9_escape : ByteArray := prog_1_method_18_code
def yX9_escape : MethodName := ⟨RX9, "escape", "()I"⟩
abbrev cX9_step : ByteArray := prog_1_method_19_code
def yX9_step : MethodName := ⟨RX9, "step", "(I)I"⟩
abbrev cX9_walk : ByteArray := prog_1_method_20_code
def yX9_walk : MethodName := ⟨RX9, "walk", "(I)Z"⟩
abbrev cX9_again : ByteArray := prog_1_method_21_code
def yX9_again : MethodName := ⟨RX9, "again", "()Z"⟩
abbrev cX9_player : ByteArray := prog_1_method_22_code
def yX9_player : MethodName := ⟨RX9, "player", "(I)I"⟩
abbrev cX9_drawing : ByteArray := prog_1_method_23_code
def yX9_drawing : MethodName := ⟨RX9, "drawing", "(I)I"⟩
abbrev cX9_mazeHas : ByteArray := prog_1_method_24_code
def yX9_mazeHas : MethodName := ⟨RX9, "mazeHas", "(I)Z"⟩
abbrev cX9_mazePassage : ByteArray := prog_1_method_25_code
def yX9_mazePassage : MethodName := ⟨RX9, "mazePassage", "(II)I"⟩
abbrev cX9_isFreeOrNone : ByteArray := prog_1_method_26_code
def yX9_isFreeOrNone : MethodName := ⟨RX9, "isFreeOrNone", "(I)Z"⟩
abbrev cX9_isKey : ByteArray := prog_1_method_27_code
def yX9_isKey : MethodName := ⟨RX9, "isKey", "(I)Z"⟩
abbrev cX9_holds : ByteArray := prog_1_method_28_code
def yX9_holds : MethodName := ⟨RX9, "holds", "(II)Z"⟩
abbrev cX9_lowestKey : ByteArray := prog_1_method_29_code
def yX9_lowestKey : MethodName := ⟨RX9, "lowestKey", "(I)I"⟩
abbrev cX9_back : ByteArray := prog_1_method_30_code
def yX9_back : MethodName := ⟨RX9, "back", "(I)I"⟩
abbrev cX9_nextOf : ByteArray := prog_1_method_31_code
def yX9_nextOf : MethodName := ⟨RX9, "nextOf", "(I)I"⟩
abbrev cX9_chosenBy : ByteArray := prog_1_method_32_code
def yX9_chosenBy : MethodName := ⟨RX9, "chosenBy", "(II)I"⟩
def RX10 : String := "MazeDeskModel"
def TX10 : u_T := fun k => match k with
  | 0 => ("MazeDeskModel", "thrown", "I", false)
  | 1 => ("MazeDeskModel", "width", "I", true)
  | 2 => ("MazeDeskModel", "height", "I", true)
  | 3 => ("MazeDeskModel", "wrapped", "I", true)
  | 4 => ("MazeDeskModel", "cells", "I", true)
  | 5 => ("MazeDeskModel", "cut", "[Z", true)
  | 6 => ("MazeDeskModel", "there", "Z", false)
  | 7 => ("MazeDeskModel", "root", "I", false)
  | 8 => ("MazeDeskModel", "circles", "I", false)
  | 9 => ("MazeDeskModel", "x", "[I", true)
  | 10 => ("MazeDeskModel", "top", "[I", true)
  | 11 => ("MazeDeskModel", "popped", "[I", true)
  | 12 => ("MazeDeskModel", "open", "[Z", true)
  | 13 => ("MazeDeskModel", "door", "[B", true)
  | 14 => ("MazeDeskModel", "walkable", "[Z", true)
  | 15 => ("MazeDeskModel", "keys", "[I", true)
  | 16 => ("MazeDeskModel", "start", "I", false)
  | 17 => ("MazeDeskModel", "exit", "I", false)
  | 18 => ("MazeDeskModel", "player", "I", false)
  | 19 => ("MazeDeskModel", "held", "I", false)
  | 20 => ("MazeDeskModel", "steps", "I", false)
  | 21 => ("MazeDeskModel", "reached", "[Z", true)
  | 22 => ("MazeDeskModel", "table", "[J", true)
  | 23 => ("MazeDeskModel", "place", "[I", true)
  | 24 => ("MazeDeskModel", "far", "[I", true)
  | _ => ("MazeDeskModel", "good", "[Z", true)
def tyX10 : Nat → FieldType := fun k => match k with
  | 0 => .int
  | 1 => .int
  | 2 => .int
  | 3 => .int
  | 4 => .int
  | 5 => .array .boolean
  | 6 => .boolean
  | 7 => .int
  | 8 => .int
  | 9 => .array .int
  | 10 => .array .int
  | 11 => .array .int
  | 12 => .array .boolean
  | 13 => .array .byte
  | 14 => .array .boolean
  | 15 => .array .int
  | 16 => .int
  | 17 => .int
  | 18 => .int
  | 19 => .int
  | 20 => .int
  | 21 => .array .boolean
  | 22 => .array .long
  | 23 => .array .int
  | 24 => .array .int
  | _ => .array .boolean
theorem nmX10 : ∀ a, a < 26 → ∀ b, b < 26 → a ≠ b → (TX10 a).2.1 ≠ (TX10 b).2.1 := by decide +kernel
theorem tyX10_ok : ∀ k, k < 26 → parseFieldDescriptor (TX10 k).2.2.1 = some (tyX10 k) := by decide +kernel
abbrev cX10_init : ByteArray := prog_12_method_1_code
def yX10_init : MethodName := ⟨RX10, "<init>", "(III)V"⟩
abbrev cX10_isCell : ByteArray := prog_12_method_3_code
def yX10_isCell : MethodName := ⟨RX10, "isCell", "(I)Z"⟩
abbrev cX10_stands : ByteArray := prog_12_method_4_code
def yX10_stands : MethodName := ⟨RX10, "stands", "(I)Z"⟩
abbrev cX10_next : ByteArray := prog_12_method_5_code
def yX10_next : MethodName := ⟨RX10, "next", "(II)I"⟩
abbrev cX10_cut : ByteArray := prog_12_method_6_code
def yX10_cut : MethodName := ⟨RX10, "cut", "(IZ)Z"⟩
abbrev cX10_pop : ByteArray := prog_12_method_7_code
def yX10_pop : MethodName := ⟨RX10, "pop", "(I)V"⟩
abbrev cX10_allReach : ByteArray := prog_12_method_8_code
def yX10_allReach : MethodName := ⟨RX10, "allReach", "(I)Z"⟩
abbrev cX10_circle : ByteArray := prog_12_method_9_code
def yX10_circle : MethodName := ⟨RX10, "circle", "()I"⟩
abbrev cX10_make : ByteArray := prog_12_method_10_code
def yX10_make : MethodName := ⟨RX10, "make", "(II)I"⟩
abbrev cX10_back : ByteArray := prog_12_method_11_code
def yX10_back : MethodName := ⟨RX10, "back", "(II)I"⟩
abbrev cX10_set : ByteArray := prog_12_method_12_code
def yX10_set : MethodName := ⟨RX10, "set", "(IIZ)V"⟩
abbrev cX10_top : ByteArray := prog_12_method_13_code
def yX10_top : MethodName := ⟨RX10, "top", "(I)I"⟩
abbrev cX10_popped : ByteArray := prog_12_method_14_code
def yX10_popped : MethodName := ⟨RX10, "popped", "(I)I"⟩
abbrev cX10_circles : ByteArray := prog_12_method_15_code
def yX10_circles : MethodName := ⟨RX10, "circles", "()I"⟩
abbrev cX10_trees : ByteArray := prog_12_method_16_code
def yX10_trees : MethodName := ⟨RX10, "trees", "()J"⟩
abbrev cX10_count : ByteArray := prog_12_method_17_code
def yX10_count : MethodName := ⟨RX10, "count", "(I)J"⟩
abbrev cX10_inverse : ByteArray := prog_12_method_18_code
def yX10_inverse : MethodName := ⟨RX10, "inverse", "(J)J"⟩
abbrev cX10_corner : ByteArray := prog_12_method_19_code
def yX10_corner : MethodName := ⟨RX10, "corner", "(I)J"⟩
abbrev cX10_passage : ByteArray := prog_12_method_20_code
def yX10_passage : MethodName := ⟨RX10, "passage", "(II)I"⟩
abbrev cX10_open : ByteArray := prog_12_method_21_code
def yX10_open : MethodName := ⟨RX10, "open", "(IIZ)Z"⟩
abbrev cX10_openOnes : ByteArray := prog_12_method_22_code
def yX10_openOnes : MethodName := ⟨RX10, "openOnes", "(I)I"⟩
abbrev cX10_braid : ByteArray := prog_12_method_23_code
def yX10_braid : MethodName := ⟨RX10, "braid", "(I)I"⟩
abbrev cX10_deadEnds : ByteArray := prog_12_method_24_code
def yX10_deadEnds : MethodName := ⟨RX10, "deadEnds", "()I"⟩
abbrev cX10_key : ByteArray := prog_12_method_25_code
def yX10_key : MethodName := ⟨RX10, "key", "(II)Z"⟩
abbrev cX10_isOpen : ByteArray := prog_12_method_26_code
def yX10_isOpen : MethodName := ⟨RX10, "isOpen", "(II)Z"⟩
abbrev cX10_door : ByteArray := prog_12_method_27_code
def yX10_door : MethodName := ⟨RX10, "door", "(III)Z"⟩
abbrev cX10_oneWay : ByteArray := prog_12_method_28_code
def yX10_oneWay : MethodName := ⟨RX10, "oneWay", "(II)Z"⟩
abbrev cX10_keysAt : ByteArray := prog_12_method_29_code
def yX10_keysAt : MethodName := ⟨RX10, "keysAt", "(I)I"⟩
abbrev cX10_stepTo : ByteArray := prog_12_method_30_code
def yX10_stepTo : MethodName := ⟨RX10, "stepTo", "(III)I"⟩
abbrev cX10_rest : ByteArray := prog_12_method_31_code
def yX10_rest : MethodName := ⟨RX10, "rest", "()V"⟩
abbrev cX10_start : ByteArray := prog_12_method_32_code
def yX10_start : MethodName := ⟨RX10, "start", "(I)Z"⟩
abbrev cX10_exit : ByteArray := prog_12_method_33_code
def yX10_exit : MethodName := ⟨RX10, "exit", "(I)Z"⟩
abbrev cX10_reach : ByteArray := prog_12_method_34_code
def yX10_reach : MethodName := ⟨RX10, "reach", "(I)V"⟩
abbrev cX10_wanted : ByteArray := prog_12_method_35_code
def yX10_wanted : MethodName := ⟨RX10, "wanted", "(I)I"⟩
abbrev cX10_placeKeys : ByteArray := prog_12_method_36_code
def yX10_placeKeys : MethodName := ⟨RX10, "placeKeys", "(I)I"⟩
abbrev cX10_state : ByteArray := prog_12_method_37_code
def yX10_state : MethodName := ⟨RX10, "state", "(II)I"⟩
abbrev cX10_length : ByteArray := prog_12_method_38_code
def yX10_length : MethodName := ⟨RX10, "length", "()I"⟩
abbrev cX10_ends : ByteArray := prog_12_method_39_code
def yX10_ends : MethodName := ⟨RX10, "ends", "(I)Z"⟩
abbrev cX10_escape : ByteArray := prog_12_method_40_code
def yX10_escape : MethodName := ⟨RX10, "escape", "()I"⟩
abbrev cX10_step : ByteArray := prog_12_method_41_code
def yX10_step : MethodName := ⟨RX10, "step", "(I)I"⟩
abbrev cX10_walk : ByteArray := prog_12_method_42_code
def yX10_walk : MethodName := ⟨RX10, "walk", "(I)Z"⟩
abbrev cX10_again : ByteArray := prog_12_method_43_code
def yX10_again : MethodName := ⟨RX10, "again", "()Z"⟩
abbrev cX10_player : ByteArray := prog_12_method_44_code
def yX10_player : MethodName := ⟨RX10, "player", "(I)I"⟩
abbrev cX10_cellSign : ByteArray := prog_12_method_45_code
def yX10_cellSign : MethodName := ⟨RX10, "cellSign", "(I)I"⟩
abbrev cX10_passageSign : ByteArray := prog_12_method_46_code
def yX10_passageSign : MethodName := ⟨RX10, "passageSign", "(II)I"⟩
abbrev cX10_drawing : ByteArray := prog_12_method_47_code
def yX10_drawing : MethodName := ⟨RX10, "drawing", "(I)I"⟩
def RJ9 : String := "java/lang/Math"
abbrev cJ9_max_7cf53 : ByteArray := prog_13_method_65_code
def yJ9_max_7cf53 : MethodName := ⟨RJ9, "max", "(II)I"⟩
abbrev cJ9_min_7cf53 : ByteArray := prog_13_method_69_code
def yJ9_min_7cf53 : MethodName := ⟨RJ9, "min", "(II)I"⟩
def RJ0 : String := "java/lang/String"
abbrev cJ0_charAt_5068e : ByteArray := prog_14_method_56_code
def yJ0_charAt_5068e : MethodName := ⟨RJ0, "charAt", "(I)C"⟩
def RJ7 : String := "java/util/Arrays"
abbrev cJ7_fill_d0a16 : ByteArray := prog_17_method_101_code
def yJ7_fill_d0a16 : MethodName := ⟨RJ7, "fill", "([JJ)V"⟩
abbrev cJ7_fill_53178 : ByteArray := prog_17_method_103_code
def yJ7_fill_53178 : MethodName := ⟨RJ7, "fill", "([II)V"⟩
def RL : String := "MazeDeskLaw"
abbrev cL_cell : ByteArray := method_2_code
def yL_cell : MethodName := ⟨RL, "cell", "([II)I"⟩
abbrev cL_law : ByteArray := code
def yL_law : MethodName := ⟨RL, "law", "([I)Z"⟩
abbrev gCl : List vw_C := [(RX0, TX0, 8), (RX1, TX1, 5), (RX2, TX2, 3), (RX3, TX3, 8), (RX4, TX4, 2), (RX5, TX5, 8), (RX6, TX6, 8), (RX7, TX7, 3), (RX8, TX8, 4), (RX9, TX9, 10), (RX10, TX10, 26)]
def gW0 : List Cond := lw_tbl.filter goodWord
theorem gl_in {i : Nat} {w : Cond} (h : lw_tbl[i]? = some w) (hg : goodWord w = true) : w ∈ gW0 := List.mem_filter.mpr ⟨List.mem_of_getElem? h, hg⟩
theorem gl_all : gW0.all goodWord = true := List.all_eq_true.mpr (fun _ h => (List.mem_filter.mp h).2)
theorem gw_0 : Cond.selects "MazeDesk$Board" (⟨"MazeDesk$Board", "placeCells", "(ZZ)V"⟩ : MethodName) (⟨"MazeDesk$Board", "placeCells", "(ZZ)V"⟩ : MethodName) ∈ gW0 := gl_in (i := 0) (by decide +kernel) rfl
theorem gw_1 : Cond.selects "MazeDesk$Board" (⟨"MazeDesk$Board", "findWays", "()V"⟩ : MethodName) (⟨"MazeDesk$Board", "findWays", "()V"⟩ : MethodName) ∈ gW0 := gl_in (i := 1) (by decide +kernel) rfl
theorem gw_2 : Cond.selects "MazeDesk$Flood" (⟨"MazeDesk$Flood", "startAt", "(I)V"⟩ : MethodName) (⟨"MazeDesk$Flood", "startAt", "(I)V"⟩ : MethodName) ∈ gW0 := gl_in (i := 2) (by decide +kernel) rfl
theorem gw_3 : Cond.selects "MazeDesk$Flood" (⟨"MazeDesk$Flood", "reach", "(I)V"⟩ : MethodName) (⟨"MazeDesk$Flood", "reach", "(I)V"⟩ : MethodName) ∈ gW0 := gl_in (i := 3) (by decide +kernel) rfl
theorem gw_4 : Cond.selects "MazeDesk$Stacks" (⟨"MazeDesk$Stacks", "lay", "(II)V"⟩ : MethodName) (⟨"MazeDesk$Stacks", "lay", "(II)V"⟩ : MethodName) ∈ gW0 := gl_in (i := 4) (by decide +kernel) rfl
theorem gw_5 : Cond.selects "MazeDesk$Stacks" (⟨"MazeDesk$Stacks", "listWays", "(I)V"⟩ : MethodName) (⟨"MazeDesk$Stacks", "listWays", "(I)V"⟩ : MethodName) ∈ gW0 := gl_in (i := 5) (by decide +kernel) rfl
theorem gw_6 : Cond.selects "MazeDesk$Stacks" (⟨"MazeDesk$Stacks", "uncoverNext", "(I)V"⟩ : MethodName) (⟨"MazeDesk$Stacks", "uncoverNext", "(I)V"⟩ : MethodName) ∈ gW0 := gl_in (i := 6) (by decide +kernel) rfl
theorem gw_7 : Cond.selects "MazeDesk$Stacks" (⟨"MazeDesk$Stacks", "joinTree", "(I)Z"⟩ : MethodName) (⟨"MazeDesk$Stacks", "joinTree", "(I)Z"⟩ : MethodName) ∈ gW0 := gl_in (i := 7) (by decide +kernel) rfl
theorem gw_8 : Cond.selects "MazeDesk$Stacks" (⟨"MazeDesk$Stacks", "popCircle", "(I)Z"⟩ : MethodName) (⟨"MazeDesk$Stacks", "popCircle", "(I)Z"⟩ : MethodName) ∈ gW0 := gl_in (i := 8) (by decide +kernel) rfl
theorem gw_9 : Cond.selects "MazeDesk$Stacks" (⟨"MazeDesk$Stacks", "markTrail", "(I)V"⟩ : MethodName) (⟨"MazeDesk$Stacks", "markTrail", "(I)V"⟩ : MethodName) ∈ gW0 := gl_in (i := 9) (by decide +kernel) rfl
theorem gw_10 : Cond.selects "MazeDesk" (⟨"MazeDesk", "mazeHas", "(I)Z"⟩ : MethodName) (⟨"MazeDesk", "mazeHas", "(I)Z"⟩ : MethodName) ∈ gW0 := gl_in (i := 10) (by decide +kernel) rfl
theorem gw_11 : Cond.selects "MazeDesk$TreeCount" (⟨"MazeDesk$TreeCount", "numberRows", "()V"⟩ : MethodName) (⟨"MazeDesk$TreeCount", "numberRows", "()V"⟩ : MethodName) ∈ gW0 := gl_in (i := 11) (by decide +kernel) rfl
theorem gw_12 : Cond.selects "MazeDesk$TreeCount" (⟨"MazeDesk$TreeCount", "fillMatrix", "(I)V"⟩ : MethodName) (⟨"MazeDesk$TreeCount", "fillMatrix", "(I)V"⟩ : MethodName) ∈ gW0 := gl_in (i := 12) (by decide +kernel) rfl
theorem gw_13 : Cond.selects "MazeDesk$TreeCount" (⟨"MazeDesk$TreeCount", "determinant", "(I)J"⟩ : MethodName) (⟨"MazeDesk$TreeCount", "determinant", "(I)J"⟩ : MethodName) ∈ gW0 := gl_in (i := 13) (by decide +kernel) rfl
theorem gw_14 : Cond.selects "MazeDesk$TreeCount" (⟨"MazeDesk$TreeCount", "eliminate", "(IIIJ)V"⟩ : MethodName) (⟨"MazeDesk$TreeCount", "eliminate", "(IIIJ)V"⟩ : MethodName) ∈ gW0 := gl_in (i := 14) (by decide +kernel) rfl
theorem gw_15 : Cond.selects "MazeDesk" (⟨"MazeDesk", "mazePassage", "(II)I"⟩ : MethodName) (⟨"MazeDesk", "mazePassage", "(II)I"⟩ : MethodName) ∈ gW0 := gl_in (i := 15) (by decide +kernel) rfl
theorem gw_16 : Cond.selects "MazeDesk$Maze" (⟨"MazeDesk$Maze", "openPassages", "(I)I"⟩ : MethodName) (⟨"MazeDesk$Maze", "openPassages", "(I)I"⟩ : MethodName) ∈ gW0 := gl_in (i := 16) (by decide +kernel) rfl
theorem gw_17 : Cond.selects "MazeDesk$Maze" (⟨"MazeDesk$Maze", "firstClosedPassage", "(I)I"⟩ : MethodName) (⟨"MazeDesk$Maze", "firstClosedPassage", "(I)I"⟩ : MethodName) ∈ gW0 := gl_in (i := 17) (by decide +kernel) rfl
theorem gw_18 : Cond.selects "MazeDesk" (⟨"MazeDesk", "isFreeOrNone", "(I)Z"⟩ : MethodName) (⟨"MazeDesk", "isFreeOrNone", "(I)Z"⟩ : MethodName) ∈ gW0 := gl_in (i := 18) (by decide +kernel) rfl
theorem gw_19 : Cond.selects "MazeDesk$Maze" (⟨"MazeDesk$Maze", "walkablePassage", "(II)I"⟩ : MethodName) (⟨"MazeDesk$Maze", "walkablePassage", "(II)I"⟩ : MethodName) ∈ gW0 := gl_in (i := 19) (by decide +kernel) rfl
theorem gw_20 : Cond.selects "MazeDesk$KeyPlacer" (⟨"MazeDesk$KeyPlacer", "leastKeyWanted", "(I)I"⟩ : MethodName) (⟨"MazeDesk$KeyPlacer", "leastKeyWanted", "(I)I"⟩ : MethodName) ∈ gW0 := gl_in (i := 20) (by decide +kernel) rfl
theorem gw_21 : Cond.selects "MazeDesk$KeyPlacer" (⟨"MazeDesk$KeyPlacer", "keysWantedAt", "(I)I"⟩ : MethodName) (⟨"MazeDesk$KeyPlacer", "keysWantedAt", "(I)I"⟩ : MethodName) ∈ gW0 := gl_in (i := 21) (by decide +kernel) rfl
theorem gw_22 : Cond.selects "MazeDesk$Route" (⟨"MazeDesk$Route", "find", "()I"⟩ : MethodName) (⟨"MazeDesk$Route", "find", "()I"⟩ : MethodName) ∈ gW0 := gl_in (i := 22) (by decide +kernel) rfl
theorem gw_23 : Cond.selects "MazeDesk$Route" (⟨"MazeDesk$Route", "comeUpon", "(IIII)V"⟩ : MethodName) (⟨"MazeDesk$Route", "comeUpon", "(IIII)V"⟩ : MethodName) ∈ gW0 := gl_in (i := 23) (by decide +kernel) rfl
theorem gw_24 : Cond.selects "MazeDesk$Route" (⟨"MazeDesk$Route", "stepsTo", "(I)I"⟩ : MethodName) (⟨"MazeDesk$Route", "stepsTo", "(I)I"⟩ : MethodName) ∈ gW0 := gl_in (i := 24) (by decide +kernel) rfl
theorem gw_25 : Cond.selects "MazeDesk$Route" (⟨"MazeDesk$Route", "lookAround", "(I)V"⟩ : MethodName) (⟨"MazeDesk$Route", "lookAround", "(I)V"⟩ : MethodName) ∈ gW0 := gl_in (i := 25) (by decide +kernel) rfl
theorem gw_26 : Cond.selects "MazeDesk$Picture" (⟨"MazeDesk$Picture", "signAt", "(II)C"⟩ : MethodName) (⟨"MazeDesk$Picture", "signAt", "(II)C"⟩ : MethodName) ∈ gW0 := gl_in (i := 26) (by decide +kernel) rfl
theorem gw_27 : Cond.selects "MazeDesk$Picture" (⟨"MazeDesk$Picture", "signBetweenRows", "(II)C"⟩ : MethodName) (⟨"MazeDesk$Picture", "signBetweenRows", "(II)C"⟩ : MethodName) ∈ gW0 := gl_in (i := 27) (by decide +kernel) rfl
theorem gw_28 : Cond.selects "MazeDesk$Picture" (⟨"MazeDesk$Picture", "signOfPassage", "(IIC)C"⟩ : MethodName) (⟨"MazeDesk$Picture", "signOfPassage", "(IIC)C"⟩ : MethodName) ∈ gW0 := gl_in (i := 28) (by decide +kernel) rfl
theorem gw_29 : Cond.selects "MazeDesk$Picture" (⟨"MazeDesk$Picture", "signBetweenColumns", "(II)C"⟩ : MethodName) (⟨"MazeDesk$Picture", "signBetweenColumns", "(II)C"⟩ : MethodName) ∈ gW0 := gl_in (i := 29) (by decide +kernel) rfl
theorem gw_30 : Cond.selects "MazeDesk$Picture" (⟨"MazeDesk$Picture", "signOfCell", "(I)C"⟩ : MethodName) (⟨"MazeDesk$Picture", "signOfCell", "(I)C"⟩ : MethodName) ∈ gW0 := gl_in (i := 30) (by decide +kernel) rfl
theorem gw_31 : Cond.selects "MazeDeskModel" (⟨"MazeDeskModel", "isCell", "(I)Z"⟩ : MethodName) (⟨"MazeDeskModel", "isCell", "(I)Z"⟩ : MethodName) ∈ gW0 := gl_in (i := 31) (by decide +kernel) rfl
theorem gw_32 : Cond.selects "MazeDeskModel" (⟨"MazeDeskModel", "stands", "(I)Z"⟩ : MethodName) (⟨"MazeDeskModel", "stands", "(I)Z"⟩ : MethodName) ∈ gW0 := gl_in (i := 32) (by decide +kernel) rfl
theorem gw_33 : Cond.selects "MazeDeskModel" (⟨"MazeDeskModel", "allReach", "(I)Z"⟩ : MethodName) (⟨"MazeDeskModel", "allReach", "(I)Z"⟩ : MethodName) ∈ gW0 := gl_in (i := 33) (by decide +kernel) rfl
theorem gw_34 : Cond.selects "MazeDeskModel" (⟨"MazeDeskModel", "next", "(II)I"⟩ : MethodName) (⟨"MazeDeskModel", "next", "(II)I"⟩ : MethodName) ∈ gW0 := gl_in (i := 34) (by decide +kernel) rfl
theorem gw_35 : Cond.selects "MazeDeskModel" (⟨"MazeDeskModel", "pop", "(I)V"⟩ : MethodName) (⟨"MazeDeskModel", "pop", "(I)V"⟩ : MethodName) ∈ gW0 := gl_in (i := 35) (by decide +kernel) rfl
theorem gw_36 : Cond.selects "MazeDeskModel" (⟨"MazeDeskModel", "circle", "()I"⟩ : MethodName) (⟨"MazeDeskModel", "circle", "()I"⟩ : MethodName) ∈ gW0 := gl_in (i := 36) (by decide +kernel) rfl
theorem gw_37 : Cond.selects "MazeDeskModel" (⟨"MazeDeskModel", "set", "(IIZ)V"⟩ : MethodName) (⟨"MazeDeskModel", "set", "(IIZ)V"⟩ : MethodName) ∈ gW0 := gl_in (i := 37) (by decide +kernel) rfl
theorem gw_38 : Cond.selects "MazeDeskModel" (⟨"MazeDeskModel", "back", "(II)I"⟩ : MethodName) (⟨"MazeDeskModel", "back", "(II)I"⟩ : MethodName) ∈ gW0 := gl_in (i := 38) (by decide +kernel) rfl
theorem gw_39 : Cond.selects "MazeDeskModel" (⟨"MazeDeskModel", "rest", "()V"⟩ : MethodName) (⟨"MazeDeskModel", "rest", "()V"⟩ : MethodName) ∈ gW0 := gl_in (i := 39) (by decide +kernel) rfl
theorem gw_40 : Cond.selects "MazeDeskModel" (⟨"MazeDeskModel", "keysAt", "(I)I"⟩ : MethodName) (⟨"MazeDeskModel", "keysAt", "(I)I"⟩ : MethodName) ∈ gW0 := gl_in (i := 40) (by decide +kernel) rfl
theorem gw_41 : Cond.selects "MazeDeskModel" (⟨"MazeDeskModel", "count", "(I)J"⟩ : MethodName) (⟨"MazeDeskModel", "count", "(I)J"⟩ : MethodName) ∈ gW0 := gl_in (i := 41) (by decide +kernel) rfl
theorem gw_42 : Cond.selects "MazeDeskModel" (⟨"MazeDeskModel", "corner", "(I)J"⟩ : MethodName) (⟨"MazeDeskModel", "corner", "(I)J"⟩ : MethodName) ∈ gW0 := gl_in (i := 42) (by decide +kernel) rfl
theorem gw_43 : Cond.selects "MazeDeskModel" (⟨"MazeDeskModel", "openOnes", "(I)I"⟩ : MethodName) (⟨"MazeDeskModel", "openOnes", "(I)I"⟩ : MethodName) ∈ gW0 := gl_in (i := 43) (by decide +kernel) rfl
theorem gw_44 : Cond.selects "MazeDeskModel" (⟨"MazeDeskModel", "isOpen", "(II)Z"⟩ : MethodName) (⟨"MazeDeskModel", "isOpen", "(II)Z"⟩ : MethodName) ∈ gW0 := gl_in (i := 44) (by decide +kernel) rfl
theorem gw_45 : Cond.selects "MazeDeskModel" (⟨"MazeDeskModel", "reach", "(I)V"⟩ : MethodName) (⟨"MazeDeskModel", "reach", "(I)V"⟩ : MethodName) ∈ gW0 := gl_in (i := 45) (by decide +kernel) rfl
theorem gw_46 : Cond.selects "MazeDeskModel" (⟨"MazeDeskModel", "stepTo", "(III)I"⟩ : MethodName) (⟨"MazeDeskModel", "stepTo", "(III)I"⟩ : MethodName) ∈ gW0 := gl_in (i := 46) (by decide +kernel) rfl
theorem gw_47 : Cond.selects "MazeDeskModel" (⟨"MazeDeskModel", "wanted", "(I)I"⟩ : MethodName) (⟨"MazeDeskModel", "wanted", "(I)I"⟩ : MethodName) ∈ gW0 := gl_in (i := 47) (by decide +kernel) rfl
theorem gw_48 : Cond.selects "MazeDeskModel" (⟨"MazeDeskModel", "length", "()I"⟩ : MethodName) (⟨"MazeDeskModel", "length", "()I"⟩ : MethodName) ∈ gW0 := gl_in (i := 48) (by decide +kernel) rfl
theorem gw_49 : Cond.selects "MazeDeskModel" (⟨"MazeDeskModel", "state", "(II)I"⟩ : MethodName) (⟨"MazeDeskModel", "state", "(II)I"⟩ : MethodName) ∈ gW0 := gl_in (i := 49) (by decide +kernel) rfl
theorem gw_50 : Cond.selects "MazeDeskModel" (⟨"MazeDeskModel", "ends", "(I)Z"⟩ : MethodName) (⟨"MazeDeskModel", "ends", "(I)Z"⟩ : MethodName) ∈ gW0 := gl_in (i := 50) (by decide +kernel) rfl
theorem gw_51 : Cond.selects "MazeDeskModel" (⟨"MazeDeskModel", "cellSign", "(I)I"⟩ : MethodName) (⟨"MazeDeskModel", "cellSign", "(I)I"⟩ : MethodName) ∈ gW0 := gl_in (i := 51) (by decide +kernel) rfl
theorem gw_52 : Cond.selects "MazeDeskModel" (⟨"MazeDeskModel", "passageSign", "(II)I"⟩ : MethodName) (⟨"MazeDeskModel", "passageSign", "(II)I"⟩ : MethodName) ∈ gW0 := gl_in (i := 52) (by decide +kernel) rfl
theorem gw_53 : Jvm.Cond.initialized "MazeDeskLaw" ∈ gW0 := gl_in (i := 53) (by decide +kernel) rfl
theorem gw_54 : Jvm.Cond.initialized "MazeDesk" ∈ gW0 := gl_in (i := 54) (by decide +kernel) rfl
theorem gw_55 : Jvm.Cond.initialized "MazeDesk$Board" ∈ gW0 := gl_in (i := 55) (by decide +kernel) rfl
theorem gw_56 : Jvm.Cond.initialized "java/lang/Math" ∈ gW0 := gl_in (i := 56) (by decide +kernel) rfl
theorem gw_57 : Jvm.Cond.initialized "MazeDesk$Stacks" ∈ gW0 := gl_in (i := 57) (by decide +kernel) rfl
theorem gw_58 : Jvm.Cond.initialized "MazeDesk$TreeCount" ∈ gW0 := gl_in (i := 58) (by decide +kernel) rfl
theorem gw_59 : Jvm.Cond.initialized "MazeDesk$Maze" ∈ gW0 := gl_in (i := 59) (by decide +kernel) rfl
theorem gw_60 : Jvm.Cond.initialized "MazeDesk$Flood" ∈ gW0 := gl_in (i := 60) (by decide +kernel) rfl
theorem gw_61 : Jvm.Cond.initialized "MazeDesk$KeyPlacer" ∈ gW0 := gl_in (i := 61) (by decide +kernel) rfl
theorem gw_62 : Jvm.Cond.initialized "MazeDesk$Route" ∈ gW0 := gl_in (i := 62) (by decide +kernel) rfl
theorem gw_63 : Jvm.Cond.initialized "MazeDesk$Walker" ∈ gW0 := gl_in (i := 63) (by decide +kernel) rfl
theorem gw_64 : Jvm.Cond.initialized "MazeDesk$Picture" ∈ gW0 := gl_in (i := 64) (by decide +kernel) rfl
theorem gw_65 : Jvm.Cond.initialized "MazeDeskModel" ∈ gW0 := gl_in (i := 65) (by decide +kernel) rfl
theorem gw_66 : Jvm.Cond.initialized "java/util/Arrays" ∈ gW0 := gl_in (i := 66) (by decide +kernel) rfl
theorem gw_67 : Jvm.Cond.initialized "java/lang/String" ∈ gW0 := gl_in (i := 67) (by decide +kernel) rfl
theorem gw_71 : Jvm.Cond.classLink "MazeDeskLaw" (7 : Nat) "MazeDesk" ∈ gW0 := gl_in (i := 71) (by decide +kernel) rfl
theorem gw_72 : Jvm.Cond.instantiable "MazeDesk" (10 : Nat) ∈ gW0 := gl_in (i := 72) (by decide +kernel) rfl
theorem gw_73 : Jvm.Cond.methodLink "MazeDeskLaw" (15 : Nat) ({ cls := "MazeDesk", name := "<init>", desc := "(III)V" } : Jvm.MethodName) ∈ gW0 := gl_in (i := 73) (by decide +kernel) rfl
theorem gw_74 : Jvm.Cond.instanceMethod ({ cls := "MazeDesk", name := "<init>", desc := "(III)V" } : Jvm.MethodName) ∈ gW0 := gl_in (i := 74) (by decide +kernel) rfl
set_option maxRecDepth 100000 in
theorem gw_75 : Jvm.Cond.code ({ cls := "MazeDesk", name := "<init>", desc := "(III)V" } : Jvm.MethodName) prog_1_method_1_code (4 : Nat) (Option.none : Option Jvm.ClassFile.FieldType) ∈ gW0 := gl_in (i := 75) rfl rfl
theorem gw_76 : Jvm.Cond.methodLink "MazeDesk" (3 : Nat) ({ cls := "java/lang/Object", name := "<init>", desc := "()V" } : Jvm.MethodName) ∈ gW0 := gl_in (i := 76) (by decide +kernel) rfl
theorem gw_77 : Jvm.Cond.instanceMethod ({ cls := "java/lang/Object", name := "<init>", desc := "()V" } : Jvm.MethodName) ∈ gW0 := gl_in (i := 77) (by decide +kernel) rfl
set_option maxRecDepth 100000 in
theorem gw_78 : Jvm.Cond.code ({ cls := "java/lang/Object", name := "<init>", desc := "()V" } : Jvm.MethodName) object_method_1_code (1 : Nat) (Option.none : Option Jvm.ClassFile.FieldType) ∈ gW0 := gl_in (i := 78) rfl rfl
theorem gw_79 : Jvm.Cond.classLink "MazeDesk" (9 : Nat) "MazeDesk$Board" ∈ gW0 := gl_in (i := 79) (by decide +kernel) rfl
theorem gw_80 : Jvm.Cond.instantiable "MazeDesk$Board" (8 : Nat) ∈ gW0 := gl_in (i := 80) (by decide +kernel) rfl
theorem gw_81 : Jvm.Cond.methodLink "MazeDesk" (11 : Nat) ({ cls := "MazeDesk$Board", name := "<init>", desc := "(III)V" } : Jvm.MethodName) ∈ gW0 := gl_in (i := 81) (by decide +kernel) rfl
theorem gw_82 : Jvm.Cond.instanceMethod ({ cls := "MazeDesk$Board", name := "<init>", desc := "(III)V" } : Jvm.MethodName) ∈ gW0 := gl_in (i := 82) (by decide +kernel) rfl
set_option maxRecDepth 100000 in
theorem gw_83 : Jvm.Cond.code ({ cls := "MazeDesk$Board", name := "<init>", desc := "(III)V" } : Jvm.MethodName) prog_2_method_1_code (4 : Nat) (Option.none : Option Jvm.ClassFile.FieldType) ∈ gW0 := gl_in (i := 83) rfl rfl
theorem gw_84 : Jvm.Cond.methodLink "MazeDesk$Board" (3 : Nat) ({ cls := "java/lang/Object", name := "<init>", desc := "()V" } : Jvm.MethodName) ∈ gW0 := gl_in (i := 84) (by decide +kernel) rfl
theorem gw_85 : Jvm.Cond.methodLink "MazeDesk$Board" (11 : Nat) ({ cls := "java/lang/Math", name := "min", desc := "(II)I" } : Jvm.MethodName) ∈ gW0 := gl_in (i := 85) (by decide +kernel) rfl
theorem gw_86 : Jvm.Cond.static ({ cls := "java/lang/Math", name := "min", desc := "(II)I" } : Jvm.MethodName) ∈ gW0 := gl_in (i := 86) (by decide +kernel) rfl
set_option maxRecDepth 100000 in
theorem gw_87 : Jvm.Cond.code ({ cls := "java/lang/Math", name := "min", desc := "(II)I" } : Jvm.MethodName) prog_13_method_69_code (2 : Nat) (Option.some Jvm.ClassFile.FieldType.int) ∈ gW0 := gl_in (i := 87) rfl rfl
theorem gw_88 : Jvm.Cond.methodLink "MazeDesk$Board" (17 : Nat) ({ cls := "java/lang/Math", name := "max", desc := "(II)I" } : Jvm.MethodName) ∈ gW0 := gl_in (i := 88) (by decide +kernel) rfl
theorem gw_89 : Jvm.Cond.static ({ cls := "java/lang/Math", name := "max", desc := "(II)I" } : Jvm.MethodName) ∈ gW0 := gl_in (i := 89) (by decide +kernel) rfl
set_option maxRecDepth 100000 in
theorem gw_90 : Jvm.Cond.code ({ cls := "java/lang/Math", name := "max", desc := "(II)I" } : Jvm.MethodName) prog_13_method_65_code (2 : Nat) (Option.some Jvm.ClassFile.FieldType.int) ∈ gW0 := gl_in (i := 90) rfl rfl
theorem gw_91 : Jvm.Cond.methodLink "MazeDesk$Board" (47 : Nat) ({ cls := "MazeDesk$Board", name := "placeCells", desc := "(ZZ)V" } : Jvm.MethodName) ∈ gW0 := gl_in (i := 91) (by decide +kernel) rfl
theorem gw_93 : Jvm.Cond.instanceMethod ({ cls := "MazeDesk$Board", name := "placeCells", desc := "(ZZ)V" } : Jvm.MethodName) ∈ gW0 := gl_in (i := 93) (by decide +kernel) rfl
set_option maxRecDepth 100000 in
theorem gw_94 : Jvm.Cond.code ({ cls := "MazeDesk$Board", name := "placeCells", desc := "(ZZ)V" } : Jvm.MethodName) prog_2_method_2_code (7 : Nat) (Option.none : Option Jvm.ClassFile.FieldType) ∈ gW0 := gl_in (i := 94) rfl rfl
theorem gw_95 : Jvm.Cond.methodLink "MazeDesk$Board" (54 : Nat) ({ cls := "MazeDesk$Board", name := "acrossTo", desc := "(ZII)I" } : Jvm.MethodName) ∈ gW0 := gl_in (i := 95) (by decide +kernel) rfl
theorem gw_96 : Jvm.Cond.static ({ cls := "MazeDesk$Board", name := "acrossTo", desc := "(ZII)I" } : Jvm.MethodName) ∈ gW0 := gl_in (i := 96) (by decide +kernel) rfl
set_option maxRecDepth 100000 in
theorem gw_97 : Jvm.Cond.code ({ cls := "MazeDesk$Board", name := "acrossTo", desc := "(ZII)I" } : Jvm.MethodName) prog_2_method_3_code (3 : Nat) (Option.some Jvm.ClassFile.FieldType.int) ∈ gW0 := gl_in (i := 97) rfl rfl
theorem gw_98 : Jvm.Cond.methodLink "MazeDesk$Board" (51 : Nat) ({ cls := "MazeDesk$Board", name := "findWays", desc := "()V" } : Jvm.MethodName) ∈ gW0 := gl_in (i := 98) (by decide +kernel) rfl
theorem gw_100 : Jvm.Cond.instanceMethod ({ cls := "MazeDesk$Board", name := "findWays", desc := "()V" } : Jvm.MethodName) ∈ gW0 := gl_in (i := 100) (by decide +kernel) rfl
set_option maxRecDepth 100000 in
theorem gw_101 : Jvm.Cond.code ({ cls := "MazeDesk$Board", name := "findWays", desc := "()V" } : Jvm.MethodName) prog_2_method_4_code (6 : Nat) (Option.none : Option Jvm.ClassFile.FieldType) ∈ gW0 := gl_in (i := 101) rfl rfl
theorem gw_102 : Jvm.Cond.methodLink "MazeDesk$Board" (58 : Nat) ({ cls := "MazeDesk$Board", name := "passageNumber", desc := "(III)I" } : Jvm.MethodName) ∈ gW0 := gl_in (i := 102) (by decide +kernel) rfl
theorem gw_103 : Jvm.Cond.static ({ cls := "MazeDesk$Board", name := "passageNumber", desc := "(III)I" } : Jvm.MethodName) ∈ gW0 := gl_in (i := 103) (by decide +kernel) rfl
set_option maxRecDepth 100000 in
theorem gw_104 : Jvm.Cond.code ({ cls := "MazeDesk$Board", name := "passageNumber", desc := "(III)I" } : Jvm.MethodName) prog_2_method_5_code (3 : Nat) (Option.some Jvm.ClassFile.FieldType.int) ∈ gW0 := gl_in (i := 104) rfl rfl
theorem gw_105 : Jvm.Cond.fieldLink "MazeDesk$Board" (20 : Nat) "MazeDesk$Board" "width" "I" ∈ gW0 := gl_in (i := 105) (by decide +kernel) rfl
theorem gw_106 : Jvm.Cond.fieldLink "MazeDesk$Board" (24 : Nat) "MazeDesk$Board" "height" "I" ∈ gW0 := gl_in (i := 106) (by decide +kernel) rfl
theorem gw_107 : Jvm.Cond.fieldLink "MazeDesk$Board" (27 : Nat) "MazeDesk$Board" "cells" "I" ∈ gW0 := gl_in (i := 107) (by decide +kernel) rfl
theorem gw_108 : Jvm.Cond.fieldLink "MazeDesk$Board" (33 : Nat) "MazeDesk$Board" "cutOut" "[Z" ∈ gW0 := gl_in (i := 108) (by decide +kernel) rfl
theorem gw_109 : Jvm.Cond.fieldLink "MazeDesk$Board" (37 : Nat) "MazeDesk$Board" "beside" "[I" ∈ gW0 := gl_in (i := 109) (by decide +kernel) rfl
theorem gw_110 : Jvm.Cond.fieldLink "MazeDesk$Board" (41 : Nat) "MazeDesk$Board" "leadsTo" "[I" ∈ gW0 := gl_in (i := 110) (by decide +kernel) rfl
theorem gw_111 : Jvm.Cond.fieldLink "MazeDesk$Board" (44 : Nat) "MazeDesk$Board" "passageNumbers" "[I" ∈ gW0 := gl_in (i := 111) (by decide +kernel) rfl
theorem gw_112 : Jvm.Cond.fieldLink "MazeDesk$Board" (30 : Nat) "MazeDesk$Board" "free" "I" ∈ gW0 := gl_in (i := 112) (by decide +kernel) rfl
theorem gw_113 : Jvm.Cond.laysFinal "MazeDesk$Board" "MazeDesk$Board" "width" "I" ∈ gW0 := gl_in (i := 113) (by decide +kernel) rfl
theorem gw_115 : Jvm.Cond.laysFinal "MazeDesk$Board" "MazeDesk$Board" "height" "I" ∈ gW0 := gl_in (i := 115) (by decide +kernel) rfl
theorem gw_117 : Jvm.Cond.laysFinal "MazeDesk$Board" "MazeDesk$Board" "cells" "I" ∈ gW0 := gl_in (i := 117) (by decide +kernel) rfl
theorem gw_119 : Jvm.Cond.laysFinal "MazeDesk$Board" "MazeDesk$Board" "cutOut" "[Z" ∈ gW0 := gl_in (i := 119) (by decide +kernel) rfl
theorem gw_121 : Jvm.Cond.laysFinal "MazeDesk$Board" "MazeDesk$Board" "beside" "[I" ∈ gW0 := gl_in (i := 121) (by decide +kernel) rfl
theorem gw_123 : Jvm.Cond.laysFinal "MazeDesk$Board" "MazeDesk$Board" "leadsTo" "[I" ∈ gW0 := gl_in (i := 123) (by decide +kernel) rfl
theorem gw_125 : Jvm.Cond.laysFinal "MazeDesk$Board" "MazeDesk$Board" "passageNumbers" "[I" ∈ gW0 := gl_in (i := 125) (by decide +kernel) rfl
theorem gw_127 : Jvm.Cond.lays "MazeDesk$Board" "MazeDesk$Board" "free" "I" ∈ gW0 := gl_in (i := 127) (by decide +kernel) rfl
theorem gw_130 : Jvm.Cond.arrayClass Jvm.ClassFile.FieldType.boolean ∈ gW0 := gl_in (i := 130) (by decide +kernel) rfl
theorem gw_131 : Jvm.Cond.arrayClass Jvm.ClassFile.FieldType.int ∈ gW0 := gl_in (i := 131) (by decide +kernel) rfl
theorem gw_132 : Jvm.Cond.classLink "MazeDesk" (18 : Nat) "MazeDesk$Stacks" ∈ gW0 := gl_in (i := 132) (by decide +kernel) rfl
theorem gw_133 : Jvm.Cond.instantiable "MazeDesk$Stacks" (8 : Nat) ∈ gW0 := gl_in (i := 133) (by decide +kernel) rfl
theorem gw_134 : Jvm.Cond.methodLink "MazeDesk" (20 : Nat) ({ cls := "MazeDesk$Stacks", name := "<init>", desc := "(LMazeDesk$Board;)V" } : Jvm.MethodName) ∈ gW0 := gl_in (i := 134) (by decide +kernel) rfl
theorem gw_135 : Jvm.Cond.instanceMethod ({ cls := "MazeDesk$Stacks", name := "<init>", desc := "(LMazeDesk$Board;)V" } : Jvm.MethodName) ∈ gW0 := gl_in (i := 135) (by decide +kernel) rfl
set_option maxRecDepth 100000 in
theorem gw_136 : Jvm.Cond.code ({ cls := "MazeDesk$Stacks", name := "<init>", desc := "(LMazeDesk$Board;)V" } : Jvm.MethodName) prog_8_method_1_code (3 : Nat) (Option.none : Option Jvm.ClassFile.FieldType) ∈ gW0 := gl_in (i := 136) rfl rfl
theorem gw_137 : Jvm.Cond.methodLink "MazeDesk$Stacks" (3 : Nat) ({ cls := "java/lang/Object", name := "<init>", desc := "()V" } : Jvm.MethodName) ∈ gW0 := gl_in (i := 137) (by decide +kernel) rfl
theorem gw_138 : Jvm.Cond.methodLink "MazeDesk$Stacks" (15 : Nat) ({ cls := "MazeDesk$Board", name := "cells", desc := "()I" } : Jvm.MethodName) ∈ gW0 := gl_in (i := 138) (by decide +kernel) rfl
theorem gw_139 : Jvm.Cond.instanceMethod ({ cls := "MazeDesk$Board", name := "cells", desc := "()I" } : Jvm.MethodName) ∈ gW0 := gl_in (i := 139) (by decide +kernel) rfl
theorem gw_140 : Jvm.Cond.selects "MazeDesk$Board" ({ cls := "MazeDesk$Board", name := "cells", desc := "()I" } : Jvm.MethodName) ({ cls := "MazeDesk$Board", name := "cells", desc := "()I" } : Jvm.MethodName) ∈ gW0 := gl_in (i := 140) (by decide +kernel) rfl
set_option maxRecDepth 100000 in
theorem gw_141 : Jvm.Cond.code ({ cls := "MazeDesk$Board", name := "cells", desc := "()I" } : Jvm.MethodName) prog_2_method_8_code (1 : Nat) (Option.some Jvm.ClassFile.FieldType.int) ∈ gW0 := gl_in (i := 141) rfl rfl
theorem gw_142 : Jvm.Cond.fieldLink "MazeDesk$Stacks" (9 : Nat) "MazeDesk$Stacks" "board" "LMazeDesk$Board;" ∈ gW0 := gl_in (i := 142) (by decide +kernel) rfl
theorem gw_143 : Jvm.Cond.fieldLink "MazeDesk$Stacks" (21 : Nat) "MazeDesk$Stacks" "ways" "[I" ∈ gW0 := gl_in (i := 143) (by decide +kernel) rfl
theorem gw_144 : Jvm.Cond.fieldLink "MazeDesk$Stacks" (25 : Nat) "MazeDesk$Stacks" "wayCounts" "[I" ∈ gW0 := gl_in (i := 144) (by decide +kernel) rfl
theorem gw_145 : Jvm.Cond.fieldLink "MazeDesk$Stacks" (28 : Nat) "MazeDesk$Stacks" "xs" "[I" ∈ gW0 := gl_in (i := 145) (by decide +kernel) rfl
theorem gw_146 : Jvm.Cond.fieldLink "MazeDesk$Stacks" (31 : Nat) "MazeDesk$Stacks" "tops" "[I" ∈ gW0 := gl_in (i := 146) (by decide +kernel) rfl
theorem gw_147 : Jvm.Cond.fieldLink "MazeDesk$Stacks" (34 : Nat) "MazeDesk$Stacks" "pops" "[I" ∈ gW0 := gl_in (i := 147) (by decide +kernel) rfl
theorem gw_148 : Jvm.Cond.fieldLink "MazeDesk$Stacks" (37 : Nat) "MazeDesk$Stacks" "marks" "[I" ∈ gW0 := gl_in (i := 148) (by decide +kernel) rfl
theorem gw_149 : Jvm.Cond.fieldLink "MazeDesk$Stacks" (40 : Nat) "MazeDesk$Stacks" "circlesPopped" "I" ∈ gW0 := gl_in (i := 149) (by decide +kernel) rfl
theorem gw_150 : Jvm.Cond.laysFinal "MazeDesk$Stacks" "MazeDesk$Stacks" "board" "LMazeDesk$Board;" ∈ gW0 := gl_in (i := 150) (by decide +kernel) rfl
theorem gw_152 : Jvm.Cond.laysFinal "MazeDesk$Stacks" "MazeDesk$Stacks" "ways" "[I" ∈ gW0 := gl_in (i := 152) (by decide +kernel) rfl
theorem gw_154 : Jvm.Cond.laysFinal "MazeDesk$Stacks" "MazeDesk$Stacks" "wayCounts" "[I" ∈ gW0 := gl_in (i := 154) (by decide +kernel) rfl
theorem gw_156 : Jvm.Cond.laysFinal "MazeDesk$Stacks" "MazeDesk$Stacks" "xs" "[I" ∈ gW0 := gl_in (i := 156) (by decide +kernel) rfl
theorem gw_158 : Jvm.Cond.laysFinal "MazeDesk$Stacks" "MazeDesk$Stacks" "tops" "[I" ∈ gW0 := gl_in (i := 158) (by decide +kernel) rfl
theorem gw_160 : Jvm.Cond.laysFinal "MazeDesk$Stacks" "MazeDesk$Stacks" "pops" "[I" ∈ gW0 := gl_in (i := 160) (by decide +kernel) rfl
theorem gw_162 : Jvm.Cond.laysFinal "MazeDesk$Stacks" "MazeDesk$Stacks" "marks" "[I" ∈ gW0 := gl_in (i := 162) (by decide +kernel) rfl
theorem gw_164 : Jvm.Cond.lays "MazeDesk$Stacks" "MazeDesk$Stacks" "circlesPopped" "I" ∈ gW0 := gl_in (i := 164) (by decide +kernel) rfl
theorem gw_167 : Jvm.Cond.classLink "MazeDesk" (27 : Nat) "MazeDesk$TreeCount" ∈ gW0 := gl_in (i := 167) (by decide +kernel) rfl
theorem gw_168 : Jvm.Cond.instantiable "MazeDesk$TreeCount" (3 : Nat) ∈ gW0 := gl_in (i := 168) (by decide +kernel) rfl
theorem gw_169 : Jvm.Cond.methodLink "MazeDesk" (29 : Nat) ({ cls := "MazeDesk$TreeCount", name := "<init>", desc := "(LMazeDesk$Board;)V" } : Jvm.MethodName) ∈ gW0 := gl_in (i := 169) (by decide +kernel) rfl
theorem gw_170 : Jvm.Cond.instanceMethod ({ cls := "MazeDesk$TreeCount", name := "<init>", desc := "(LMazeDesk$Board;)V" } : Jvm.MethodName) ∈ gW0 := gl_in (i := 170) (by decide +kernel) rfl
set_option maxRecDepth 100000 in
theorem gw_171 : Jvm.Cond.code ({ cls := "MazeDesk$TreeCount", name := "<init>", desc := "(LMazeDesk$Board;)V" } : Jvm.MethodName) prog_9_method_1_code (2 : Nat) (Option.none : Option Jvm.ClassFile.FieldType) ∈ gW0 := gl_in (i := 171) rfl rfl
theorem gw_172 : Jvm.Cond.methodLink "MazeDesk$TreeCount" (3 : Nat) ({ cls := "java/lang/Object", name := "<init>", desc := "()V" } : Jvm.MethodName) ∈ gW0 := gl_in (i := 172) (by decide +kernel) rfl
theorem gw_173 : Jvm.Cond.methodLink "MazeDesk$TreeCount" (15 : Nat) ({ cls := "MazeDesk$Board", name := "cells", desc := "()I" } : Jvm.MethodName) ∈ gW0 := gl_in (i := 173) (by decide +kernel) rfl
theorem gw_176 : Jvm.Cond.fieldLink "MazeDesk$TreeCount" (9 : Nat) "MazeDesk$TreeCount" "board" "LMazeDesk$Board;" ∈ gW0 := gl_in (i := 176) (by decide +kernel) rfl
theorem gw_177 : Jvm.Cond.fieldLink "MazeDesk$TreeCount" (21 : Nat) "MazeDesk$TreeCount" "rowOf" "[I" ∈ gW0 := gl_in (i := 177) (by decide +kernel) rfl
theorem gw_178 : Jvm.Cond.fieldLink "MazeDesk$TreeCount" (27 : Nat) "MazeDesk$TreeCount" "matrix" "[[J" ∈ gW0 := gl_in (i := 178) (by decide +kernel) rfl
theorem gw_179 : Jvm.Cond.laysFinal "MazeDesk$TreeCount" "MazeDesk$TreeCount" "board" "LMazeDesk$Board;" ∈ gW0 := gl_in (i := 179) (by decide +kernel) rfl
theorem gw_181 : Jvm.Cond.laysFinal "MazeDesk$TreeCount" "MazeDesk$TreeCount" "rowOf" "[I" ∈ gW0 := gl_in (i := 181) (by decide +kernel) rfl
theorem gw_183 : Jvm.Cond.laysFinal "MazeDesk$TreeCount" "MazeDesk$TreeCount" "matrix" "[[J" ∈ gW0 := gl_in (i := 183) (by decide +kernel) rfl
theorem gw_186 : Jvm.Cond.arrayClass Jvm.ClassFile.FieldType.long ∈ gW0 := gl_in (i := 186) (by decide +kernel) rfl
theorem gw_187 : Jvm.Cond.classLink "MazeDesk" (34 : Nat) "MazeDesk$Maze" ∈ gW0 := gl_in (i := 187) (by decide +kernel) rfl
theorem gw_188 : Jvm.Cond.instantiable "MazeDesk$Maze" (8 : Nat) ∈ gW0 := gl_in (i := 188) (by decide +kernel) rfl
theorem gw_189 : Jvm.Cond.methodLink "MazeDesk" (36 : Nat) ({ cls := "MazeDesk$Maze", name := "<init>", desc := "(LMazeDesk$Board;)V" } : Jvm.MethodName) ∈ gW0 := gl_in (i := 189) (by decide +kernel) rfl
theorem gw_190 : Jvm.Cond.instanceMethod ({ cls := "MazeDesk$Maze", name := "<init>", desc := "(LMazeDesk$Board;)V" } : Jvm.MethodName) ∈ gW0 := gl_in (i := 190) (by decide +kernel) rfl
set_option maxRecDepth 100000 in
theorem gw_191 : Jvm.Cond.code ({ cls := "MazeDesk$Maze", name := "<init>", desc := "(LMazeDesk$Board;)V" } : Jvm.MethodName) prog_5_method_1_code (2 : Nat) (Option.none : Option Jvm.ClassFile.FieldType) ∈ gW0 := gl_in (i := 191) rfl rfl
theorem gw_192 : Jvm.Cond.methodLink "MazeDesk$Maze" (3 : Nat) ({ cls := "java/lang/Object", name := "<init>", desc := "()V" } : Jvm.MethodName) ∈ gW0 := gl_in (i := 192) (by decide +kernel) rfl
theorem gw_193 : Jvm.Cond.methodLink "MazeDesk$Maze" (15 : Nat) ({ cls := "MazeDesk$Board", name := "passages", desc := "()I" } : Jvm.MethodName) ∈ gW0 := gl_in (i := 193) (by decide +kernel) rfl
theorem gw_194 : Jvm.Cond.instanceMethod ({ cls := "MazeDesk$Board", name := "passages", desc := "()I" } : Jvm.MethodName) ∈ gW0 := gl_in (i := 194) (by decide +kernel) rfl
theorem gw_195 : Jvm.Cond.selects "MazeDesk$Board" ({ cls := "MazeDesk$Board", name := "passages", desc := "()I" } : Jvm.MethodName) ({ cls := "MazeDesk$Board", name := "passages", desc := "()I" } : Jvm.MethodName) ∈ gW0 := gl_in (i := 195) (by decide +kernel) rfl
set_option maxRecDepth 100000 in
theorem gw_196 : Jvm.Cond.code ({ cls := "MazeDesk$Board", name := "passages", desc := "()I" } : Jvm.MethodName) prog_2_method_15_code (1 : Nat) (Option.some Jvm.ClassFile.FieldType.int) ∈ gW0 := gl_in (i := 196) rfl rfl
theorem gw_197 : Jvm.Cond.fieldLink "MazeDesk$Maze" (9 : Nat) "MazeDesk$Maze" "board" "LMazeDesk$Board;" ∈ gW0 := gl_in (i := 197) (by decide +kernel) rfl
theorem gw_198 : Jvm.Cond.fieldLink "MazeDesk$Maze" (21 : Nat) "MazeDesk$Maze" "opened" "[Z" ∈ gW0 := gl_in (i := 198) (by decide +kernel) rfl
theorem gw_199 : Jvm.Cond.fieldLink "MazeDesk$Maze" (25 : Nat) "MazeDesk$Maze" "doorKeys" "[I" ∈ gW0 := gl_in (i := 199) (by decide +kernel) rfl
theorem gw_200 : Jvm.Cond.fieldLink "MazeDesk$Maze" (29 : Nat) "MazeDesk$Maze" "onlyDirections" "[I" ∈ gW0 := gl_in (i := 200) (by decide +kernel) rfl
theorem gw_201 : Jvm.Cond.fieldLink "MazeDesk$Maze" (32 : Nat) "MazeDesk$Maze" "keyCells" "[I" ∈ gW0 := gl_in (i := 201) (by decide +kernel) rfl
theorem gw_202 : Jvm.Cond.fieldLink "MazeDesk$Maze" (35 : Nat) "MazeDesk$Maze" "startsAt" "I" ∈ gW0 := gl_in (i := 202) (by decide +kernel) rfl
theorem gw_203 : Jvm.Cond.fieldLink "MazeDesk$Maze" (39 : Nat) "MazeDesk$Maze" "endsAt" "I" ∈ gW0 := gl_in (i := 203) (by decide +kernel) rfl
theorem gw_204 : Jvm.Cond.fieldLink "MazeDesk$Maze" (42 : Nat) "MazeDesk$Maze" "changes" "I" ∈ gW0 := gl_in (i := 204) (by decide +kernel) rfl
theorem gw_205 : Jvm.Cond.laysFinal "MazeDesk$Maze" "MazeDesk$Maze" "board" "LMazeDesk$Board;" ∈ gW0 := gl_in (i := 205) (by decide +kernel) rfl
theorem gw_207 : Jvm.Cond.laysFinal "MazeDesk$Maze" "MazeDesk$Maze" "opened" "[Z" ∈ gW0 := gl_in (i := 207) (by decide +kernel) rfl
theorem gw_209 : Jvm.Cond.laysFinal "MazeDesk$Maze" "MazeDesk$Maze" "doorKeys" "[I" ∈ gW0 := gl_in (i := 209) (by decide +kernel) rfl
theorem gw_211 : Jvm.Cond.laysFinal "MazeDesk$Maze" "MazeDesk$Maze" "onlyDirections" "[I" ∈ gW0 := gl_in (i := 211) (by decide +kernel) rfl
theorem gw_213 : Jvm.Cond.laysFinal "MazeDesk$Maze" "MazeDesk$Maze" "keyCells" "[I" ∈ gW0 := gl_in (i := 213) (by decide +kernel) rfl
theorem gw_215 : Jvm.Cond.lays "MazeDesk$Maze" "MazeDesk$Maze" "startsAt" "I" ∈ gW0 := gl_in (i := 215) (by decide +kernel) rfl
theorem gw_217 : Jvm.Cond.lays "MazeDesk$Maze" "MazeDesk$Maze" "endsAt" "I" ∈ gW0 := gl_in (i := 217) (by decide +kernel) rfl
theorem gw_219 : Jvm.Cond.lays "MazeDesk$Maze" "MazeDesk$Maze" "changes" "I" ∈ gW0 := gl_in (i := 219) (by decide +kernel) rfl
theorem gw_222 : Jvm.Cond.classLink "MazeDesk" (41 : Nat) "MazeDesk$Flood" ∈ gW0 := gl_in (i := 222) (by decide +kernel) rfl
theorem gw_223 : Jvm.Cond.instantiable "MazeDesk$Flood" (5 : Nat) ∈ gW0 := gl_in (i := 223) (by decide +kernel) rfl
theorem gw_224 : Jvm.Cond.methodLink "MazeDesk" (43 : Nat) ({ cls := "MazeDesk$Flood", name := "<init>", desc := "(LMazeDesk$Board;LMazeDesk$Maze;)V" } : Jvm.MethodName) ∈ gW0 := gl_in (i := 224) (by decide +kernel) rfl
theorem gw_225 : Jvm.Cond.instanceMethod ({ cls := "MazeDesk$Flood", name := "<init>", desc := "(LMazeDesk$Board;LMazeDesk$Maze;)V" } : Jvm.MethodName) ∈ gW0 := gl_in (i := 225) (by decide +kernel) rfl
set_option maxRecDepth 100000 in
theorem gw_226 : Jvm.Cond.code ({ cls := "MazeDesk$Flood", name := "<init>", desc := "(LMazeDesk$Board;LMazeDesk$Maze;)V" } : Jvm.MethodName) prog_3_method_1_code (3 : Nat) (Option.none : Option Jvm.ClassFile.FieldType) ∈ gW0 := gl_in (i := 226) rfl rfl
theorem gw_227 : Jvm.Cond.methodLink "MazeDesk$Flood" (3 : Nat) ({ cls := "java/lang/Object", name := "<init>", desc := "()V" } : Jvm.MethodName) ∈ gW0 := gl_in (i := 227) (by decide +kernel) rfl
theorem gw_228 : Jvm.Cond.methodLink "MazeDesk$Flood" (19 : Nat) ({ cls := "MazeDesk$Board", name := "cells", desc := "()I" } : Jvm.MethodName) ∈ gW0 := gl_in (i := 228) (by decide +kernel) rfl
theorem gw_229 : Jvm.Cond.fieldLink "MazeDesk$Flood" (9 : Nat) "MazeDesk$Flood" "board" "LMazeDesk$Board;" ∈ gW0 := gl_in (i := 229) (by decide +kernel) rfl
theorem gw_230 : Jvm.Cond.fieldLink "MazeDesk$Flood" (15 : Nat) "MazeDesk$Flood" "maze" "LMazeDesk$Maze;" ∈ gW0 := gl_in (i := 230) (by decide +kernel) rfl
theorem gw_231 : Jvm.Cond.fieldLink "MazeDesk$Flood" (25 : Nat) "MazeDesk$Flood" "reached" "[Z" ∈ gW0 := gl_in (i := 231) (by decide +kernel) rfl
theorem gw_232 : Jvm.Cond.fieldLink "MazeDesk$Flood" (29 : Nat) "MazeDesk$Flood" "queue" "[I" ∈ gW0 := gl_in (i := 232) (by decide +kernel) rfl
theorem gw_233 : Jvm.Cond.fieldLink "MazeDesk$Flood" (33 : Nat) "MazeDesk$Flood" "count" "I" ∈ gW0 := gl_in (i := 233) (by decide +kernel) rfl
theorem gw_234 : Jvm.Cond.laysFinal "MazeDesk$Flood" "MazeDesk$Flood" "board" "LMazeDesk$Board;" ∈ gW0 := gl_in (i := 234) (by decide +kernel) rfl
theorem gw_236 : Jvm.Cond.laysFinal "MazeDesk$Flood" "MazeDesk$Flood" "maze" "LMazeDesk$Maze;" ∈ gW0 := gl_in (i := 236) (by decide +kernel) rfl
theorem gw_238 : Jvm.Cond.laysFinal "MazeDesk$Flood" "MazeDesk$Flood" "reached" "[Z" ∈ gW0 := gl_in (i := 238) (by decide +kernel) rfl
theorem gw_240 : Jvm.Cond.laysFinal "MazeDesk$Flood" "MazeDesk$Flood" "queue" "[I" ∈ gW0 := gl_in (i := 240) (by decide +kernel) rfl
theorem gw_242 : Jvm.Cond.lays "MazeDesk$Flood" "MazeDesk$Flood" "count" "I" ∈ gW0 := gl_in (i := 242) (by decide +kernel) rfl
theorem gw_245 : Jvm.Cond.classLink "MazeDesk" (50 : Nat) "MazeDesk$KeyPlacer" ∈ gW0 := gl_in (i := 245) (by decide +kernel) rfl
theorem gw_246 : Jvm.Cond.instantiable "MazeDesk$KeyPlacer" (3 : Nat) ∈ gW0 := gl_in (i := 246) (by decide +kernel) rfl
theorem gw_247 : Jvm.Cond.methodLink "MazeDesk" (52 : Nat) ({ cls := "MazeDesk$KeyPlacer", name := "<init>", desc := "(LMazeDesk$Board;LMazeDesk$Maze;LMazeDesk$Flood;)V" } : Jvm.MethodName) ∈ gW0 := gl_in (i := 247) (by decide +kernel) rfl
theorem gw_248 : Jvm.Cond.instanceMethod ({ cls := "MazeDesk$KeyPlacer", name := "<init>", desc := "(LMazeDesk$Board;LMazeDesk$Maze;LMazeDesk$Flood;)V" } : Jvm.MethodName) ∈ gW0 := gl_in (i := 248) (by decide +kernel) rfl
set_option maxRecDepth 100000 in
theorem gw_249 : Jvm.Cond.code ({ cls := "MazeDesk$KeyPlacer", name := "<init>", desc := "(LMazeDesk$Board;LMazeDesk$Maze;LMazeDesk$Flood;)V" } : Jvm.MethodName) prog_4_method_1_code (4 : Nat) (Option.none : Option Jvm.ClassFile.FieldType) ∈ gW0 := gl_in (i := 249) rfl rfl
theorem gw_250 : Jvm.Cond.methodLink "MazeDesk$KeyPlacer" (3 : Nat) ({ cls := "java/lang/Object", name := "<init>", desc := "()V" } : Jvm.MethodName) ∈ gW0 := gl_in (i := 250) (by decide +kernel) rfl
theorem gw_251 : Jvm.Cond.fieldLink "MazeDesk$KeyPlacer" (9 : Nat) "MazeDesk$KeyPlacer" "board" "LMazeDesk$Board;" ∈ gW0 := gl_in (i := 251) (by decide +kernel) rfl
theorem gw_252 : Jvm.Cond.fieldLink "MazeDesk$KeyPlacer" (15 : Nat) "MazeDesk$KeyPlacer" "maze" "LMazeDesk$Maze;" ∈ gW0 := gl_in (i := 252) (by decide +kernel) rfl
theorem gw_253 : Jvm.Cond.fieldLink "MazeDesk$KeyPlacer" (19 : Nat) "MazeDesk$KeyPlacer" "reach" "LMazeDesk$Flood;" ∈ gW0 := gl_in (i := 253) (by decide +kernel) rfl
theorem gw_254 : Jvm.Cond.laysFinal "MazeDesk$KeyPlacer" "MazeDesk$KeyPlacer" "board" "LMazeDesk$Board;" ∈ gW0 := gl_in (i := 254) (by decide +kernel) rfl
theorem gw_256 : Jvm.Cond.laysFinal "MazeDesk$KeyPlacer" "MazeDesk$KeyPlacer" "maze" "LMazeDesk$Maze;" ∈ gW0 := gl_in (i := 256) (by decide +kernel) rfl
theorem gw_258 : Jvm.Cond.laysFinal "MazeDesk$KeyPlacer" "MazeDesk$KeyPlacer" "reach" "LMazeDesk$Flood;" ∈ gW0 := gl_in (i := 258) (by decide +kernel) rfl
theorem gw_261 : Jvm.Cond.classLink "MazeDesk" (59 : Nat) "MazeDesk$Route" ∈ gW0 := gl_in (i := 261) (by decide +kernel) rfl
theorem gw_262 : Jvm.Cond.instantiable "MazeDesk$Route" (8 : Nat) ∈ gW0 := gl_in (i := 262) (by decide +kernel) rfl
theorem gw_263 : Jvm.Cond.methodLink "MazeDesk" (61 : Nat) ({ cls := "MazeDesk$Route", name := "<init>", desc := "(LMazeDesk$Board;LMazeDesk$Maze;)V" } : Jvm.MethodName) ∈ gW0 := gl_in (i := 263) (by decide +kernel) rfl
theorem gw_264 : Jvm.Cond.instanceMethod ({ cls := "MazeDesk$Route", name := "<init>", desc := "(LMazeDesk$Board;LMazeDesk$Maze;)V" } : Jvm.MethodName) ∈ gW0 := gl_in (i := 264) (by decide +kernel) rfl
set_option maxRecDepth 100000 in
theorem gw_265 : Jvm.Cond.code ({ cls := "MazeDesk$Route", name := "<init>", desc := "(LMazeDesk$Board;LMazeDesk$Maze;)V" } : Jvm.MethodName) prog_7_method_1_code (4 : Nat) (Option.none : Option Jvm.ClassFile.FieldType) ∈ gW0 := gl_in (i := 265) rfl rfl
theorem gw_266 : Jvm.Cond.methodLink "MazeDesk$Route" (3 : Nat) ({ cls := "java/lang/Object", name := "<init>", desc := "()V" } : Jvm.MethodName) ∈ gW0 := gl_in (i := 266) (by decide +kernel) rfl
theorem gw_267 : Jvm.Cond.methodLink "MazeDesk$Route" (15 : Nat) ({ cls := "MazeDesk$Board", name := "cells", desc := "()I" } : Jvm.MethodName) ∈ gW0 := gl_in (i := 267) (by decide +kernel) rfl
theorem gw_268 : Jvm.Cond.fieldLink "MazeDesk$Route" (9 : Nat) "MazeDesk$Route" "maze" "LMazeDesk$Maze;" ∈ gW0 := gl_in (i := 268) (by decide +kernel) rfl
theorem gw_269 : Jvm.Cond.fieldLink "MazeDesk$Route" (21 : Nat) "MazeDesk$Route" "cameFrom" "[I" ∈ gW0 := gl_in (i := 269) (by decide +kernel) rfl
theorem gw_270 : Jvm.Cond.fieldLink "MazeDesk$Route" (25 : Nat) "MazeDesk$Route" "cameBy" "[I" ∈ gW0 := gl_in (i := 270) (by decide +kernel) rfl
theorem gw_271 : Jvm.Cond.fieldLink "MazeDesk$Route" (28 : Nat) "MazeDesk$Route" "queue" "[I" ∈ gW0 := gl_in (i := 271) (by decide +kernel) rfl
theorem gw_272 : Jvm.Cond.fieldLink "MazeDesk$Route" (61 : Nat) "MazeDesk$Route" "queued" "I" ∈ gW0 := gl_in (i := 272) (by decide +kernel) rfl
theorem gw_273 : Jvm.Cond.fieldLink "MazeDesk$Route" (49 : Nat) "MazeDesk$Route" "lastState" "I" ∈ gW0 := gl_in (i := 273) (by decide +kernel) rfl
theorem gw_274 : Jvm.Cond.fieldLink "MazeDesk$Route" (31 : Nat) "MazeDesk$Route" "stepCount" "I" ∈ gW0 := gl_in (i := 274) (by decide +kernel) rfl
theorem gw_275 : Jvm.Cond.fieldLink "MazeDesk$Route" (35 : Nat) "MazeDesk$Route" "knownAtChange" "I" ∈ gW0 := gl_in (i := 275) (by decide +kernel) rfl
theorem gw_276 : Jvm.Cond.laysFinal "MazeDesk$Route" "MazeDesk$Route" "maze" "LMazeDesk$Maze;" ∈ gW0 := gl_in (i := 276) (by decide +kernel) rfl
theorem gw_278 : Jvm.Cond.laysFinal "MazeDesk$Route" "MazeDesk$Route" "cameFrom" "[I" ∈ gW0 := gl_in (i := 278) (by decide +kernel) rfl
theorem gw_280 : Jvm.Cond.laysFinal "MazeDesk$Route" "MazeDesk$Route" "cameBy" "[I" ∈ gW0 := gl_in (i := 280) (by decide +kernel) rfl
theorem gw_282 : Jvm.Cond.laysFinal "MazeDesk$Route" "MazeDesk$Route" "queue" "[I" ∈ gW0 := gl_in (i := 282) (by decide +kernel) rfl
theorem gw_284 : Jvm.Cond.lays "MazeDesk$Route" "MazeDesk$Route" "queued" "I" ∈ gW0 := gl_in (i := 284) (by decide +kernel) rfl
theorem gw_286 : Jvm.Cond.lays "MazeDesk$Route" "MazeDesk$Route" "lastState" "I" ∈ gW0 := gl_in (i := 286) (by decide +kernel) rfl
theorem gw_288 : Jvm.Cond.lays "MazeDesk$Route" "MazeDesk$Route" "stepCount" "I" ∈ gW0 := gl_in (i := 288) (by decide +kernel) rfl
theorem gw_290 : Jvm.Cond.lays "MazeDesk$Route" "MazeDesk$Route" "knownAtChange" "I" ∈ gW0 := gl_in (i := 290) (by decide +kernel) rfl
theorem gw_293 : Jvm.Cond.classLink "MazeDesk" (66 : Nat) "MazeDesk$Walker" ∈ gW0 := gl_in (i := 293) (by decide +kernel) rfl
theorem gw_294 : Jvm.Cond.instantiable "MazeDesk$Walker" (4 : Nat) ∈ gW0 := gl_in (i := 294) (by decide +kernel) rfl
theorem gw_295 : Jvm.Cond.methodLink "MazeDesk" (68 : Nat) ({ cls := "MazeDesk$Walker", name := "<init>", desc := "(LMazeDesk$Maze;)V" } : Jvm.MethodName) ∈ gW0 := gl_in (i := 295) (by decide +kernel) rfl
theorem gw_296 : Jvm.Cond.instanceMethod ({ cls := "MazeDesk$Walker", name := "<init>", desc := "(LMazeDesk$Maze;)V" } : Jvm.MethodName) ∈ gW0 := gl_in (i := 296) (by decide +kernel) rfl
set_option maxRecDepth 100000 in
theorem gw_297 : Jvm.Cond.code ({ cls := "MazeDesk$Walker", name := "<init>", desc := "(LMazeDesk$Maze;)V" } : Jvm.MethodName) prog_10_method_1_code (2 : Nat) (Option.none : Option Jvm.ClassFile.FieldType) ∈ gW0 := gl_in (i := 297) rfl rfl
theorem gw_298 : Jvm.Cond.methodLink "MazeDesk$Walker" (3 : Nat) ({ cls := "java/lang/Object", name := "<init>", desc := "()V" } : Jvm.MethodName) ∈ gW0 := gl_in (i := 298) (by decide +kernel) rfl
theorem gw_299 : Jvm.Cond.fieldLink "MazeDesk$Walker" (9 : Nat) "MazeDesk$Walker" "maze" "LMazeDesk$Maze;" ∈ gW0 := gl_in (i := 299) (by decide +kernel) rfl
theorem gw_300 : Jvm.Cond.fieldLink "MazeDesk$Walker" (15 : Nat) "MazeDesk$Walker" "at" "I" ∈ gW0 := gl_in (i := 300) (by decide +kernel) rfl
theorem gw_301 : Jvm.Cond.fieldLink "MazeDesk$Walker" (19 : Nat) "MazeDesk$Walker" "keysHad" "I" ∈ gW0 := gl_in (i := 301) (by decide +kernel) rfl
theorem gw_302 : Jvm.Cond.fieldLink "MazeDesk$Walker" (22 : Nat) "MazeDesk$Walker" "stepsGone" "I" ∈ gW0 := gl_in (i := 302) (by decide +kernel) rfl
theorem gw_303 : Jvm.Cond.laysFinal "MazeDesk$Walker" "MazeDesk$Walker" "maze" "LMazeDesk$Maze;" ∈ gW0 := gl_in (i := 303) (by decide +kernel) rfl
theorem gw_305 : Jvm.Cond.lays "MazeDesk$Walker" "MazeDesk$Walker" "at" "I" ∈ gW0 := gl_in (i := 305) (by decide +kernel) rfl
theorem gw_307 : Jvm.Cond.lays "MazeDesk$Walker" "MazeDesk$Walker" "keysHad" "I" ∈ gW0 := gl_in (i := 307) (by decide +kernel) rfl
theorem gw_309 : Jvm.Cond.lays "MazeDesk$Walker" "MazeDesk$Walker" "stepsGone" "I" ∈ gW0 := gl_in (i := 309) (by decide +kernel) rfl
theorem gw_312 : Jvm.Cond.classLink "MazeDesk" (75 : Nat) "MazeDesk$Picture" ∈ gW0 := gl_in (i := 312) (by decide +kernel) rfl
theorem gw_313 : Jvm.Cond.instantiable "MazeDesk$Picture" (2 : Nat) ∈ gW0 := gl_in (i := 313) (by decide +kernel) rfl
theorem gw_314 : Jvm.Cond.methodLink "MazeDesk" (77 : Nat) ({ cls := "MazeDesk$Picture", name := "<init>", desc := "(LMazeDesk$Board;LMazeDesk$Maze;)V" } : Jvm.MethodName) ∈ gW0 := gl_in (i := 314) (by decide +kernel) rfl
theorem gw_315 : Jvm.Cond.instanceMethod ({ cls := "MazeDesk$Picture", name := "<init>", desc := "(LMazeDesk$Board;LMazeDesk$Maze;)V" } : Jvm.MethodName) ∈ gW0 := gl_in (i := 315) (by decide +kernel) rfl
set_option maxRecDepth 100000 in
theorem gw_316 : Jvm.Cond.code ({ cls := "MazeDesk$Picture", name := "<init>", desc := "(LMazeDesk$Board;LMazeDesk$Maze;)V" } : Jvm.MethodName) prog_6_method_1_code (3 : Nat) (Option.none : Option Jvm.ClassFile.FieldType) ∈ gW0 := gl_in (i := 316) rfl rfl
theorem gw_317 : Jvm.Cond.methodLink "MazeDesk$Picture" (3 : Nat) ({ cls := "java/lang/Object", name := "<init>", desc := "()V" } : Jvm.MethodName) ∈ gW0 := gl_in (i := 317) (by decide +kernel) rfl
theorem gw_318 : Jvm.Cond.fieldLink "MazeDesk$Picture" (9 : Nat) "MazeDesk$Picture" "board" "LMazeDesk$Board;" ∈ gW0 := gl_in (i := 318) (by decide +kernel) rfl
theorem gw_319 : Jvm.Cond.fieldLink "MazeDesk$Picture" (15 : Nat) "MazeDesk$Picture" "maze" "LMazeDesk$Maze;" ∈ gW0 := gl_in (i := 319) (by decide +kernel) rfl
theorem gw_320 : Jvm.Cond.laysFinal "MazeDesk$Picture" "MazeDesk$Picture" "board" "LMazeDesk$Board;" ∈ gW0 := gl_in (i := 320) (by decide +kernel) rfl
theorem gw_322 : Jvm.Cond.laysFinal "MazeDesk$Picture" "MazeDesk$Picture" "maze" "LMazeDesk$Maze;" ∈ gW0 := gl_in (i := 322) (by decide +kernel) rfl
theorem gw_325 : Jvm.Cond.fieldLink "MazeDesk" (14 : Nat) "MazeDesk" "board" "LMazeDesk$Board;" ∈ gW0 := gl_in (i := 325) (by decide +kernel) rfl
theorem gw_326 : Jvm.Cond.fieldLink "MazeDesk" (23 : Nat) "MazeDesk" "stacks" "LMazeDesk$Stacks;" ∈ gW0 := gl_in (i := 326) (by decide +kernel) rfl
theorem gw_327 : Jvm.Cond.fieldLink "MazeDesk" (30 : Nat) "MazeDesk" "treeCount" "LMazeDesk$TreeCount;" ∈ gW0 := gl_in (i := 327) (by decide +kernel) rfl
theorem gw_328 : Jvm.Cond.fieldLink "MazeDesk" (37 : Nat) "MazeDesk" "maze" "LMazeDesk$Maze;" ∈ gW0 := gl_in (i := 328) (by decide +kernel) rfl
theorem gw_329 : Jvm.Cond.fieldLink "MazeDesk" (46 : Nat) "MazeDesk" "flood" "LMazeDesk$Flood;" ∈ gW0 := gl_in (i := 329) (by decide +kernel) rfl
theorem gw_330 : Jvm.Cond.fieldLink "MazeDesk" (55 : Nat) "MazeDesk" "keyPlacer" "LMazeDesk$KeyPlacer;" ∈ gW0 := gl_in (i := 330) (by decide +kernel) rfl
theorem gw_331 : Jvm.Cond.fieldLink "MazeDesk" (62 : Nat) "MazeDesk" "route" "LMazeDesk$Route;" ∈ gW0 := gl_in (i := 331) (by decide +kernel) rfl
theorem gw_332 : Jvm.Cond.fieldLink "MazeDesk" (71 : Nat) "MazeDesk" "walker" "LMazeDesk$Walker;" ∈ gW0 := gl_in (i := 332) (by decide +kernel) rfl
theorem gw_333 : Jvm.Cond.fieldLink "MazeDesk" (78 : Nat) "MazeDesk" "picture" "LMazeDesk$Picture;" ∈ gW0 := gl_in (i := 333) (by decide +kernel) rfl
theorem gw_334 : Jvm.Cond.fieldLink "MazeDesk" (82 : Nat) "MazeDesk" "hasMaze" "Z" ∈ gW0 := gl_in (i := 334) (by decide +kernel) rfl
theorem gw_335 : Jvm.Cond.laysFinal "MazeDesk" "MazeDesk" "board" "LMazeDesk$Board;" ∈ gW0 := gl_in (i := 335) (by decide +kernel) rfl
theorem gw_337 : Jvm.Cond.laysFinal "MazeDesk" "MazeDesk" "stacks" "LMazeDesk$Stacks;" ∈ gW0 := gl_in (i := 337) (by decide +kernel) rfl
theorem gw_339 : Jvm.Cond.laysFinal "MazeDesk" "MazeDesk" "treeCount" "LMazeDesk$TreeCount;" ∈ gW0 := gl_in (i := 339) (by decide +kernel) rfl
theorem gw_341 : Jvm.Cond.laysFinal "MazeDesk" "MazeDesk" "maze" "LMazeDesk$Maze;" ∈ gW0 := gl_in (i := 341) (by decide +kernel) rfl
theorem gw_343 : Jvm.Cond.laysFinal "MazeDesk" "MazeDesk" "flood" "LMazeDesk$Flood;" ∈ gW0 := gl_in (i := 343) (by decide +kernel) rfl
theorem gw_345 : Jvm.Cond.laysFinal "MazeDesk" "MazeDesk" "keyPlacer" "LMazeDesk$KeyPlacer;" ∈ gW0 := gl_in (i := 345) (by decide +kernel) rfl
theorem gw_347 : Jvm.Cond.laysFinal "MazeDesk" "MazeDesk" "route" "LMazeDesk$Route;" ∈ gW0 := gl_in (i := 347) (by decide +kernel) rfl
theorem gw_349 : Jvm.Cond.laysFinal "MazeDesk" "MazeDesk" "walker" "LMazeDesk$Walker;" ∈ gW0 := gl_in (i := 349) (by decide +kernel) rfl
theorem gw_351 : Jvm.Cond.laysFinal "MazeDesk" "MazeDesk" "picture" "LMazeDesk$Picture;" ∈ gW0 := gl_in (i := 351) (by decide +kernel) rfl
theorem gw_353 : Jvm.Cond.lays "MazeDesk" "MazeDesk" "hasMaze" "Z" ∈ gW0 := gl_in (i := 353) (by decide +kernel) rfl
theorem gw_356 : Jvm.Cond.methodLink "MazeDeskLaw" (21 : Nat) ({ cls := "MazeDesk", name := "cut", desc := "(IZ)Z" } : Jvm.MethodName) ∈ gW0 := gl_in (i := 356) (by decide +kernel) rfl
theorem gw_357 : Jvm.Cond.instanceMethod ({ cls := "MazeDesk", name := "cut", desc := "(IZ)Z" } : Jvm.MethodName) ∈ gW0 := gl_in (i := 357) (by decide +kernel) rfl
theorem gw_358 : Jvm.Cond.selects "MazeDesk" ({ cls := "MazeDesk", name := "cut", desc := "(IZ)Z" } : Jvm.MethodName) ({ cls := "MazeDesk", name := "cut", desc := "(IZ)Z" } : Jvm.MethodName) ∈ gW0 := gl_in (i := 358) (by decide +kernel) rfl
set_option maxRecDepth 100000 in
theorem gw_359 : Jvm.Cond.code ({ cls := "MazeDesk", name := "cut", desc := "(IZ)Z" } : Jvm.MethodName) prog_1_method_2_code (3 : Nat) (Option.some Jvm.ClassFile.FieldType.boolean) ∈ gW0 := gl_in (i := 359) rfl rfl
theorem gw_360 : Jvm.Cond.methodLink "MazeDesk" (86 : Nat) ({ cls := "MazeDesk$Board", name := "has", desc := "(I)Z" } : Jvm.MethodName) ∈ gW0 := gl_in (i := 360) (by decide +kernel) rfl
theorem gw_361 : Jvm.Cond.instanceMethod ({ cls := "MazeDesk$Board", name := "has", desc := "(I)Z" } : Jvm.MethodName) ∈ gW0 := gl_in (i := 361) (by decide +kernel) rfl
theorem gw_362 : Jvm.Cond.selects "MazeDesk$Board" ({ cls := "MazeDesk$Board", name := "has", desc := "(I)Z" } : Jvm.MethodName) ({ cls := "MazeDesk$Board", name := "has", desc := "(I)Z" } : Jvm.MethodName) ∈ gW0 := gl_in (i := 362) (by decide +kernel) rfl
set_option maxRecDepth 100000 in
theorem gw_363 : Jvm.Cond.code ({ cls := "MazeDesk$Board", name := "has", desc := "(I)Z" } : Jvm.MethodName) prog_2_method_10_code (2 : Nat) (Option.some Jvm.ClassFile.FieldType.boolean) ∈ gW0 := gl_in (i := 363) rfl rfl
theorem gw_364 : Jvm.Cond.methodLink "MazeDesk" (90 : Nat) ({ cls := "MazeDesk$Board", name := "isCut", desc := "(I)Z" } : Jvm.MethodName) ∈ gW0 := gl_in (i := 364) (by decide +kernel) rfl
theorem gw_365 : Jvm.Cond.instanceMethod ({ cls := "MazeDesk$Board", name := "isCut", desc := "(I)Z" } : Jvm.MethodName) ∈ gW0 := gl_in (i := 365) (by decide +kernel) rfl
theorem gw_366 : Jvm.Cond.selects "MazeDesk$Board" ({ cls := "MazeDesk$Board", name := "isCut", desc := "(I)Z" } : Jvm.MethodName) ({ cls := "MazeDesk$Board", name := "isCut", desc := "(I)Z" } : Jvm.MethodName) ∈ gW0 := gl_in (i := 366) (by decide +kernel) rfl
set_option maxRecDepth 100000 in
theorem gw_367 : Jvm.Cond.code ({ cls := "MazeDesk$Board", name := "isCut", desc := "(I)Z" } : Jvm.MethodName) prog_2_method_11_code (2 : Nat) (Option.some Jvm.ClassFile.FieldType.boolean) ∈ gW0 := gl_in (i := 367) rfl rfl
theorem gw_368 : Jvm.Cond.methodLink "MazeDesk$Board" (62 : Nat) ({ cls := "MazeDesk$Board", name := "has", desc := "(I)Z" } : Jvm.MethodName) ∈ gW0 := gl_in (i := 368) (by decide +kernel) rfl
theorem gw_369 : Jvm.Cond.methodLink "MazeDesk" (93 : Nat) ({ cls := "MazeDesk$Board", name := "setCut", desc := "(IZ)V" } : Jvm.MethodName) ∈ gW0 := gl_in (i := 369) (by decide +kernel) rfl
theorem gw_370 : Jvm.Cond.instanceMethod ({ cls := "MazeDesk$Board", name := "setCut", desc := "(IZ)V" } : Jvm.MethodName) ∈ gW0 := gl_in (i := 370) (by decide +kernel) rfl
theorem gw_371 : Jvm.Cond.selects "MazeDesk$Board" ({ cls := "MazeDesk$Board", name := "setCut", desc := "(IZ)V" } : Jvm.MethodName) ({ cls := "MazeDesk$Board", name := "setCut", desc := "(IZ)V" } : Jvm.MethodName) ∈ gW0 := gl_in (i := 371) (by decide +kernel) rfl
set_option maxRecDepth 100000 in
theorem gw_372 : Jvm.Cond.code ({ cls := "MazeDesk$Board", name := "setCut", desc := "(IZ)V" } : Jvm.MethodName) prog_2_method_13_code (3 : Nat) (Option.none : Option Jvm.ClassFile.FieldType) ∈ gW0 := gl_in (i := 372) rfl rfl
theorem gw_373 : Jvm.Cond.methodLink "MazeDeskLaw" (26 : Nat) ({ cls := "MazeDesk", name := "make", desc := "(II)I" } : Jvm.MethodName) ∈ gW0 := gl_in (i := 373) (by decide +kernel) rfl
theorem gw_374 : Jvm.Cond.instanceMethod ({ cls := "MazeDesk", name := "make", desc := "(II)I" } : Jvm.MethodName) ∈ gW0 := gl_in (i := 374) (by decide +kernel) rfl
theorem gw_375 : Jvm.Cond.selects "MazeDesk" ({ cls := "MazeDesk", name := "make", desc := "(II)I" } : Jvm.MethodName) ({ cls := "MazeDesk", name := "make", desc := "(II)I" } : Jvm.MethodName) ∈ gW0 := gl_in (i := 375) (by decide +kernel) rfl
set_option maxRecDepth 100000 in
theorem gw_376 : Jvm.Cond.code ({ cls := "MazeDesk", name := "make", desc := "(II)I" } : Jvm.MethodName) prog_1_method_3_code (3 : Nat) (Option.some Jvm.ClassFile.FieldType.int) ∈ gW0 := gl_in (i := 376) rfl rfl
theorem gw_377 : Jvm.Cond.methodLink "MazeDesk" (97 : Nat) ({ cls := "MazeDesk$Board", name := "isFree", desc := "(I)Z" } : Jvm.MethodName) ∈ gW0 := gl_in (i := 377) (by decide +kernel) rfl
theorem gw_378 : Jvm.Cond.instanceMethod ({ cls := "MazeDesk$Board", name := "isFree", desc := "(I)Z" } : Jvm.MethodName) ∈ gW0 := gl_in (i := 378) (by decide +kernel) rfl
theorem gw_379 : Jvm.Cond.selects "MazeDesk$Board" ({ cls := "MazeDesk$Board", name := "isFree", desc := "(I)Z" } : Jvm.MethodName) ({ cls := "MazeDesk$Board", name := "isFree", desc := "(I)Z" } : Jvm.MethodName) ∈ gW0 := gl_in (i := 379) (by decide +kernel) rfl
set_option maxRecDepth 100000 in
theorem gw_380 : Jvm.Cond.code ({ cls := "MazeDesk$Board", name := "isFree", desc := "(I)Z" } : Jvm.MethodName) prog_2_method_12_code (2 : Nat) (Option.some Jvm.ClassFile.FieldType.boolean) ∈ gW0 := gl_in (i := 380) rfl rfl
theorem gw_381 : Jvm.Cond.methodLink "MazeDesk" (100 : Nat) ({ cls := "MazeDesk$Flood", name := "spreadByWays", desc := "(I)I" } : Jvm.MethodName) ∈ gW0 := gl_in (i := 381) (by decide +kernel) rfl
theorem gw_382 : Jvm.Cond.instanceMethod ({ cls := "MazeDesk$Flood", name := "spreadByWays", desc := "(I)I" } : Jvm.MethodName) ∈ gW0 := gl_in (i := 382) (by decide +kernel) rfl
theorem gw_383 : Jvm.Cond.selects "MazeDesk$Flood" ({ cls := "MazeDesk$Flood", name := "spreadByWays", desc := "(I)I" } : Jvm.MethodName) ({ cls := "MazeDesk$Flood", name := "spreadByWays", desc := "(I)I" } : Jvm.MethodName) ∈ gW0 := gl_in (i := 383) (by decide +kernel) rfl
set_option maxRecDepth 100000 in
theorem gw_384 : Jvm.Cond.code ({ cls := "MazeDesk$Flood", name := "spreadByWays", desc := "(I)I" } : Jvm.MethodName) prog_3_method_5_code (4 : Nat) (Option.some Jvm.ClassFile.FieldType.int) ∈ gW0 := gl_in (i := 384) rfl rfl
theorem gw_385 : Jvm.Cond.methodLink "MazeDesk$Flood" (41 : Nat) ({ cls := "MazeDesk$Flood", name := "startAt", desc := "(I)V" } : Jvm.MethodName) ∈ gW0 := gl_in (i := 385) (by decide +kernel) rfl
theorem gw_387 : Jvm.Cond.instanceMethod ({ cls := "MazeDesk$Flood", name := "startAt", desc := "(I)V" } : Jvm.MethodName) ∈ gW0 := gl_in (i := 387) (by decide +kernel) rfl
set_option maxRecDepth 100000 in
theorem gw_388 : Jvm.Cond.code ({ cls := "MazeDesk$Flood", name := "startAt", desc := "(I)V" } : Jvm.MethodName) prog_3_method_7_code (3 : Nat) (Option.none : Option Jvm.ClassFile.FieldType) ∈ gW0 := gl_in (i := 388) rfl rfl
theorem gw_389 : Jvm.Cond.methodLink "MazeDesk$Flood" (49 : Nat) ({ cls := "MazeDesk$Flood", name := "reach", desc := "(I)V" } : Jvm.MethodName) ∈ gW0 := gl_in (i := 389) (by decide +kernel) rfl
theorem gw_391 : Jvm.Cond.instanceMethod ({ cls := "MazeDesk$Flood", name := "reach", desc := "(I)V" } : Jvm.MethodName) ∈ gW0 := gl_in (i := 391) (by decide +kernel) rfl
set_option maxRecDepth 100000 in
theorem gw_392 : Jvm.Cond.code ({ cls := "MazeDesk$Flood", name := "reach", desc := "(I)V" } : Jvm.MethodName) prog_3_method_8_code (2 : Nat) (Option.none : Option Jvm.ClassFile.FieldType) ∈ gW0 := gl_in (i := 392) rfl rfl
theorem gw_393 : Jvm.Cond.methodLink "MazeDesk$Flood" (45 : Nat) ({ cls := "MazeDesk$Board", name := "ahead", desc := "(II)I" } : Jvm.MethodName) ∈ gW0 := gl_in (i := 393) (by decide +kernel) rfl
theorem gw_394 : Jvm.Cond.instanceMethod ({ cls := "MazeDesk$Board", name := "ahead", desc := "(II)I" } : Jvm.MethodName) ∈ gW0 := gl_in (i := 394) (by decide +kernel) rfl
theorem gw_395 : Jvm.Cond.selects "MazeDesk$Board" ({ cls := "MazeDesk$Board", name := "ahead", desc := "(II)I" } : Jvm.MethodName) ({ cls := "MazeDesk$Board", name := "ahead", desc := "(II)I" } : Jvm.MethodName) ∈ gW0 := gl_in (i := 395) (by decide +kernel) rfl
set_option maxRecDepth 100000 in
theorem gw_396 : Jvm.Cond.code ({ cls := "MazeDesk$Board", name := "ahead", desc := "(II)I" } : Jvm.MethodName) prog_2_method_14_code (3 : Nat) (Option.some Jvm.ClassFile.FieldType.int) ∈ gW0 := gl_in (i := 396) rfl rfl
theorem gw_397 : Jvm.Cond.methodLink "MazeDesk" (104 : Nat) ({ cls := "MazeDesk$Board", name := "freeCells", desc := "()I" } : Jvm.MethodName) ∈ gW0 := gl_in (i := 397) (by decide +kernel) rfl
theorem gw_398 : Jvm.Cond.instanceMethod ({ cls := "MazeDesk$Board", name := "freeCells", desc := "()I" } : Jvm.MethodName) ∈ gW0 := gl_in (i := 398) (by decide +kernel) rfl
theorem gw_399 : Jvm.Cond.selects "MazeDesk$Board" ({ cls := "MazeDesk$Board", name := "freeCells", desc := "()I" } : Jvm.MethodName) ({ cls := "MazeDesk$Board", name := "freeCells", desc := "()I" } : Jvm.MethodName) ∈ gW0 := gl_in (i := 399) (by decide +kernel) rfl
set_option maxRecDepth 100000 in
theorem gw_400 : Jvm.Cond.code ({ cls := "MazeDesk$Board", name := "freeCells", desc := "()I" } : Jvm.MethodName) prog_2_method_9_code (1 : Nat) (Option.some Jvm.ClassFile.FieldType.int) ∈ gW0 := gl_in (i := 400) rfl rfl
theorem gw_401 : Jvm.Cond.methodLink "MazeDesk" (108 : Nat) ({ cls := "MazeDesk$Stacks", name := "settle", desc := "(II)Z" } : Jvm.MethodName) ∈ gW0 := gl_in (i := 401) (by decide +kernel) rfl
theorem gw_402 : Jvm.Cond.instanceMethod ({ cls := "MazeDesk$Stacks", name := "settle", desc := "(II)Z" } : Jvm.MethodName) ∈ gW0 := gl_in (i := 402) (by decide +kernel) rfl
theorem gw_403 : Jvm.Cond.selects "MazeDesk$Stacks" ({ cls := "MazeDesk$Stacks", name := "settle", desc := "(II)Z" } : Jvm.MethodName) ({ cls := "MazeDesk$Stacks", name := "settle", desc := "(II)Z" } : Jvm.MethodName) ∈ gW0 := gl_in (i := 403) (by decide +kernel) rfl
set_option maxRecDepth 100000 in
theorem gw_404 : Jvm.Cond.code ({ cls := "MazeDesk$Stacks", name := "settle", desc := "(II)Z" } : Jvm.MethodName) prog_8_method_5_code (4 : Nat) (Option.some Jvm.ClassFile.FieldType.boolean) ∈ gW0 := gl_in (i := 404) rfl rfl
theorem gw_405 : Jvm.Cond.methodLink "MazeDesk$Stacks" (44 : Nat) ({ cls := "MazeDesk$Stacks", name := "lay", desc := "(II)V" } : Jvm.MethodName) ∈ gW0 := gl_in (i := 405) (by decide +kernel) rfl
theorem gw_407 : Jvm.Cond.instanceMethod ({ cls := "MazeDesk$Stacks", name := "lay", desc := "(II)V" } : Jvm.MethodName) ∈ gW0 := gl_in (i := 407) (by decide +kernel) rfl
set_option maxRecDepth 100000 in
theorem gw_408 : Jvm.Cond.code ({ cls := "MazeDesk$Stacks", name := "lay", desc := "(II)V" } : Jvm.MethodName) prog_8_method_6_code (4 : Nat) (Option.none : Option Jvm.ClassFile.FieldType) ∈ gW0 := gl_in (i := 408) rfl rfl
theorem gw_409 : Jvm.Cond.methodLink "MazeDesk$Stacks" (55 : Nat) ({ cls := "MazeDesk$Stacks", name := "listWays", desc := "(I)V" } : Jvm.MethodName) ∈ gW0 := gl_in (i := 409) (by decide +kernel) rfl
theorem gw_411 : Jvm.Cond.instanceMethod ({ cls := "MazeDesk$Stacks", name := "listWays", desc := "(I)V" } : Jvm.MethodName) ∈ gW0 := gl_in (i := 411) (by decide +kernel) rfl
set_option maxRecDepth 100000 in
theorem gw_412 : Jvm.Cond.code ({ cls := "MazeDesk$Stacks", name := "listWays", desc := "(I)V" } : Jvm.MethodName) prog_8_method_7_code (4 : Nat) (Option.none : Option Jvm.ClassFile.FieldType) ∈ gW0 := gl_in (i := 412) rfl rfl
theorem gw_413 : Jvm.Cond.methodLink "MazeDesk$Stacks" (63 : Nat) ({ cls := "MazeDesk$Board", name := "ahead", desc := "(II)I" } : Jvm.MethodName) ∈ gW0 := gl_in (i := 413) (by decide +kernel) rfl
theorem gw_414 : Jvm.Cond.constant "MazeDesk$Stacks" (59 : Nat) (-1640531535 : Int32) ∈ gW0 := gl_in (i := 414) (by decide +kernel) rfl
theorem gw_415 : Jvm.Cond.methodLink "MazeDesk$Stacks" (60 : Nat) ({ cls := "MazeDesk$Stacks", name := "uncoverNext", desc := "(I)V" } : Jvm.MethodName) ∈ gW0 := gl_in (i := 415) (by decide +kernel) rfl
theorem gw_417 : Jvm.Cond.instanceMethod ({ cls := "MazeDesk$Stacks", name := "uncoverNext", desc := "(I)V" } : Jvm.MethodName) ∈ gW0 := gl_in (i := 417) (by decide +kernel) rfl
set_option maxRecDepth 100000 in
theorem gw_418 : Jvm.Cond.code ({ cls := "MazeDesk$Stacks", name := "uncoverNext", desc := "(I)V" } : Jvm.MethodName) prog_8_method_8_code (2 : Nat) (Option.none : Option Jvm.ClassFile.FieldType) ∈ gW0 := gl_in (i := 418) rfl rfl
theorem gw_420 : Jvm.Cond.static ({ cls := "MazeDesk", name := "nextOf", desc := "(I)I" } : Jvm.MethodName) ∈ gW0 := gl_in (i := 420) (by decide +kernel) rfl
set_option maxRecDepth 100000 in
theorem gw_421 : Jvm.Cond.code ({ cls := "MazeDesk", name := "nextOf", desc := "(I)I" } : Jvm.MethodName) prog_1_method_31_code (1 : Nat) (Option.some Jvm.ClassFile.FieldType.int) ∈ gW0 := gl_in (i := 421) rfl rfl
theorem gw_422 : Jvm.Cond.constant "MazeDesk" (201 : Nat) (1664525 : Int32) ∈ gW0 := gl_in (i := 422) (by decide +kernel) rfl
theorem gw_423 : Jvm.Cond.constant "MazeDesk" (202 : Nat) (1013904223 : Int32) ∈ gW0 := gl_in (i := 423) (by decide +kernel) rfl
theorem gw_425 : Jvm.Cond.static ({ cls := "MazeDesk", name := "chosenBy", desc := "(II)I" } : Jvm.MethodName) ∈ gW0 := gl_in (i := 425) (by decide +kernel) rfl
set_option maxRecDepth 100000 in
theorem gw_426 : Jvm.Cond.code ({ cls := "MazeDesk", name := "chosenBy", desc := "(II)I" } : Jvm.MethodName) prog_1_method_32_code (2 : Nat) (Option.some Jvm.ClassFile.FieldType.int) ∈ gW0 := gl_in (i := 426) rfl rfl
theorem gw_427 : Jvm.Cond.methodLink "MazeDesk$Stacks" (48 : Nat) ({ cls := "MazeDesk$Board", name := "isFree", desc := "(I)Z" } : Jvm.MethodName) ∈ gW0 := gl_in (i := 427) (by decide +kernel) rfl
theorem gw_428 : Jvm.Cond.methodLink "MazeDesk$Stacks" (52 : Nat) ({ cls := "MazeDesk$Stacks", name := "joinTree", desc := "(I)Z" } : Jvm.MethodName) ∈ gW0 := gl_in (i := 428) (by decide +kernel) rfl
theorem gw_430 : Jvm.Cond.instanceMethod ({ cls := "MazeDesk$Stacks", name := "joinTree", desc := "(I)Z" } : Jvm.MethodName) ∈ gW0 := gl_in (i := 430) (by decide +kernel) rfl
set_option maxRecDepth 100000 in
theorem gw_431 : Jvm.Cond.code ({ cls := "MazeDesk$Stacks", name := "joinTree", desc := "(I)Z" } : Jvm.MethodName) prog_8_method_9_code (4 : Nat) (Option.some Jvm.ClassFile.FieldType.boolean) ∈ gW0 := gl_in (i := 431) rfl rfl
theorem gw_432 : Jvm.Cond.constant "MazeDesk$Stacks" (74 : Nat) (1000000 : Int32) ∈ gW0 := gl_in (i := 432) (by decide +kernel) rfl
theorem gw_433 : Jvm.Cond.methodLink "MazeDesk$Stacks" (75 : Nat) ({ cls := "MazeDesk$Stacks", name := "popCircle", desc := "(I)Z" } : Jvm.MethodName) ∈ gW0 := gl_in (i := 433) (by decide +kernel) rfl
theorem gw_435 : Jvm.Cond.instanceMethod ({ cls := "MazeDesk$Stacks", name := "popCircle", desc := "(I)Z" } : Jvm.MethodName) ∈ gW0 := gl_in (i := 435) (by decide +kernel) rfl
set_option maxRecDepth 100000 in
theorem gw_436 : Jvm.Cond.code ({ cls := "MazeDesk$Stacks", name := "popCircle", desc := "(I)Z" } : Jvm.MethodName) prog_8_method_10_code (5 : Nat) (Option.some Jvm.ClassFile.FieldType.boolean) ∈ gW0 := gl_in (i := 436) rfl rfl
theorem gw_437 : Jvm.Cond.methodLink "MazeDesk$Stacks" (78 : Nat) ({ cls := "MazeDesk$Stacks", name := "markTrail", desc := "(I)V" } : Jvm.MethodName) ∈ gW0 := gl_in (i := 437) (by decide +kernel) rfl
theorem gw_439 : Jvm.Cond.instanceMethod ({ cls := "MazeDesk$Stacks", name := "markTrail", desc := "(I)V" } : Jvm.MethodName) ∈ gW0 := gl_in (i := 439) (by decide +kernel) rfl
set_option maxRecDepth 100000 in
theorem gw_440 : Jvm.Cond.code ({ cls := "MazeDesk$Stacks", name := "markTrail", desc := "(I)V" } : Jvm.MethodName) prog_8_method_11_code (4 : Nat) (Option.none : Option Jvm.ClassFile.FieldType) ∈ gW0 := gl_in (i := 440) rfl rfl
theorem gw_441 : Jvm.Cond.methodLink "MazeDesk" (112 : Nat) ({ cls := "MazeDesk$Maze", name := "layOut", desc := "(LMazeDesk$Stacks;I)V" } : Jvm.MethodName) ∈ gW0 := gl_in (i := 441) (by decide +kernel) rfl
theorem gw_442 : Jvm.Cond.instanceMethod ({ cls := "MazeDesk$Maze", name := "layOut", desc := "(LMazeDesk$Stacks;I)V" } : Jvm.MethodName) ∈ gW0 := gl_in (i := 442) (by decide +kernel) rfl
theorem gw_443 : Jvm.Cond.selects "MazeDesk$Maze" ({ cls := "MazeDesk$Maze", name := "layOut", desc := "(LMazeDesk$Stacks;I)V" } : Jvm.MethodName) ({ cls := "MazeDesk$Maze", name := "layOut", desc := "(LMazeDesk$Stacks;I)V" } : Jvm.MethodName) ∈ gW0 := gl_in (i := 443) (by decide +kernel) rfl
set_option maxRecDepth 100000 in
theorem gw_444 : Jvm.Cond.code ({ cls := "MazeDesk$Maze", name := "layOut", desc := "(LMazeDesk$Stacks;I)V" } : Jvm.MethodName) prog_5_method_2_code (5 : Nat) (Option.none : Option Jvm.ClassFile.FieldType) ∈ gW0 := gl_in (i := 444) rfl rfl
theorem gw_445 : Jvm.Cond.methodLink "MazeDesk$Maze" (45 : Nat) ({ cls := "MazeDesk$Maze", name := "setOpen", desc := "(IZ)V" } : Jvm.MethodName) ∈ gW0 := gl_in (i := 445) (by decide +kernel) rfl
theorem gw_446 : Jvm.Cond.instanceMethod ({ cls := "MazeDesk$Maze", name := "setOpen", desc := "(IZ)V" } : Jvm.MethodName) ∈ gW0 := gl_in (i := 446) (by decide +kernel) rfl
theorem gw_447 : Jvm.Cond.selects "MazeDesk$Maze" ({ cls := "MazeDesk$Maze", name := "setOpen", desc := "(IZ)V" } : Jvm.MethodName) ({ cls := "MazeDesk$Maze", name := "setOpen", desc := "(IZ)V" } : Jvm.MethodName) ∈ gW0 := gl_in (i := 447) (by decide +kernel) rfl
set_option maxRecDepth 100000 in
theorem gw_448 : Jvm.Cond.code ({ cls := "MazeDesk$Maze", name := "setOpen", desc := "(IZ)V" } : Jvm.MethodName) prog_5_method_5_code (3 : Nat) (Option.none : Option Jvm.ClassFile.FieldType) ∈ gW0 := gl_in (i := 448) rfl rfl
theorem gw_449 : Jvm.Cond.methodLink "MazeDesk$Maze" (49 : Nat) ({ cls := "MazeDesk$Maze", name := "liftKeys", desc := "()V" } : Jvm.MethodName) ∈ gW0 := gl_in (i := 449) (by decide +kernel) rfl
theorem gw_450 : Jvm.Cond.instanceMethod ({ cls := "MazeDesk$Maze", name := "liftKeys", desc := "()V" } : Jvm.MethodName) ∈ gW0 := gl_in (i := 450) (by decide +kernel) rfl
theorem gw_451 : Jvm.Cond.selects "MazeDesk$Maze" ({ cls := "MazeDesk$Maze", name := "liftKeys", desc := "()V" } : Jvm.MethodName) ({ cls := "MazeDesk$Maze", name := "liftKeys", desc := "()V" } : Jvm.MethodName) ∈ gW0 := gl_in (i := 451) (by decide +kernel) rfl
set_option maxRecDepth 100000 in
theorem gw_452 : Jvm.Cond.code ({ cls := "MazeDesk$Maze", name := "liftKeys", desc := "()V" } : Jvm.MethodName) prog_5_method_15_code (1 : Nat) (Option.none : Option Jvm.ClassFile.FieldType) ∈ gW0 := gl_in (i := 452) rfl rfl
theorem gw_453 : Jvm.Cond.methodLink "MazeDesk$Maze" (65 : Nat) ({ cls := "java/util/Arrays", name := "fill", desc := "([II)V" } : Jvm.MethodName) ∈ gW0 := gl_in (i := 453) (by decide +kernel) rfl
theorem gw_454 : Jvm.Cond.static ({ cls := "java/util/Arrays", name := "fill", desc := "([II)V" } : Jvm.MethodName) ∈ gW0 := gl_in (i := 454) (by decide +kernel) rfl
set_option maxRecDepth 100000 in
theorem gw_455 : Jvm.Cond.code ({ cls := "java/util/Arrays", name := "fill", desc := "([II)V" } : Jvm.MethodName) prog_17_method_103_code (4 : Nat) (Option.none : Option Jvm.ClassFile.FieldType) ∈ gW0 := gl_in (i := 455) rfl rfl
theorem gw_456 : Jvm.Cond.methodLink "MazeDesk$Maze" (52 : Nat) ({ cls := "MazeDesk$Board", name := "cells", desc := "()I" } : Jvm.MethodName) ∈ gW0 := gl_in (i := 456) (by decide +kernel) rfl
theorem gw_457 : Jvm.Cond.methodLink "MazeDesk$Maze" (55 : Nat) ({ cls := "MazeDesk$Stacks", name := "topOf", desc := "(I)I" } : Jvm.MethodName) ∈ gW0 := gl_in (i := 457) (by decide +kernel) rfl
theorem gw_458 : Jvm.Cond.instanceMethod ({ cls := "MazeDesk$Stacks", name := "topOf", desc := "(I)I" } : Jvm.MethodName) ∈ gW0 := gl_in (i := 458) (by decide +kernel) rfl
theorem gw_459 : Jvm.Cond.selects "MazeDesk$Stacks" ({ cls := "MazeDesk$Stacks", name := "topOf", desc := "(I)I" } : Jvm.MethodName) ({ cls := "MazeDesk$Stacks", name := "topOf", desc := "(I)I" } : Jvm.MethodName) ∈ gW0 := gl_in (i := 459) (by decide +kernel) rfl
set_option maxRecDepth 100000 in
theorem gw_460 : Jvm.Cond.code ({ cls := "MazeDesk$Stacks", name := "topOf", desc := "(I)I" } : Jvm.MethodName) prog_8_method_2_code (2 : Nat) (Option.some Jvm.ClassFile.FieldType.int) ∈ gW0 := gl_in (i := 460) rfl rfl
theorem gw_461 : Jvm.Cond.methodLink "MazeDesk$Maze" (61 : Nat) ({ cls := "MazeDesk$Board", name := "passageAt", desc := "(II)I" } : Jvm.MethodName) ∈ gW0 := gl_in (i := 461) (by decide +kernel) rfl
theorem gw_462 : Jvm.Cond.instanceMethod ({ cls := "MazeDesk$Board", name := "passageAt", desc := "(II)I" } : Jvm.MethodName) ∈ gW0 := gl_in (i := 462) (by decide +kernel) rfl
theorem gw_463 : Jvm.Cond.selects "MazeDesk$Board" ({ cls := "MazeDesk$Board", name := "passageAt", desc := "(II)I" } : Jvm.MethodName) ({ cls := "MazeDesk$Board", name := "passageAt", desc := "(II)I" } : Jvm.MethodName) ∈ gW0 := gl_in (i := 463) (by decide +kernel) rfl
set_option maxRecDepth 100000 in
theorem gw_464 : Jvm.Cond.code ({ cls := "MazeDesk$Board", name := "passageAt", desc := "(II)I" } : Jvm.MethodName) prog_2_method_16_code (3 : Nat) (Option.some Jvm.ClassFile.FieldType.int) ∈ gW0 := gl_in (i := 464) rfl rfl
theorem gw_465 : Jvm.Cond.methodLink "MazeDesk" (116 : Nat) ({ cls := "MazeDesk$Walker", name := "begin", desc := "()V" } : Jvm.MethodName) ∈ gW0 := gl_in (i := 465) (by decide +kernel) rfl
theorem gw_466 : Jvm.Cond.instanceMethod ({ cls := "MazeDesk$Walker", name := "begin", desc := "()V" } : Jvm.MethodName) ∈ gW0 := gl_in (i := 466) (by decide +kernel) rfl
theorem gw_467 : Jvm.Cond.selects "MazeDesk$Walker" ({ cls := "MazeDesk$Walker", name := "begin", desc := "()V" } : Jvm.MethodName) ({ cls := "MazeDesk$Walker", name := "begin", desc := "()V" } : Jvm.MethodName) ∈ gW0 := gl_in (i := 467) (by decide +kernel) rfl
set_option maxRecDepth 100000 in
theorem gw_468 : Jvm.Cond.code ({ cls := "MazeDesk$Walker", name := "begin", desc := "()V" } : Jvm.MethodName) prog_10_method_2_code (1 : Nat) (Option.none : Option Jvm.ClassFile.FieldType) ∈ gW0 := gl_in (i := 468) rfl rfl
theorem gw_469 : Jvm.Cond.methodLink "MazeDesk$Walker" (25 : Nat) ({ cls := "MazeDesk$Maze", name := "startCell", desc := "()I" } : Jvm.MethodName) ∈ gW0 := gl_in (i := 469) (by decide +kernel) rfl
theorem gw_470 : Jvm.Cond.instanceMethod ({ cls := "MazeDesk$Maze", name := "startCell", desc := "()I" } : Jvm.MethodName) ∈ gW0 := gl_in (i := 470) (by decide +kernel) rfl
theorem gw_471 : Jvm.Cond.selects "MazeDesk$Maze" ({ cls := "MazeDesk$Maze", name := "startCell", desc := "()I" } : Jvm.MethodName) ({ cls := "MazeDesk$Maze", name := "startCell", desc := "()I" } : Jvm.MethodName) ∈ gW0 := gl_in (i := 471) (by decide +kernel) rfl
set_option maxRecDepth 100000 in
theorem gw_472 : Jvm.Cond.code ({ cls := "MazeDesk$Maze", name := "startCell", desc := "()I" } : Jvm.MethodName) prog_5_method_10_code (1 : Nat) (Option.some Jvm.ClassFile.FieldType.int) ∈ gW0 := gl_in (i := 472) rfl rfl
theorem gw_473 : Jvm.Cond.methodLink "MazeDesk$Walker" (31 : Nat) ({ cls := "MazeDesk$Maze", name := "keysIn", desc := "(I)I" } : Jvm.MethodName) ∈ gW0 := gl_in (i := 473) (by decide +kernel) rfl
theorem gw_474 : Jvm.Cond.instanceMethod ({ cls := "MazeDesk$Maze", name := "keysIn", desc := "(I)I" } : Jvm.MethodName) ∈ gW0 := gl_in (i := 474) (by decide +kernel) rfl
theorem gw_475 : Jvm.Cond.selects "MazeDesk$Maze" ({ cls := "MazeDesk$Maze", name := "keysIn", desc := "(I)I" } : Jvm.MethodName) ({ cls := "MazeDesk$Maze", name := "keysIn", desc := "(I)I" } : Jvm.MethodName) ∈ gW0 := gl_in (i := 475) (by decide +kernel) rfl
set_option maxRecDepth 100000 in
theorem gw_476 : Jvm.Cond.code ({ cls := "MazeDesk$Maze", name := "keysIn", desc := "(I)I" } : Jvm.MethodName) prog_5_method_16_code (4 : Nat) (Option.some Jvm.ClassFile.FieldType.int) ∈ gW0 := gl_in (i := 476) rfl rfl
theorem gw_477 : Jvm.Cond.methodLink "MazeDeskLaw" (31 : Nat) ({ cls := "MazeDesk", name := "top", desc := "(I)I" } : Jvm.MethodName) ∈ gW0 := gl_in (i := 477) (by decide +kernel) rfl
theorem gw_478 : Jvm.Cond.instanceMethod ({ cls := "MazeDesk", name := "top", desc := "(I)I" } : Jvm.MethodName) ∈ gW0 := gl_in (i := 478) (by decide +kernel) rfl
theorem gw_479 : Jvm.Cond.selects "MazeDesk" ({ cls := "MazeDesk", name := "top", desc := "(I)I" } : Jvm.MethodName) ({ cls := "MazeDesk", name := "top", desc := "(I)I" } : Jvm.MethodName) ∈ gW0 := gl_in (i := 479) (by decide +kernel) rfl
set_option maxRecDepth 100000 in
theorem gw_480 : Jvm.Cond.code ({ cls := "MazeDesk", name := "top", desc := "(I)I" } : Jvm.MethodName) prog_1_method_4_code (2 : Nat) (Option.some Jvm.ClassFile.FieldType.int) ∈ gW0 := gl_in (i := 480) rfl rfl
theorem gw_481 : Jvm.Cond.methodLink "MazeDesk" (119 : Nat) ({ cls := "MazeDesk", name := "mazeHas", desc := "(I)Z" } : Jvm.MethodName) ∈ gW0 := gl_in (i := 481) (by decide +kernel) rfl
theorem gw_483 : Jvm.Cond.instanceMethod ({ cls := "MazeDesk", name := "mazeHas", desc := "(I)Z" } : Jvm.MethodName) ∈ gW0 := gl_in (i := 483) (by decide +kernel) rfl
set_option maxRecDepth 100000 in
theorem gw_484 : Jvm.Cond.code ({ cls := "MazeDesk", name := "mazeHas", desc := "(I)Z" } : Jvm.MethodName) prog_1_method_24_code (2 : Nat) (Option.some Jvm.ClassFile.FieldType.boolean) ∈ gW0 := gl_in (i := 484) rfl rfl
theorem gw_485 : Jvm.Cond.methodLink "MazeDesk" (122 : Nat) ({ cls := "MazeDesk$Stacks", name := "topOf", desc := "(I)I" } : Jvm.MethodName) ∈ gW0 := gl_in (i := 485) (by decide +kernel) rfl
theorem gw_486 : Jvm.Cond.methodLink "MazeDeskLaw" (36 : Nat) ({ cls := "MazeDesk", name := "popped", desc := "(I)I" } : Jvm.MethodName) ∈ gW0 := gl_in (i := 486) (by decide +kernel) rfl
theorem gw_487 : Jvm.Cond.instanceMethod ({ cls := "MazeDesk", name := "popped", desc := "(I)I" } : Jvm.MethodName) ∈ gW0 := gl_in (i := 487) (by decide +kernel) rfl
theorem gw_488 : Jvm.Cond.selects "MazeDesk" ({ cls := "MazeDesk", name := "popped", desc := "(I)I" } : Jvm.MethodName) ({ cls := "MazeDesk", name := "popped", desc := "(I)I" } : Jvm.MethodName) ∈ gW0 := gl_in (i := 488) (by decide +kernel) rfl
set_option maxRecDepth 100000 in
theorem gw_489 : Jvm.Cond.code ({ cls := "MazeDesk", name := "popped", desc := "(I)I" } : Jvm.MethodName) prog_1_method_5_code (2 : Nat) (Option.some Jvm.ClassFile.FieldType.int) ∈ gW0 := gl_in (i := 489) rfl rfl
theorem gw_490 : Jvm.Cond.methodLink "MazeDesk" (125 : Nat) ({ cls := "MazeDesk$Stacks", name := "popsOf", desc := "(I)I" } : Jvm.MethodName) ∈ gW0 := gl_in (i := 490) (by decide +kernel) rfl
theorem gw_491 : Jvm.Cond.instanceMethod ({ cls := "MazeDesk$Stacks", name := "popsOf", desc := "(I)I" } : Jvm.MethodName) ∈ gW0 := gl_in (i := 491) (by decide +kernel) rfl
theorem gw_492 : Jvm.Cond.selects "MazeDesk$Stacks" ({ cls := "MazeDesk$Stacks", name := "popsOf", desc := "(I)I" } : Jvm.MethodName) ({ cls := "MazeDesk$Stacks", name := "popsOf", desc := "(I)I" } : Jvm.MethodName) ∈ gW0 := gl_in (i := 492) (by decide +kernel) rfl
set_option maxRecDepth 100000 in
theorem gw_493 : Jvm.Cond.code ({ cls := "MazeDesk$Stacks", name := "popsOf", desc := "(I)I" } : Jvm.MethodName) prog_8_method_3_code (2 : Nat) (Option.some Jvm.ClassFile.FieldType.int) ∈ gW0 := gl_in (i := 493) rfl rfl
theorem gw_494 : Jvm.Cond.methodLink "MazeDeskLaw" (40 : Nat) ({ cls := "MazeDesk", name := "circles", desc := "()I" } : Jvm.MethodName) ∈ gW0 := gl_in (i := 494) (by decide +kernel) rfl
theorem gw_495 : Jvm.Cond.instanceMethod ({ cls := "MazeDesk", name := "circles", desc := "()I" } : Jvm.MethodName) ∈ gW0 := gl_in (i := 495) (by decide +kernel) rfl
theorem gw_496 : Jvm.Cond.selects "MazeDesk" ({ cls := "MazeDesk", name := "circles", desc := "()I" } : Jvm.MethodName) ({ cls := "MazeDesk", name := "circles", desc := "()I" } : Jvm.MethodName) ∈ gW0 := gl_in (i := 496) (by decide +kernel) rfl
set_option maxRecDepth 100000 in
theorem gw_497 : Jvm.Cond.code ({ cls := "MazeDesk", name := "circles", desc := "()I" } : Jvm.MethodName) prog_1_method_6_code (1 : Nat) (Option.some Jvm.ClassFile.FieldType.int) ∈ gW0 := gl_in (i := 497) rfl rfl
theorem gw_498 : Jvm.Cond.methodLink "MazeDesk" (128 : Nat) ({ cls := "MazeDesk$Stacks", name := "circleCount", desc := "()I" } : Jvm.MethodName) ∈ gW0 := gl_in (i := 498) (by decide +kernel) rfl
theorem gw_499 : Jvm.Cond.instanceMethod ({ cls := "MazeDesk$Stacks", name := "circleCount", desc := "()I" } : Jvm.MethodName) ∈ gW0 := gl_in (i := 499) (by decide +kernel) rfl
theorem gw_500 : Jvm.Cond.selects "MazeDesk$Stacks" ({ cls := "MazeDesk$Stacks", name := "circleCount", desc := "()I" } : Jvm.MethodName) ({ cls := "MazeDesk$Stacks", name := "circleCount", desc := "()I" } : Jvm.MethodName) ∈ gW0 := gl_in (i := 500) (by decide +kernel) rfl
set_option maxRecDepth 100000 in
theorem gw_501 : Jvm.Cond.code ({ cls := "MazeDesk$Stacks", name := "circleCount", desc := "()I" } : Jvm.MethodName) prog_8_method_4_code (1 : Nat) (Option.some Jvm.ClassFile.FieldType.int) ∈ gW0 := gl_in (i := 501) rfl rfl
theorem gw_502 : Jvm.Cond.methodLink "MazeDeskLaw" (45 : Nat) ({ cls := "MazeDesk", name := "trees", desc := "()J" } : Jvm.MethodName) ∈ gW0 := gl_in (i := 502) (by decide +kernel) rfl
theorem gw_503 : Jvm.Cond.instanceMethod ({ cls := "MazeDesk", name := "trees", desc := "()J" } : Jvm.MethodName) ∈ gW0 := gl_in (i := 503) (by decide +kernel) rfl
theorem gw_504 : Jvm.Cond.selects "MazeDesk" ({ cls := "MazeDesk", name := "trees", desc := "()J" } : Jvm.MethodName) ({ cls := "MazeDesk", name := "trees", desc := "()J" } : Jvm.MethodName) ∈ gW0 := gl_in (i := 504) (by decide +kernel) rfl
set_option maxRecDepth 100000 in
theorem gw_505 : Jvm.Cond.code ({ cls := "MazeDesk", name := "trees", desc := "()J" } : Jvm.MethodName) prog_1_method_7_code (1 : Nat) (Option.some Jvm.ClassFile.FieldType.long) ∈ gW0 := gl_in (i := 505) rfl rfl
theorem gw_506 : Jvm.Cond.methodLink "MazeDesk" (131 : Nat) ({ cls := "MazeDesk$TreeCount", name := "count", desc := "()J" } : Jvm.MethodName) ∈ gW0 := gl_in (i := 506) (by decide +kernel) rfl
theorem gw_507 : Jvm.Cond.instanceMethod ({ cls := "MazeDesk$TreeCount", name := "count", desc := "()J" } : Jvm.MethodName) ∈ gW0 := gl_in (i := 507) (by decide +kernel) rfl
theorem gw_508 : Jvm.Cond.selects "MazeDesk$TreeCount" ({ cls := "MazeDesk$TreeCount", name := "count", desc := "()J" } : Jvm.MethodName) ({ cls := "MazeDesk$TreeCount", name := "count", desc := "()J" } : Jvm.MethodName) ∈ gW0 := gl_in (i := 508) (by decide +kernel) rfl
set_option maxRecDepth 100000 in
theorem gw_509 : Jvm.Cond.code ({ cls := "MazeDesk$TreeCount", name := "count", desc := "()J" } : Jvm.MethodName) prog_9_method_2_code (2 : Nat) (Option.some Jvm.ClassFile.FieldType.long) ∈ gW0 := gl_in (i := 509) rfl rfl
theorem gw_510 : Jvm.Cond.methodLink "MazeDesk$TreeCount" (30 : Nat) ({ cls := "MazeDesk$Board", name := "freeCells", desc := "()I" } : Jvm.MethodName) ∈ gW0 := gl_in (i := 510) (by decide +kernel) rfl
theorem gw_511 : Jvm.Cond.constantLong "MazeDesk$TreeCount" (33 : Nat) (-1 : Int64) ∈ gW0 := gl_in (i := 511) (by decide +kernel) rfl
theorem gw_512 : Jvm.Cond.methodLink "MazeDesk$TreeCount" (35 : Nat) ({ cls := "MazeDesk$TreeCount", name := "numberRows", desc := "()V" } : Jvm.MethodName) ∈ gW0 := gl_in (i := 512) (by decide +kernel) rfl
theorem gw_514 : Jvm.Cond.instanceMethod ({ cls := "MazeDesk$TreeCount", name := "numberRows", desc := "()V" } : Jvm.MethodName) ∈ gW0 := gl_in (i := 514) (by decide +kernel) rfl
set_option maxRecDepth 100000 in
theorem gw_515 : Jvm.Cond.code ({ cls := "MazeDesk$TreeCount", name := "numberRows", desc := "()V" } : Jvm.MethodName) prog_9_method_3_code (3 : Nat) (Option.none : Option Jvm.ClassFile.FieldType) ∈ gW0 := gl_in (i := 515) rfl rfl
theorem gw_516 : Jvm.Cond.methodLink "MazeDesk$TreeCount" (46 : Nat) ({ cls := "MazeDesk$Board", name := "isFree", desc := "(I)Z" } : Jvm.MethodName) ∈ gW0 := gl_in (i := 516) (by decide +kernel) rfl
theorem gw_517 : Jvm.Cond.methodLink "MazeDesk$TreeCount" (38 : Nat) ({ cls := "MazeDesk$TreeCount", name := "fillMatrix", desc := "(I)V" } : Jvm.MethodName) ∈ gW0 := gl_in (i := 517) (by decide +kernel) rfl
theorem gw_519 : Jvm.Cond.instanceMethod ({ cls := "MazeDesk$TreeCount", name := "fillMatrix", desc := "(I)V" } : Jvm.MethodName) ∈ gW0 := gl_in (i := 519) (by decide +kernel) rfl
set_option maxRecDepth 100000 in
theorem gw_520 : Jvm.Cond.code ({ cls := "MazeDesk$TreeCount", name := "fillMatrix", desc := "(I)V" } : Jvm.MethodName) prog_9_method_4_code (5 : Nat) (Option.none : Option Jvm.ClassFile.FieldType) ∈ gW0 := gl_in (i := 520) rfl rfl
theorem gw_521 : Jvm.Cond.methodLink "MazeDesk$TreeCount" (50 : Nat) ({ cls := "java/util/Arrays", name := "fill", desc := "([JJ)V" } : Jvm.MethodName) ∈ gW0 := gl_in (i := 521) (by decide +kernel) rfl
theorem gw_522 : Jvm.Cond.static ({ cls := "java/util/Arrays", name := "fill", desc := "([JJ)V" } : Jvm.MethodName) ∈ gW0 := gl_in (i := 522) (by decide +kernel) rfl
set_option maxRecDepth 100000 in
theorem gw_523 : Jvm.Cond.code ({ cls := "java/util/Arrays", name := "fill", desc := "([JJ)V" } : Jvm.MethodName) prog_17_method_101_code (5 : Nat) (Option.none : Option Jvm.ClassFile.FieldType) ∈ gW0 := gl_in (i := 523) rfl rfl
theorem gw_524 : Jvm.Cond.methodLink "MazeDesk$TreeCount" (56 : Nat) ({ cls := "MazeDesk$Board", name := "ahead", desc := "(II)I" } : Jvm.MethodName) ∈ gW0 := gl_in (i := 524) (by decide +kernel) rfl
theorem gw_525 : Jvm.Cond.methodLink "MazeDesk$TreeCount" (42 : Nat) ({ cls := "MazeDesk$TreeCount", name := "determinant", desc := "(I)J" } : Jvm.MethodName) ∈ gW0 := gl_in (i := 525) (by decide +kernel) rfl
theorem gw_527 : Jvm.Cond.instanceMethod ({ cls := "MazeDesk$TreeCount", name := "determinant", desc := "(I)J" } : Jvm.MethodName) ∈ gW0 := gl_in (i := 527) (by decide +kernel) rfl
set_option maxRecDepth 100000 in
theorem gw_528 : Jvm.Cond.code ({ cls := "MazeDesk$TreeCount", name := "determinant", desc := "(I)J" } : Jvm.MethodName) prog_9_method_5_code (8 : Nat) (Option.some Jvm.ClassFile.FieldType.long) ∈ gW0 := gl_in (i := 528) rfl rfl
theorem gw_529 : Jvm.Cond.methodLink "MazeDesk$TreeCount" (60 : Nat) ({ cls := "MazeDesk$TreeCount", name := "eliminate", desc := "(IIIJ)V" } : Jvm.MethodName) ∈ gW0 := gl_in (i := 529) (by decide +kernel) rfl
theorem gw_531 : Jvm.Cond.instanceMethod ({ cls := "MazeDesk$TreeCount", name := "eliminate", desc := "(IIIJ)V" } : Jvm.MethodName) ∈ gW0 := gl_in (i := 531) (by decide +kernel) rfl
set_option maxRecDepth 100000 in
theorem gw_532 : Jvm.Cond.code ({ cls := "MazeDesk$TreeCount", name := "eliminate", desc := "(IIIJ)V" } : Jvm.MethodName) prog_9_method_6_code (11 : Nat) (Option.none : Option Jvm.ClassFile.FieldType) ∈ gW0 := gl_in (i := 532) rfl rfl
theorem gw_533 : Jvm.Cond.methodLink "MazeDeskLaw" (50 : Nat) ({ cls := "MazeDesk", name := "passage", desc := "(II)I" } : Jvm.MethodName) ∈ gW0 := gl_in (i := 533) (by decide +kernel) rfl
theorem gw_534 : Jvm.Cond.instanceMethod ({ cls := "MazeDesk", name := "passage", desc := "(II)I" } : Jvm.MethodName) ∈ gW0 := gl_in (i := 534) (by decide +kernel) rfl
theorem gw_535 : Jvm.Cond.selects "MazeDesk" ({ cls := "MazeDesk", name := "passage", desc := "(II)I" } : Jvm.MethodName) ({ cls := "MazeDesk", name := "passage", desc := "(II)I" } : Jvm.MethodName) ∈ gW0 := gl_in (i := 535) (by decide +kernel) rfl
set_option maxRecDepth 100000 in
theorem gw_536 : Jvm.Cond.code ({ cls := "MazeDesk", name := "passage", desc := "(II)I" } : Jvm.MethodName) prog_1_method_8_code (4 : Nat) (Option.some Jvm.ClassFile.FieldType.int) ∈ gW0 := gl_in (i := 536) rfl rfl
theorem gw_537 : Jvm.Cond.methodLink "MazeDesk" (135 : Nat) ({ cls := "MazeDesk", name := "mazePassage", desc := "(II)I" } : Jvm.MethodName) ∈ gW0 := gl_in (i := 537) (by decide +kernel) rfl
theorem gw_539 : Jvm.Cond.instanceMethod ({ cls := "MazeDesk", name := "mazePassage", desc := "(II)I" } : Jvm.MethodName) ∈ gW0 := gl_in (i := 539) (by decide +kernel) rfl
set_option maxRecDepth 100000 in
theorem gw_540 : Jvm.Cond.code ({ cls := "MazeDesk", name := "mazePassage", desc := "(II)I" } : Jvm.MethodName) prog_1_method_25_code (3 : Nat) (Option.some Jvm.ClassFile.FieldType.int) ∈ gW0 := gl_in (i := 540) rfl rfl
theorem gw_541 : Jvm.Cond.methodLink "MazeDesk" (195 : Nat) ({ cls := "MazeDesk$Board", name := "passageAt", desc := "(II)I" } : Jvm.MethodName) ∈ gW0 := gl_in (i := 541) (by decide +kernel) rfl
theorem gw_542 : Jvm.Cond.methodLink "MazeDesk" (139 : Nat) ({ cls := "MazeDesk$Maze", name := "isOpen", desc := "(I)Z" } : Jvm.MethodName) ∈ gW0 := gl_in (i := 542) (by decide +kernel) rfl
theorem gw_543 : Jvm.Cond.instanceMethod ({ cls := "MazeDesk$Maze", name := "isOpen", desc := "(I)Z" } : Jvm.MethodName) ∈ gW0 := gl_in (i := 543) (by decide +kernel) rfl
theorem gw_544 : Jvm.Cond.selects "MazeDesk$Maze" ({ cls := "MazeDesk$Maze", name := "isOpen", desc := "(I)Z" } : Jvm.MethodName) ({ cls := "MazeDesk$Maze", name := "isOpen", desc := "(I)Z" } : Jvm.MethodName) ∈ gW0 := gl_in (i := 544) (by decide +kernel) rfl
set_option maxRecDepth 100000 in
theorem gw_545 : Jvm.Cond.code ({ cls := "MazeDesk$Maze", name := "isOpen", desc := "(I)Z" } : Jvm.MethodName) prog_5_method_4_code (2 : Nat) (Option.some Jvm.ClassFile.FieldType.boolean) ∈ gW0 := gl_in (i := 545) rfl rfl
theorem gw_546 : Jvm.Cond.methodLink "MazeDeskLaw" (54 : Nat) ({ cls := "MazeDesk", name := "open", desc := "(IIZ)Z" } : Jvm.MethodName) ∈ gW0 := gl_in (i := 546) (by decide +kernel) rfl
theorem gw_547 : Jvm.Cond.instanceMethod ({ cls := "MazeDesk", name := "open", desc := "(IIZ)Z" } : Jvm.MethodName) ∈ gW0 := gl_in (i := 547) (by decide +kernel) rfl
theorem gw_548 : Jvm.Cond.selects "MazeDesk" ({ cls := "MazeDesk", name := "open", desc := "(IIZ)Z" } : Jvm.MethodName) ({ cls := "MazeDesk", name := "open", desc := "(IIZ)Z" } : Jvm.MethodName) ∈ gW0 := gl_in (i := 548) (by decide +kernel) rfl
set_option maxRecDepth 100000 in
theorem gw_549 : Jvm.Cond.code ({ cls := "MazeDesk", name := "open", desc := "(IIZ)Z" } : Jvm.MethodName) prog_1_method_9_code (5 : Nat) (Option.some Jvm.ClassFile.FieldType.boolean) ∈ gW0 := gl_in (i := 549) rfl rfl
theorem gw_550 : Jvm.Cond.methodLink "MazeDesk" (142 : Nat) ({ cls := "MazeDesk$Maze", name := "setOpen", desc := "(IZ)V" } : Jvm.MethodName) ∈ gW0 := gl_in (i := 550) (by decide +kernel) rfl
theorem gw_551 : Jvm.Cond.methodLink "MazeDeskLaw" (59 : Nat) ({ cls := "MazeDesk", name := "braid", desc := "(I)I" } : Jvm.MethodName) ∈ gW0 := gl_in (i := 551) (by decide +kernel) rfl
theorem gw_552 : Jvm.Cond.instanceMethod ({ cls := "MazeDesk", name := "braid", desc := "(I)I" } : Jvm.MethodName) ∈ gW0 := gl_in (i := 552) (by decide +kernel) rfl
theorem gw_553 : Jvm.Cond.selects "MazeDesk" ({ cls := "MazeDesk", name := "braid", desc := "(I)I" } : Jvm.MethodName) ({ cls := "MazeDesk", name := "braid", desc := "(I)I" } : Jvm.MethodName) ∈ gW0 := gl_in (i := 553) (by decide +kernel) rfl
set_option maxRecDepth 100000 in
theorem gw_554 : Jvm.Cond.code ({ cls := "MazeDesk", name := "braid", desc := "(I)I" } : Jvm.MethodName) prog_1_method_10_code (2 : Nat) (Option.some Jvm.ClassFile.FieldType.int) ∈ gW0 := gl_in (i := 554) rfl rfl
theorem gw_555 : Jvm.Cond.methodLink "MazeDesk" (145 : Nat) ({ cls := "MazeDesk$Maze", name := "openDeadEnds", desc := "(I)I" } : Jvm.MethodName) ∈ gW0 := gl_in (i := 555) (by decide +kernel) rfl
theorem gw_556 : Jvm.Cond.instanceMethod ({ cls := "MazeDesk$Maze", name := "openDeadEnds", desc := "(I)I" } : Jvm.MethodName) ∈ gW0 := gl_in (i := 556) (by decide +kernel) rfl
theorem gw_557 : Jvm.Cond.selects "MazeDesk$Maze" ({ cls := "MazeDesk$Maze", name := "openDeadEnds", desc := "(I)I" } : Jvm.MethodName) ({ cls := "MazeDesk$Maze", name := "openDeadEnds", desc := "(I)I" } : Jvm.MethodName) ∈ gW0 := gl_in (i := 557) (by decide +kernel) rfl
set_option maxRecDepth 100000 in
theorem gw_558 : Jvm.Cond.code ({ cls := "MazeDesk$Maze", name := "openDeadEnds", desc := "(I)I" } : Jvm.MethodName) prog_5_method_21_code (5 : Nat) (Option.some Jvm.ClassFile.FieldType.int) ∈ gW0 := gl_in (i := 558) rfl rfl
theorem gw_559 : Jvm.Cond.methodLink "MazeDesk$Maze" (84 : Nat) ({ cls := "MazeDesk$Maze", name := "openPassages", desc := "(I)I" } : Jvm.MethodName) ∈ gW0 := gl_in (i := 559) (by decide +kernel) rfl
theorem gw_561 : Jvm.Cond.instanceMethod ({ cls := "MazeDesk$Maze", name := "openPassages", desc := "(I)I" } : Jvm.MethodName) ∈ gW0 := gl_in (i := 561) (by decide +kernel) rfl
set_option maxRecDepth 100000 in
theorem gw_562 : Jvm.Cond.code ({ cls := "MazeDesk$Maze", name := "openPassages", desc := "(I)I" } : Jvm.MethodName) prog_5_method_22_code (5 : Nat) (Option.some Jvm.ClassFile.FieldType.int) ∈ gW0 := gl_in (i := 562) rfl rfl
theorem gw_563 : Jvm.Cond.methodLink "MazeDesk$Maze" (87 : Nat) ({ cls := "MazeDesk$Maze", name := "firstClosedPassage", desc := "(I)I" } : Jvm.MethodName) ∈ gW0 := gl_in (i := 563) (by decide +kernel) rfl
theorem gw_565 : Jvm.Cond.instanceMethod ({ cls := "MazeDesk$Maze", name := "firstClosedPassage", desc := "(I)I" } : Jvm.MethodName) ∈ gW0 := gl_in (i := 565) (by decide +kernel) rfl
set_option maxRecDepth 100000 in
theorem gw_566 : Jvm.Cond.code ({ cls := "MazeDesk$Maze", name := "firstClosedPassage", desc := "(I)I" } : Jvm.MethodName) prog_5_method_23_code (4 : Nat) (Option.some Jvm.ClassFile.FieldType.int) ∈ gW0 := gl_in (i := 566) rfl rfl
theorem gw_567 : Jvm.Cond.methodLink "MazeDeskLaw" (63 : Nat) ({ cls := "MazeDesk", name := "deadEnds", desc := "()I" } : Jvm.MethodName) ∈ gW0 := gl_in (i := 567) (by decide +kernel) rfl
theorem gw_568 : Jvm.Cond.instanceMethod ({ cls := "MazeDesk", name := "deadEnds", desc := "()I" } : Jvm.MethodName) ∈ gW0 := gl_in (i := 568) (by decide +kernel) rfl
theorem gw_569 : Jvm.Cond.selects "MazeDesk" ({ cls := "MazeDesk", name := "deadEnds", desc := "()I" } : Jvm.MethodName) ({ cls := "MazeDesk", name := "deadEnds", desc := "()I" } : Jvm.MethodName) ∈ gW0 := gl_in (i := 569) (by decide +kernel) rfl
set_option maxRecDepth 100000 in
theorem gw_570 : Jvm.Cond.code ({ cls := "MazeDesk", name := "deadEnds", desc := "()I" } : Jvm.MethodName) prog_1_method_11_code (1 : Nat) (Option.some Jvm.ClassFile.FieldType.int) ∈ gW0 := gl_in (i := 570) rfl rfl
theorem gw_571 : Jvm.Cond.methodLink "MazeDesk" (148 : Nat) ({ cls := "MazeDesk$Maze", name := "countDeadEnds", desc := "()I" } : Jvm.MethodName) ∈ gW0 := gl_in (i := 571) (by decide +kernel) rfl
theorem gw_572 : Jvm.Cond.instanceMethod ({ cls := "MazeDesk$Maze", name := "countDeadEnds", desc := "()I" } : Jvm.MethodName) ∈ gW0 := gl_in (i := 572) (by decide +kernel) rfl
theorem gw_573 : Jvm.Cond.selects "MazeDesk$Maze" ({ cls := "MazeDesk$Maze", name := "countDeadEnds", desc := "()I" } : Jvm.MethodName) ({ cls := "MazeDesk$Maze", name := "countDeadEnds", desc := "()I" } : Jvm.MethodName) ∈ gW0 := gl_in (i := 573) (by decide +kernel) rfl
set_option maxRecDepth 100000 in
theorem gw_574 : Jvm.Cond.code ({ cls := "MazeDesk$Maze", name := "countDeadEnds", desc := "()I" } : Jvm.MethodName) prog_5_method_20_code (3 : Nat) (Option.some Jvm.ClassFile.FieldType.int) ∈ gW0 := gl_in (i := 574) rfl rfl
theorem gw_575 : Jvm.Cond.methodLink "MazeDeskLaw" (67 : Nat) ({ cls := "MazeDesk", name := "key", desc := "(II)Z" } : Jvm.MethodName) ∈ gW0 := gl_in (i := 575) (by decide +kernel) rfl
theorem gw_576 : Jvm.Cond.instanceMethod ({ cls := "MazeDesk", name := "key", desc := "(II)Z" } : Jvm.MethodName) ∈ gW0 := gl_in (i := 576) (by decide +kernel) rfl
theorem gw_577 : Jvm.Cond.selects "MazeDesk" ({ cls := "MazeDesk", name := "key", desc := "(II)Z" } : Jvm.MethodName) ({ cls := "MazeDesk", name := "key", desc := "(II)Z" } : Jvm.MethodName) ∈ gW0 := gl_in (i := 577) (by decide +kernel) rfl
set_option maxRecDepth 100000 in
theorem gw_578 : Jvm.Cond.code ({ cls := "MazeDesk", name := "key", desc := "(II)Z" } : Jvm.MethodName) prog_1_method_12_code (3 : Nat) (Option.some Jvm.ClassFile.FieldType.boolean) ∈ gW0 := gl_in (i := 578) rfl rfl
theorem gw_579 : Jvm.Cond.methodLink "MazeDesk" (151 : Nat) ({ cls := "MazeDesk", name := "isKey", desc := "(I)Z" } : Jvm.MethodName) ∈ gW0 := gl_in (i := 579) (by decide +kernel) rfl
theorem gw_580 : Jvm.Cond.static ({ cls := "MazeDesk", name := "isKey", desc := "(I)Z" } : Jvm.MethodName) ∈ gW0 := gl_in (i := 580) (by decide +kernel) rfl
set_option maxRecDepth 100000 in
theorem gw_581 : Jvm.Cond.code ({ cls := "MazeDesk", name := "isKey", desc := "(I)Z" } : Jvm.MethodName) prog_1_method_27_code (1 : Nat) (Option.some Jvm.ClassFile.FieldType.boolean) ∈ gW0 := gl_in (i := 581) rfl rfl
theorem gw_582 : Jvm.Cond.methodLink "MazeDesk" (154 : Nat) ({ cls := "MazeDesk", name := "isFreeOrNone", desc := "(I)Z" } : Jvm.MethodName) ∈ gW0 := gl_in (i := 582) (by decide +kernel) rfl
theorem gw_584 : Jvm.Cond.instanceMethod ({ cls := "MazeDesk", name := "isFreeOrNone", desc := "(I)Z" } : Jvm.MethodName) ∈ gW0 := gl_in (i := 584) (by decide +kernel) rfl
set_option maxRecDepth 100000 in
theorem gw_585 : Jvm.Cond.code ({ cls := "MazeDesk", name := "isFreeOrNone", desc := "(I)Z" } : Jvm.MethodName) prog_1_method_26_code (2 : Nat) (Option.some Jvm.ClassFile.FieldType.boolean) ∈ gW0 := gl_in (i := 585) rfl rfl
theorem gw_586 : Jvm.Cond.methodLink "MazeDesk" (157 : Nat) ({ cls := "MazeDesk$Maze", name := "putKey", desc := "(II)V" } : Jvm.MethodName) ∈ gW0 := gl_in (i := 586) (by decide +kernel) rfl
theorem gw_587 : Jvm.Cond.instanceMethod ({ cls := "MazeDesk$Maze", name := "putKey", desc := "(II)V" } : Jvm.MethodName) ∈ gW0 := gl_in (i := 587) (by decide +kernel) rfl
theorem gw_588 : Jvm.Cond.selects "MazeDesk$Maze" ({ cls := "MazeDesk$Maze", name := "putKey", desc := "(II)V" } : Jvm.MethodName) ({ cls := "MazeDesk$Maze", name := "putKey", desc := "(II)V" } : Jvm.MethodName) ∈ gW0 := gl_in (i := 588) (by decide +kernel) rfl
set_option maxRecDepth 100000 in
theorem gw_589 : Jvm.Cond.code ({ cls := "MazeDesk$Maze", name := "putKey", desc := "(II)V" } : Jvm.MethodName) prog_5_method_14_code (3 : Nat) (Option.none : Option Jvm.ClassFile.FieldType) ∈ gW0 := gl_in (i := 589) rfl rfl
theorem gw_590 : Jvm.Cond.methodLink "MazeDeskLaw" (72 : Nat) ({ cls := "MazeDesk", name := "door", desc := "(III)Z" } : Jvm.MethodName) ∈ gW0 := gl_in (i := 590) (by decide +kernel) rfl
theorem gw_591 : Jvm.Cond.instanceMethod ({ cls := "MazeDesk", name := "door", desc := "(III)Z" } : Jvm.MethodName) ∈ gW0 := gl_in (i := 591) (by decide +kernel) rfl
theorem gw_592 : Jvm.Cond.selects "MazeDesk" ({ cls := "MazeDesk", name := "door", desc := "(III)Z" } : Jvm.MethodName) ({ cls := "MazeDesk", name := "door", desc := "(III)Z" } : Jvm.MethodName) ∈ gW0 := gl_in (i := 592) (by decide +kernel) rfl
set_option maxRecDepth 100000 in
theorem gw_593 : Jvm.Cond.code ({ cls := "MazeDesk", name := "door", desc := "(III)Z" } : Jvm.MethodName) prog_1_method_13_code (5 : Nat) (Option.some Jvm.ClassFile.FieldType.boolean) ∈ gW0 := gl_in (i := 593) rfl rfl
theorem gw_594 : Jvm.Cond.methodLink "MazeDesk" (161 : Nat) ({ cls := "MazeDesk$Maze", name := "setDoor", desc := "(II)V" } : Jvm.MethodName) ∈ gW0 := gl_in (i := 594) (by decide +kernel) rfl
theorem gw_595 : Jvm.Cond.instanceMethod ({ cls := "MazeDesk$Maze", name := "setDoor", desc := "(II)V" } : Jvm.MethodName) ∈ gW0 := gl_in (i := 595) (by decide +kernel) rfl
theorem gw_596 : Jvm.Cond.selects "MazeDesk$Maze" ({ cls := "MazeDesk$Maze", name := "setDoor", desc := "(II)V" } : Jvm.MethodName) ({ cls := "MazeDesk$Maze", name := "setDoor", desc := "(II)V" } : Jvm.MethodName) ∈ gW0 := gl_in (i := 596) (by decide +kernel) rfl
set_option maxRecDepth 100000 in
theorem gw_597 : Jvm.Cond.code ({ cls := "MazeDesk$Maze", name := "setDoor", desc := "(II)V" } : Jvm.MethodName) prog_5_method_7_code (3 : Nat) (Option.none : Option Jvm.ClassFile.FieldType) ∈ gW0 := gl_in (i := 597) rfl rfl
theorem gw_598 : Jvm.Cond.methodLink "MazeDeskLaw" (77 : Nat) ({ cls := "MazeDesk", name := "oneWay", desc := "(II)Z" } : Jvm.MethodName) ∈ gW0 := gl_in (i := 598) (by decide +kernel) rfl
theorem gw_599 : Jvm.Cond.instanceMethod ({ cls := "MazeDesk", name := "oneWay", desc := "(II)Z" } : Jvm.MethodName) ∈ gW0 := gl_in (i := 599) (by decide +kernel) rfl
theorem gw_600 : Jvm.Cond.selects "MazeDesk" ({ cls := "MazeDesk", name := "oneWay", desc := "(II)Z" } : Jvm.MethodName) ({ cls := "MazeDesk", name := "oneWay", desc := "(II)Z" } : Jvm.MethodName) ∈ gW0 := gl_in (i := 600) (by decide +kernel) rfl
set_option maxRecDepth 100000 in
theorem gw_601 : Jvm.Cond.code ({ cls := "MazeDesk", name := "oneWay", desc := "(II)Z" } : Jvm.MethodName) prog_1_method_14_code (4 : Nat) (Option.some Jvm.ClassFile.FieldType.boolean) ∈ gW0 := gl_in (i := 601) rfl rfl
theorem gw_602 : Jvm.Cond.methodLink "MazeDesk" (164 : Nat) ({ cls := "MazeDesk$Maze", name := "turnOneWay", desc := "(II)V" } : Jvm.MethodName) ∈ gW0 := gl_in (i := 602) (by decide +kernel) rfl
theorem gw_603 : Jvm.Cond.instanceMethod ({ cls := "MazeDesk$Maze", name := "turnOneWay", desc := "(II)V" } : Jvm.MethodName) ∈ gW0 := gl_in (i := 603) (by decide +kernel) rfl
theorem gw_604 : Jvm.Cond.selects "MazeDesk$Maze" ({ cls := "MazeDesk$Maze", name := "turnOneWay", desc := "(II)V" } : Jvm.MethodName) ({ cls := "MazeDesk$Maze", name := "turnOneWay", desc := "(II)V" } : Jvm.MethodName) ∈ gW0 := gl_in (i := 604) (by decide +kernel) rfl
set_option maxRecDepth 100000 in
theorem gw_605 : Jvm.Cond.code ({ cls := "MazeDesk$Maze", name := "turnOneWay", desc := "(II)V" } : Jvm.MethodName) prog_5_method_9_code (3 : Nat) (Option.none : Option Jvm.ClassFile.FieldType) ∈ gW0 := gl_in (i := 605) rfl rfl
theorem gw_606 : Jvm.Cond.methodLink "MazeDeskLaw" (81 : Nat) ({ cls := "MazeDesk", name := "start", desc := "(I)Z" } : Jvm.MethodName) ∈ gW0 := gl_in (i := 606) (by decide +kernel) rfl
theorem gw_607 : Jvm.Cond.instanceMethod ({ cls := "MazeDesk", name := "start", desc := "(I)Z" } : Jvm.MethodName) ∈ gW0 := gl_in (i := 607) (by decide +kernel) rfl
theorem gw_608 : Jvm.Cond.selects "MazeDesk" ({ cls := "MazeDesk", name := "start", desc := "(I)Z" } : Jvm.MethodName) ({ cls := "MazeDesk", name := "start", desc := "(I)Z" } : Jvm.MethodName) ∈ gW0 := gl_in (i := 608) (by decide +kernel) rfl
set_option maxRecDepth 100000 in
theorem gw_609 : Jvm.Cond.code ({ cls := "MazeDesk", name := "start", desc := "(I)Z" } : Jvm.MethodName) prog_1_method_15_code (2 : Nat) (Option.some Jvm.ClassFile.FieldType.boolean) ∈ gW0 := gl_in (i := 609) rfl rfl
theorem gw_610 : Jvm.Cond.methodLink "MazeDesk" (167 : Nat) ({ cls := "MazeDesk$Maze", name := "setStart", desc := "(I)V" } : Jvm.MethodName) ∈ gW0 := gl_in (i := 610) (by decide +kernel) rfl
theorem gw_611 : Jvm.Cond.instanceMethod ({ cls := "MazeDesk$Maze", name := "setStart", desc := "(I)V" } : Jvm.MethodName) ∈ gW0 := gl_in (i := 611) (by decide +kernel) rfl
theorem gw_612 : Jvm.Cond.selects "MazeDesk$Maze" ({ cls := "MazeDesk$Maze", name := "setStart", desc := "(I)V" } : Jvm.MethodName) ({ cls := "MazeDesk$Maze", name := "setStart", desc := "(I)V" } : Jvm.MethodName) ∈ gW0 := gl_in (i := 612) (by decide +kernel) rfl
set_option maxRecDepth 100000 in
theorem gw_613 : Jvm.Cond.code ({ cls := "MazeDesk$Maze", name := "setStart", desc := "(I)V" } : Jvm.MethodName) prog_5_method_11_code (2 : Nat) (Option.none : Option Jvm.ClassFile.FieldType) ∈ gW0 := gl_in (i := 613) rfl rfl
theorem gw_614 : Jvm.Cond.methodLink "MazeDeskLaw" (86 : Nat) ({ cls := "MazeDesk", name := "exit", desc := "(I)Z" } : Jvm.MethodName) ∈ gW0 := gl_in (i := 614) (by decide +kernel) rfl
theorem gw_615 : Jvm.Cond.instanceMethod ({ cls := "MazeDesk", name := "exit", desc := "(I)Z" } : Jvm.MethodName) ∈ gW0 := gl_in (i := 615) (by decide +kernel) rfl
theorem gw_616 : Jvm.Cond.selects "MazeDesk" ({ cls := "MazeDesk", name := "exit", desc := "(I)Z" } : Jvm.MethodName) ({ cls := "MazeDesk", name := "exit", desc := "(I)Z" } : Jvm.MethodName) ∈ gW0 := gl_in (i := 616) (by decide +kernel) rfl
set_option maxRecDepth 100000 in
theorem gw_617 : Jvm.Cond.code ({ cls := "MazeDesk", name := "exit", desc := "(I)Z" } : Jvm.MethodName) prog_1_method_16_code (2 : Nat) (Option.some Jvm.ClassFile.FieldType.boolean) ∈ gW0 := gl_in (i := 617) rfl rfl
theorem gw_618 : Jvm.Cond.methodLink "MazeDesk" (171 : Nat) ({ cls := "MazeDesk$Maze", name := "setExit", desc := "(I)V" } : Jvm.MethodName) ∈ gW0 := gl_in (i := 618) (by decide +kernel) rfl
theorem gw_619 : Jvm.Cond.instanceMethod ({ cls := "MazeDesk$Maze", name := "setExit", desc := "(I)V" } : Jvm.MethodName) ∈ gW0 := gl_in (i := 619) (by decide +kernel) rfl
theorem gw_620 : Jvm.Cond.selects "MazeDesk$Maze" ({ cls := "MazeDesk$Maze", name := "setExit", desc := "(I)V" } : Jvm.MethodName) ({ cls := "MazeDesk$Maze", name := "setExit", desc := "(I)V" } : Jvm.MethodName) ∈ gW0 := gl_in (i := 620) (by decide +kernel) rfl
set_option maxRecDepth 100000 in
theorem gw_621 : Jvm.Cond.code ({ cls := "MazeDesk$Maze", name := "setExit", desc := "(I)V" } : Jvm.MethodName) prog_5_method_13_code (2 : Nat) (Option.none : Option Jvm.ClassFile.FieldType) ∈ gW0 := gl_in (i := 621) rfl rfl
theorem gw_622 : Jvm.Cond.methodLink "MazeDeskLaw" (90 : Nat) ({ cls := "MazeDesk", name := "placeKeys", desc := "(I)I" } : Jvm.MethodName) ∈ gW0 := gl_in (i := 622) (by decide +kernel) rfl
theorem gw_623 : Jvm.Cond.instanceMethod ({ cls := "MazeDesk", name := "placeKeys", desc := "(I)I" } : Jvm.MethodName) ∈ gW0 := gl_in (i := 623) (by decide +kernel) rfl
theorem gw_624 : Jvm.Cond.selects "MazeDesk" ({ cls := "MazeDesk", name := "placeKeys", desc := "(I)I" } : Jvm.MethodName) ({ cls := "MazeDesk", name := "placeKeys", desc := "(I)I" } : Jvm.MethodName) ∈ gW0 := gl_in (i := 624) (by decide +kernel) rfl
set_option maxRecDepth 100000 in
theorem gw_625 : Jvm.Cond.code ({ cls := "MazeDesk", name := "placeKeys", desc := "(I)I" } : Jvm.MethodName) prog_1_method_17_code (2 : Nat) (Option.some Jvm.ClassFile.FieldType.int) ∈ gW0 := gl_in (i := 625) rfl rfl
theorem gw_626 : Jvm.Cond.methodLink "MazeDesk" (174 : Nat) ({ cls := "MazeDesk$Maze", name := "exitCell", desc := "()I" } : Jvm.MethodName) ∈ gW0 := gl_in (i := 626) (by decide +kernel) rfl
theorem gw_627 : Jvm.Cond.instanceMethod ({ cls := "MazeDesk$Maze", name := "exitCell", desc := "()I" } : Jvm.MethodName) ∈ gW0 := gl_in (i := 627) (by decide +kernel) rfl
theorem gw_628 : Jvm.Cond.selects "MazeDesk$Maze" ({ cls := "MazeDesk$Maze", name := "exitCell", desc := "()I" } : Jvm.MethodName) ({ cls := "MazeDesk$Maze", name := "exitCell", desc := "()I" } : Jvm.MethodName) ∈ gW0 := gl_in (i := 628) (by decide +kernel) rfl
set_option maxRecDepth 100000 in
theorem gw_629 : Jvm.Cond.code ({ cls := "MazeDesk$Maze", name := "exitCell", desc := "()I" } : Jvm.MethodName) prog_5_method_12_code (1 : Nat) (Option.some Jvm.ClassFile.FieldType.int) ∈ gW0 := gl_in (i := 629) rfl rfl
theorem gw_630 : Jvm.Cond.methodLink "MazeDesk" (177 : Nat) ({ cls := "MazeDesk$KeyPlacer", name := "placeAll", desc := "(I)Z" } : Jvm.MethodName) ∈ gW0 := gl_in (i := 630) (by decide +kernel) rfl
theorem gw_631 : Jvm.Cond.instanceMethod ({ cls := "MazeDesk$KeyPlacer", name := "placeAll", desc := "(I)Z" } : Jvm.MethodName) ∈ gW0 := gl_in (i := 631) (by decide +kernel) rfl
theorem gw_632 : Jvm.Cond.selects "MazeDesk$KeyPlacer" ({ cls := "MazeDesk$KeyPlacer", name := "placeAll", desc := "(I)Z" } : Jvm.MethodName) ({ cls := "MazeDesk$KeyPlacer", name := "placeAll", desc := "(I)Z" } : Jvm.MethodName) ∈ gW0 := gl_in (i := 632) (by decide +kernel) rfl
set_option maxRecDepth 100000 in
theorem gw_633 : Jvm.Cond.code ({ cls := "MazeDesk$KeyPlacer", name := "placeAll", desc := "(I)Z" } : Jvm.MethodName) prog_4_method_2_code (6 : Nat) (Option.some Jvm.ClassFile.FieldType.boolean) ∈ gW0 := gl_in (i := 633) rfl rfl
theorem gw_634 : Jvm.Cond.methodLink "MazeDesk$KeyPlacer" (23 : Nat) ({ cls := "MazeDesk$Maze", name := "liftKeys", desc := "()V" } : Jvm.MethodName) ∈ gW0 := gl_in (i := 634) (by decide +kernel) rfl
theorem gw_635 : Jvm.Cond.methodLink "MazeDesk$KeyPlacer" (28 : Nat) ({ cls := "MazeDesk$Maze", name := "startCell", desc := "()I" } : Jvm.MethodName) ∈ gW0 := gl_in (i := 635) (by decide +kernel) rfl
theorem gw_636 : Jvm.Cond.methodLink "MazeDesk$KeyPlacer" (32 : Nat) ({ cls := "MazeDesk$Flood", name := "spreadByWalking", desc := "(II)V" } : Jvm.MethodName) ∈ gW0 := gl_in (i := 636) (by decide +kernel) rfl
theorem gw_637 : Jvm.Cond.instanceMethod ({ cls := "MazeDesk$Flood", name := "spreadByWalking", desc := "(II)V" } : Jvm.MethodName) ∈ gW0 := gl_in (i := 637) (by decide +kernel) rfl
theorem gw_638 : Jvm.Cond.selects "MazeDesk$Flood" ({ cls := "MazeDesk$Flood", name := "spreadByWalking", desc := "(II)V" } : Jvm.MethodName) ({ cls := "MazeDesk$Flood", name := "spreadByWalking", desc := "(II)V" } : Jvm.MethodName) ∈ gW0 := gl_in (i := 638) (by decide +kernel) rfl
set_option maxRecDepth 100000 in
theorem gw_639 : Jvm.Cond.code ({ cls := "MazeDesk$Flood", name := "spreadByWalking", desc := "(II)V" } : Jvm.MethodName) prog_3_method_6_code (5 : Nat) (Option.none : Option Jvm.ClassFile.FieldType) ∈ gW0 := gl_in (i := 639) rfl rfl
theorem gw_640 : Jvm.Cond.methodLink "MazeDesk$Flood" (52 : Nat) ({ cls := "MazeDesk$Maze", name := "cellAfter", desc := "(III)I" } : Jvm.MethodName) ∈ gW0 := gl_in (i := 640) (by decide +kernel) rfl
theorem gw_641 : Jvm.Cond.instanceMethod ({ cls := "MazeDesk$Maze", name := "cellAfter", desc := "(III)I" } : Jvm.MethodName) ∈ gW0 := gl_in (i := 641) (by decide +kernel) rfl
theorem gw_642 : Jvm.Cond.selects "MazeDesk$Maze" ({ cls := "MazeDesk$Maze", name := "cellAfter", desc := "(III)I" } : Jvm.MethodName) ({ cls := "MazeDesk$Maze", name := "cellAfter", desc := "(III)I" } : Jvm.MethodName) ∈ gW0 := gl_in (i := 642) (by decide +kernel) rfl
set_option maxRecDepth 100000 in
theorem gw_643 : Jvm.Cond.code ({ cls := "MazeDesk$Maze", name := "cellAfter", desc := "(III)I" } : Jvm.MethodName) prog_5_method_18_code (6 : Nat) (Option.some Jvm.ClassFile.FieldType.int) ∈ gW0 := gl_in (i := 643) rfl rfl
theorem gw_644 : Jvm.Cond.methodLink "MazeDesk$Maze" (71 : Nat) ({ cls := "MazeDesk$Maze", name := "walkablePassage", desc := "(II)I" } : Jvm.MethodName) ∈ gW0 := gl_in (i := 644) (by decide +kernel) rfl
theorem gw_646 : Jvm.Cond.instanceMethod ({ cls := "MazeDesk$Maze", name := "walkablePassage", desc := "(II)I" } : Jvm.MethodName) ∈ gW0 := gl_in (i := 646) (by decide +kernel) rfl
set_option maxRecDepth 100000 in
theorem gw_647 : Jvm.Cond.code ({ cls := "MazeDesk$Maze", name := "walkablePassage", desc := "(II)I" } : Jvm.MethodName) prog_5_method_19_code (4 : Nat) (Option.some Jvm.ClassFile.FieldType.int) ∈ gW0 := gl_in (i := 647) rfl rfl
theorem gw_649 : Jvm.Cond.static ({ cls := "MazeDesk", name := "back", desc := "(I)I" } : Jvm.MethodName) ∈ gW0 := gl_in (i := 649) (by decide +kernel) rfl
set_option maxRecDepth 100000 in
theorem gw_650 : Jvm.Cond.code ({ cls := "MazeDesk", name := "back", desc := "(I)I" } : Jvm.MethodName) prog_1_method_30_code (1 : Nat) (Option.some Jvm.ClassFile.FieldType.int) ∈ gW0 := gl_in (i := 650) rfl rfl
theorem gw_652 : Jvm.Cond.static ({ cls := "MazeDesk", name := "holds", desc := "(II)Z" } : Jvm.MethodName) ∈ gW0 := gl_in (i := 652) (by decide +kernel) rfl
set_option maxRecDepth 100000 in
theorem gw_653 : Jvm.Cond.code ({ cls := "MazeDesk", name := "holds", desc := "(II)Z" } : Jvm.MethodName) prog_1_method_28_code (2 : Nat) (Option.some Jvm.ClassFile.FieldType.boolean) ∈ gW0 := gl_in (i := 653) rfl rfl
theorem gw_654 : Jvm.Cond.methodLink "MazeDesk$Maze" (78 : Nat) ({ cls := "MazeDesk$Board", name := "ahead", desc := "(II)I" } : Jvm.MethodName) ∈ gW0 := gl_in (i := 654) (by decide +kernel) rfl
theorem gw_655 : Jvm.Cond.methodLink "MazeDesk$KeyPlacer" (38 : Nat) ({ cls := "MazeDesk$Maze", name := "exitCell", desc := "()I" } : Jvm.MethodName) ∈ gW0 := gl_in (i := 655) (by decide +kernel) rfl
theorem gw_656 : Jvm.Cond.methodLink "MazeDesk$KeyPlacer" (41 : Nat) ({ cls := "MazeDesk$Flood", name := "has", desc := "(I)Z" } : Jvm.MethodName) ∈ gW0 := gl_in (i := 656) (by decide +kernel) rfl
theorem gw_657 : Jvm.Cond.instanceMethod ({ cls := "MazeDesk$Flood", name := "has", desc := "(I)Z" } : Jvm.MethodName) ∈ gW0 := gl_in (i := 657) (by decide +kernel) rfl
theorem gw_658 : Jvm.Cond.selects "MazeDesk$Flood" ({ cls := "MazeDesk$Flood", name := "has", desc := "(I)Z" } : Jvm.MethodName) ({ cls := "MazeDesk$Flood", name := "has", desc := "(I)Z" } : Jvm.MethodName) ∈ gW0 := gl_in (i := 658) (by decide +kernel) rfl
set_option maxRecDepth 100000 in
theorem gw_659 : Jvm.Cond.code ({ cls := "MazeDesk$Flood", name := "has", desc := "(I)Z" } : Jvm.MethodName) prog_3_method_2_code (2 : Nat) (Option.some Jvm.ClassFile.FieldType.boolean) ∈ gW0 := gl_in (i := 659) rfl rfl
theorem gw_660 : Jvm.Cond.methodLink "MazeDesk$Flood" (37 : Nat) ({ cls := "MazeDesk$Board", name := "has", desc := "(I)Z" } : Jvm.MethodName) ∈ gW0 := gl_in (i := 660) (by decide +kernel) rfl
theorem gw_661 : Jvm.Cond.methodLink "MazeDesk$KeyPlacer" (45 : Nat) ({ cls := "MazeDesk$KeyPlacer", name := "leastKeyWanted", desc := "(I)I" } : Jvm.MethodName) ∈ gW0 := gl_in (i := 661) (by decide +kernel) rfl
theorem gw_663 : Jvm.Cond.instanceMethod ({ cls := "MazeDesk$KeyPlacer", name := "leastKeyWanted", desc := "(I)I" } : Jvm.MethodName) ∈ gW0 := gl_in (i := 663) (by decide +kernel) rfl
set_option maxRecDepth 100000 in
theorem gw_664 : Jvm.Cond.code ({ cls := "MazeDesk$KeyPlacer", name := "leastKeyWanted", desc := "(I)I" } : Jvm.MethodName) prog_4_method_3_code (4 : Nat) (Option.some Jvm.ClassFile.FieldType.int) ∈ gW0 := gl_in (i := 664) rfl rfl
theorem gw_665 : Jvm.Cond.methodLink "MazeDesk$KeyPlacer" (65 : Nat) ({ cls := "MazeDesk$Board", name := "cells", desc := "()I" } : Jvm.MethodName) ∈ gW0 := gl_in (i := 665) (by decide +kernel) rfl
theorem gw_666 : Jvm.Cond.methodLink "MazeDesk$KeyPlacer" (70 : Nat) ({ cls := "MazeDesk$KeyPlacer", name := "keysWantedAt", desc := "(I)I" } : Jvm.MethodName) ∈ gW0 := gl_in (i := 666) (by decide +kernel) rfl
theorem gw_668 : Jvm.Cond.instanceMethod ({ cls := "MazeDesk$KeyPlacer", name := "keysWantedAt", desc := "(I)I" } : Jvm.MethodName) ∈ gW0 := gl_in (i := 668) (by decide +kernel) rfl
set_option maxRecDepth 100000 in
theorem gw_669 : Jvm.Cond.code ({ cls := "MazeDesk$KeyPlacer", name := "keysWantedAt", desc := "(I)I" } : Jvm.MethodName) prog_4_method_4_code (5 : Nat) (Option.some Jvm.ClassFile.FieldType.int) ∈ gW0 := gl_in (i := 669) rfl rfl
theorem gw_670 : Jvm.Cond.methodLink "MazeDesk$KeyPlacer" (76 : Nat) ({ cls := "MazeDesk$Maze", name := "doorAhead", desc := "(II)I" } : Jvm.MethodName) ∈ gW0 := gl_in (i := 670) (by decide +kernel) rfl
theorem gw_671 : Jvm.Cond.instanceMethod ({ cls := "MazeDesk$Maze", name := "doorAhead", desc := "(II)I" } : Jvm.MethodName) ∈ gW0 := gl_in (i := 671) (by decide +kernel) rfl
theorem gw_672 : Jvm.Cond.selects "MazeDesk$Maze" ({ cls := "MazeDesk$Maze", name := "doorAhead", desc := "(II)I" } : Jvm.MethodName) ({ cls := "MazeDesk$Maze", name := "doorAhead", desc := "(II)I" } : Jvm.MethodName) ∈ gW0 := gl_in (i := 672) (by decide +kernel) rfl
set_option maxRecDepth 100000 in
theorem gw_673 : Jvm.Cond.code ({ cls := "MazeDesk$Maze", name := "doorAhead", desc := "(II)I" } : Jvm.MethodName) prog_5_method_17_code (4 : Nat) (Option.some Jvm.ClassFile.FieldType.int) ∈ gW0 := gl_in (i := 673) rfl rfl
theorem gw_675 : Jvm.Cond.static ({ cls := "MazeDesk", name := "lowestKey", desc := "(I)I" } : Jvm.MethodName) ∈ gW0 := gl_in (i := 675) (by decide +kernel) rfl
set_option maxRecDepth 100000 in
theorem gw_676 : Jvm.Cond.code ({ cls := "MazeDesk", name := "lowestKey", desc := "(I)I" } : Jvm.MethodName) prog_1_method_29_code (2 : Nat) (Option.some Jvm.ClassFile.FieldType.int) ∈ gW0 := gl_in (i := 676) rfl rfl
theorem gw_677 : Jvm.Cond.methodLink "MazeDesk" (198 : Nat) ({ cls := "MazeDesk", name := "holds", desc := "(II)Z" } : Jvm.MethodName) ∈ gW0 := gl_in (i := 677) (by decide +kernel) rfl
theorem gw_679 : Jvm.Cond.methodLink "MazeDesk$KeyPlacer" (52 : Nat) ({ cls := "MazeDesk$Flood", name := "size", desc := "()I" } : Jvm.MethodName) ∈ gW0 := gl_in (i := 679) (by decide +kernel) rfl
theorem gw_680 : Jvm.Cond.instanceMethod ({ cls := "MazeDesk$Flood", name := "size", desc := "()I" } : Jvm.MethodName) ∈ gW0 := gl_in (i := 680) (by decide +kernel) rfl
theorem gw_681 : Jvm.Cond.selects "MazeDesk$Flood" ({ cls := "MazeDesk$Flood", name := "size", desc := "()I" } : Jvm.MethodName) ({ cls := "MazeDesk$Flood", name := "size", desc := "()I" } : Jvm.MethodName) ∈ gW0 := gl_in (i := 681) (by decide +kernel) rfl
set_option maxRecDepth 100000 in
theorem gw_682 : Jvm.Cond.code ({ cls := "MazeDesk$Flood", name := "size", desc := "()I" } : Jvm.MethodName) prog_3_method_3_code (1 : Nat) (Option.some Jvm.ClassFile.FieldType.int) ∈ gW0 := gl_in (i := 682) rfl rfl
theorem gw_684 : Jvm.Cond.methodLink "MazeDesk$KeyPlacer" (59 : Nat) ({ cls := "MazeDesk$Flood", name := "cellNumber", desc := "(I)I" } : Jvm.MethodName) ∈ gW0 := gl_in (i := 684) (by decide +kernel) rfl
theorem gw_685 : Jvm.Cond.instanceMethod ({ cls := "MazeDesk$Flood", name := "cellNumber", desc := "(I)I" } : Jvm.MethodName) ∈ gW0 := gl_in (i := 685) (by decide +kernel) rfl
theorem gw_686 : Jvm.Cond.selects "MazeDesk$Flood" ({ cls := "MazeDesk$Flood", name := "cellNumber", desc := "(I)I" } : Jvm.MethodName) ({ cls := "MazeDesk$Flood", name := "cellNumber", desc := "(I)I" } : Jvm.MethodName) ∈ gW0 := gl_in (i := 686) (by decide +kernel) rfl
set_option maxRecDepth 100000 in
theorem gw_687 : Jvm.Cond.code ({ cls := "MazeDesk$Flood", name := "cellNumber", desc := "(I)I" } : Jvm.MethodName) prog_3_method_4_code (4 : Nat) (Option.some Jvm.ClassFile.FieldType.int) ∈ gW0 := gl_in (i := 687) rfl rfl
theorem gw_688 : Jvm.Cond.methodLink "MazeDesk$KeyPlacer" (62 : Nat) ({ cls := "MazeDesk$Maze", name := "putKey", desc := "(II)V" } : Jvm.MethodName) ∈ gW0 := gl_in (i := 688) (by decide +kernel) rfl
theorem gw_689 : Jvm.Cond.methodLink "MazeDeskLaw" (94 : Nat) ({ cls := "MazeDesk", name := "escape", desc := "()I" } : Jvm.MethodName) ∈ gW0 := gl_in (i := 689) (by decide +kernel) rfl
theorem gw_690 : Jvm.Cond.instanceMethod ({ cls := "MazeDesk", name := "escape", desc := "()I" } : Jvm.MethodName) ∈ gW0 := gl_in (i := 690) (by decide +kernel) rfl
theorem gw_691 : Jvm.Cond.selects "MazeDesk" ({ cls := "MazeDesk", name := "escape", desc := "()I" } : Jvm.MethodName) ({ cls := "MazeDesk", name := "escape", desc := "()I" } : Jvm.MethodName) ∈ gW0 := gl_in (i := 691) (by decide +kernel) rfl
set_option maxRecDepth 100000 in
theorem gw_692 : Jvm.Cond.code ({ cls := "MazeDesk", name := "escape", desc := "()I" } : Jvm.MethodName) prog_1_method_18_code (1 : Nat) (Option.some Jvm.ClassFile.FieldType.int) ∈ gW0 := gl_in (i := 692) rfl rfl
theorem gw_693 : Jvm.Cond.methodLink "MazeDesk" (180 : Nat) ({ cls := "MazeDesk$Route", name := "length", desc := "()I" } : Jvm.MethodName) ∈ gW0 := gl_in (i := 693) (by decide +kernel) rfl
theorem gw_694 : Jvm.Cond.instanceMethod ({ cls := "MazeDesk$Route", name := "length", desc := "()I" } : Jvm.MethodName) ∈ gW0 := gl_in (i := 694) (by decide +kernel) rfl
theorem gw_695 : Jvm.Cond.selects "MazeDesk$Route" ({ cls := "MazeDesk$Route", name := "length", desc := "()I" } : Jvm.MethodName) ({ cls := "MazeDesk$Route", name := "length", desc := "()I" } : Jvm.MethodName) ∈ gW0 := gl_in (i := 695) (by decide +kernel) rfl
set_option maxRecDepth 100000 in
theorem gw_696 : Jvm.Cond.code ({ cls := "MazeDesk$Route", name := "length", desc := "()I" } : Jvm.MethodName) prog_7_method_2_code (1 : Nat) (Option.some Jvm.ClassFile.FieldType.int) ∈ gW0 := gl_in (i := 696) rfl rfl
theorem gw_697 : Jvm.Cond.methodLink "MazeDesk$Route" (38 : Nat) ({ cls := "MazeDesk$Maze", name := "changeCount", desc := "()I" } : Jvm.MethodName) ∈ gW0 := gl_in (i := 697) (by decide +kernel) rfl
theorem gw_698 : Jvm.Cond.instanceMethod ({ cls := "MazeDesk$Maze", name := "changeCount", desc := "()I" } : Jvm.MethodName) ∈ gW0 := gl_in (i := 698) (by decide +kernel) rfl
theorem gw_699 : Jvm.Cond.selects "MazeDesk$Maze" ({ cls := "MazeDesk$Maze", name := "changeCount", desc := "()I" } : Jvm.MethodName) ({ cls := "MazeDesk$Maze", name := "changeCount", desc := "()I" } : Jvm.MethodName) ∈ gW0 := gl_in (i := 699) (by decide +kernel) rfl
set_option maxRecDepth 100000 in
theorem gw_700 : Jvm.Cond.code ({ cls := "MazeDesk$Maze", name := "changeCount", desc := "()I" } : Jvm.MethodName) prog_5_method_3_code (1 : Nat) (Option.some Jvm.ClassFile.FieldType.int) ∈ gW0 := gl_in (i := 700) rfl rfl
theorem gw_701 : Jvm.Cond.methodLink "MazeDesk$Route" (43 : Nat) ({ cls := "MazeDesk$Route", name := "find", desc := "()I" } : Jvm.MethodName) ∈ gW0 := gl_in (i := 701) (by decide +kernel) rfl
theorem gw_703 : Jvm.Cond.instanceMethod ({ cls := "MazeDesk$Route", name := "find", desc := "()I" } : Jvm.MethodName) ∈ gW0 := gl_in (i := 703) (by decide +kernel) rfl
set_option maxRecDepth 100000 in
theorem gw_704 : Jvm.Cond.code ({ cls := "MazeDesk$Route", name := "find", desc := "()I" } : Jvm.MethodName) prog_7_method_4_code (3 : Nat) (Option.some Jvm.ClassFile.FieldType.int) ∈ gW0 := gl_in (i := 704) rfl rfl
theorem gw_705 : Jvm.Cond.methodLink "MazeDesk$Route" (52 : Nat) ({ cls := "MazeDesk$Maze", name := "exitCell", desc := "()I" } : Jvm.MethodName) ∈ gW0 := gl_in (i := 705) (by decide +kernel) rfl
theorem gw_706 : Jvm.Cond.methodLink "MazeDesk$Route" (55 : Nat) ({ cls := "java/util/Arrays", name := "fill", desc := "([II)V" } : Jvm.MethodName) ∈ gW0 := gl_in (i := 706) (by decide +kernel) rfl
theorem gw_707 : Jvm.Cond.methodLink "MazeDesk$Route" (64 : Nat) ({ cls := "MazeDesk$Maze", name := "startCell", desc := "()I" } : Jvm.MethodName) ∈ gW0 := gl_in (i := 707) (by decide +kernel) rfl
theorem gw_708 : Jvm.Cond.methodLink "MazeDesk$Route" (67 : Nat) ({ cls := "MazeDesk$Route", name := "comeUpon", desc := "(IIII)V" } : Jvm.MethodName) ∈ gW0 := gl_in (i := 708) (by decide +kernel) rfl
theorem gw_710 : Jvm.Cond.instanceMethod ({ cls := "MazeDesk$Route", name := "comeUpon", desc := "(IIII)V" } : Jvm.MethodName) ∈ gW0 := gl_in (i := 710) (by decide +kernel) rfl
set_option maxRecDepth 100000 in
theorem gw_711 : Jvm.Cond.code ({ cls := "MazeDesk$Route", name := "comeUpon", desc := "(IIII)V" } : Jvm.MethodName) prog_7_method_6_code (6 : Nat) (Option.none : Option Jvm.ClassFile.FieldType) ∈ gW0 := gl_in (i := 711) rfl rfl
theorem gw_712 : Jvm.Cond.methodLink "MazeDesk$Route" (83 : Nat) ({ cls := "MazeDesk$Maze", name := "keysIn", desc := "(I)I" } : Jvm.MethodName) ∈ gW0 := gl_in (i := 712) (by decide +kernel) rfl
theorem gw_713 : Jvm.Cond.methodLink "MazeDesk$Route" (71 : Nat) ({ cls := "MazeDesk$Route", name := "stepsTo", desc := "(I)I" } : Jvm.MethodName) ∈ gW0 := gl_in (i := 713) (by decide +kernel) rfl
theorem gw_715 : Jvm.Cond.instanceMethod ({ cls := "MazeDesk$Route", name := "stepsTo", desc := "(I)I" } : Jvm.MethodName) ∈ gW0 := gl_in (i := 715) (by decide +kernel) rfl
set_option maxRecDepth 100000 in
theorem gw_716 : Jvm.Cond.code ({ cls := "MazeDesk$Route", name := "stepsTo", desc := "(I)I" } : Jvm.MethodName) prog_7_method_7_code (4 : Nat) (Option.some Jvm.ClassFile.FieldType.int) ∈ gW0 := gl_in (i := 716) rfl rfl
theorem gw_717 : Jvm.Cond.methodLink "MazeDesk$Route" (75 : Nat) ({ cls := "MazeDesk$Route", name := "lookAround", desc := "(I)V" } : Jvm.MethodName) ∈ gW0 := gl_in (i := 717) (by decide +kernel) rfl
theorem gw_719 : Jvm.Cond.instanceMethod ({ cls := "MazeDesk$Route", name := "lookAround", desc := "(I)V" } : Jvm.MethodName) ∈ gW0 := gl_in (i := 719) (by decide +kernel) rfl
set_option maxRecDepth 100000 in
theorem gw_720 : Jvm.Cond.code ({ cls := "MazeDesk$Route", name := "lookAround", desc := "(I)V" } : Jvm.MethodName) prog_7_method_5_code (6 : Nat) (Option.none : Option Jvm.ClassFile.FieldType) ∈ gW0 := gl_in (i := 720) rfl rfl
theorem gw_721 : Jvm.Cond.methodLink "MazeDesk$Route" (79 : Nat) ({ cls := "MazeDesk$Maze", name := "cellAfter", desc := "(III)I" } : Jvm.MethodName) ∈ gW0 := gl_in (i := 721) (by decide +kernel) rfl
theorem gw_722 : Jvm.Cond.methodLink "MazeDeskLaw" (98 : Nat) ({ cls := "MazeDesk", name := "step", desc := "(I)I" } : Jvm.MethodName) ∈ gW0 := gl_in (i := 722) (by decide +kernel) rfl
theorem gw_723 : Jvm.Cond.instanceMethod ({ cls := "MazeDesk", name := "step", desc := "(I)I" } : Jvm.MethodName) ∈ gW0 := gl_in (i := 723) (by decide +kernel) rfl
theorem gw_724 : Jvm.Cond.selects "MazeDesk" ({ cls := "MazeDesk", name := "step", desc := "(I)I" } : Jvm.MethodName) ({ cls := "MazeDesk", name := "step", desc := "(I)I" } : Jvm.MethodName) ∈ gW0 := gl_in (i := 724) (by decide +kernel) rfl
set_option maxRecDepth 100000 in
theorem gw_725 : Jvm.Cond.code ({ cls := "MazeDesk", name := "step", desc := "(I)I" } : Jvm.MethodName) prog_1_method_19_code (2 : Nat) (Option.some Jvm.ClassFile.FieldType.int) ∈ gW0 := gl_in (i := 725) rfl rfl
theorem gw_726 : Jvm.Cond.methodLink "MazeDesk" (183 : Nat) ({ cls := "MazeDesk$Route", name := "directionAt", desc := "(I)I" } : Jvm.MethodName) ∈ gW0 := gl_in (i := 726) (by decide +kernel) rfl
theorem gw_727 : Jvm.Cond.instanceMethod ({ cls := "MazeDesk$Route", name := "directionAt", desc := "(I)I" } : Jvm.MethodName) ∈ gW0 := gl_in (i := 727) (by decide +kernel) rfl
theorem gw_728 : Jvm.Cond.selects "MazeDesk$Route" ({ cls := "MazeDesk$Route", name := "directionAt", desc := "(I)I" } : Jvm.MethodName) ({ cls := "MazeDesk$Route", name := "directionAt", desc := "(I)I" } : Jvm.MethodName) ∈ gW0 := gl_in (i := 728) (by decide +kernel) rfl
set_option maxRecDepth 100000 in
theorem gw_729 : Jvm.Cond.code ({ cls := "MazeDesk$Route", name := "directionAt", desc := "(I)I" } : Jvm.MethodName) prog_7_method_3_code (4 : Nat) (Option.some Jvm.ClassFile.FieldType.int) ∈ gW0 := gl_in (i := 729) rfl rfl
theorem gw_730 : Jvm.Cond.methodLink "MazeDesk$Route" (46 : Nat) ({ cls := "MazeDesk$Route", name := "length", desc := "()I" } : Jvm.MethodName) ∈ gW0 := gl_in (i := 730) (by decide +kernel) rfl
theorem gw_731 : Jvm.Cond.methodLink "MazeDeskLaw" (102 : Nat) ({ cls := "MazeDesk", name := "walk", desc := "(I)Z" } : Jvm.MethodName) ∈ gW0 := gl_in (i := 731) (by decide +kernel) rfl
theorem gw_732 : Jvm.Cond.instanceMethod ({ cls := "MazeDesk", name := "walk", desc := "(I)Z" } : Jvm.MethodName) ∈ gW0 := gl_in (i := 732) (by decide +kernel) rfl
theorem gw_733 : Jvm.Cond.selects "MazeDesk" ({ cls := "MazeDesk", name := "walk", desc := "(I)Z" } : Jvm.MethodName) ({ cls := "MazeDesk", name := "walk", desc := "(I)Z" } : Jvm.MethodName) ∈ gW0 := gl_in (i := 733) (by decide +kernel) rfl
set_option maxRecDepth 100000 in
theorem gw_734 : Jvm.Cond.code ({ cls := "MazeDesk", name := "walk", desc := "(I)Z" } : Jvm.MethodName) prog_1_method_20_code (2 : Nat) (Option.some Jvm.ClassFile.FieldType.boolean) ∈ gW0 := gl_in (i := 734) rfl rfl
theorem gw_735 : Jvm.Cond.methodLink "MazeDesk" (186 : Nat) ({ cls := "MazeDesk$Walker", name := "go", desc := "(I)Z" } : Jvm.MethodName) ∈ gW0 := gl_in (i := 735) (by decide +kernel) rfl
theorem gw_736 : Jvm.Cond.instanceMethod ({ cls := "MazeDesk$Walker", name := "go", desc := "(I)Z" } : Jvm.MethodName) ∈ gW0 := gl_in (i := 736) (by decide +kernel) rfl
theorem gw_737 : Jvm.Cond.selects "MazeDesk$Walker" ({ cls := "MazeDesk$Walker", name := "go", desc := "(I)Z" } : Jvm.MethodName) ({ cls := "MazeDesk$Walker", name := "go", desc := "(I)Z" } : Jvm.MethodName) ∈ gW0 := gl_in (i := 737) (by decide +kernel) rfl
set_option maxRecDepth 100000 in
theorem gw_738 : Jvm.Cond.code ({ cls := "MazeDesk$Walker", name := "go", desc := "(I)Z" } : Jvm.MethodName) prog_10_method_3_code (3 : Nat) (Option.some Jvm.ClassFile.FieldType.boolean) ∈ gW0 := gl_in (i := 738) rfl rfl
theorem gw_739 : Jvm.Cond.methodLink "MazeDesk$Walker" (35 : Nat) ({ cls := "MazeDesk$Maze", name := "cellAfter", desc := "(III)I" } : Jvm.MethodName) ∈ gW0 := gl_in (i := 739) (by decide +kernel) rfl
theorem gw_740 : Jvm.Cond.methodLink "MazeDeskLaw" (106 : Nat) ({ cls := "MazeDesk", name := "again", desc := "()Z" } : Jvm.MethodName) ∈ gW0 := gl_in (i := 740) (by decide +kernel) rfl
theorem gw_741 : Jvm.Cond.instanceMethod ({ cls := "MazeDesk", name := "again", desc := "()Z" } : Jvm.MethodName) ∈ gW0 := gl_in (i := 741) (by decide +kernel) rfl
theorem gw_742 : Jvm.Cond.selects "MazeDesk" ({ cls := "MazeDesk", name := "again", desc := "()Z" } : Jvm.MethodName) ({ cls := "MazeDesk", name := "again", desc := "()Z" } : Jvm.MethodName) ∈ gW0 := gl_in (i := 742) (by decide +kernel) rfl
set_option maxRecDepth 100000 in
theorem gw_743 : Jvm.Cond.code ({ cls := "MazeDesk", name := "again", desc := "()Z" } : Jvm.MethodName) prog_1_method_21_code (1 : Nat) (Option.some Jvm.ClassFile.FieldType.boolean) ∈ gW0 := gl_in (i := 743) rfl rfl
theorem gw_744 : Jvm.Cond.methodLink "MazeDeskLaw" (111 : Nat) ({ cls := "MazeDesk", name := "player", desc := "(I)I" } : Jvm.MethodName) ∈ gW0 := gl_in (i := 744) (by decide +kernel) rfl
theorem gw_745 : Jvm.Cond.instanceMethod ({ cls := "MazeDesk", name := "player", desc := "(I)I" } : Jvm.MethodName) ∈ gW0 := gl_in (i := 745) (by decide +kernel) rfl
theorem gw_746 : Jvm.Cond.selects "MazeDesk" ({ cls := "MazeDesk", name := "player", desc := "(I)I" } : Jvm.MethodName) ({ cls := "MazeDesk", name := "player", desc := "(I)I" } : Jvm.MethodName) ∈ gW0 := gl_in (i := 746) (by decide +kernel) rfl
set_option maxRecDepth 100000 in
theorem gw_747 : Jvm.Cond.code ({ cls := "MazeDesk", name := "player", desc := "(I)I" } : Jvm.MethodName) prog_1_method_22_code (2 : Nat) (Option.some Jvm.ClassFile.FieldType.int) ∈ gW0 := gl_in (i := 747) rfl rfl
theorem gw_748 : Jvm.Cond.methodLink "MazeDesk" (189 : Nat) ({ cls := "MazeDesk$Walker", name := "tell", desc := "(I)I" } : Jvm.MethodName) ∈ gW0 := gl_in (i := 748) (by decide +kernel) rfl
theorem gw_749 : Jvm.Cond.instanceMethod ({ cls := "MazeDesk$Walker", name := "tell", desc := "(I)I" } : Jvm.MethodName) ∈ gW0 := gl_in (i := 749) (by decide +kernel) rfl
theorem gw_750 : Jvm.Cond.selects "MazeDesk$Walker" ({ cls := "MazeDesk$Walker", name := "tell", desc := "(I)I" } : Jvm.MethodName) ({ cls := "MazeDesk$Walker", name := "tell", desc := "(I)I" } : Jvm.MethodName) ∈ gW0 := gl_in (i := 750) (by decide +kernel) rfl
set_option maxRecDepth 100000 in
theorem gw_751 : Jvm.Cond.code ({ cls := "MazeDesk$Walker", name := "tell", desc := "(I)I" } : Jvm.MethodName) prog_10_method_4_code (2 : Nat) (Option.some Jvm.ClassFile.FieldType.int) ∈ gW0 := gl_in (i := 751) rfl rfl
theorem gw_752 : Jvm.Cond.methodLink "MazeDeskLaw" (115 : Nat) ({ cls := "MazeDesk", name := "drawing", desc := "(I)I" } : Jvm.MethodName) ∈ gW0 := gl_in (i := 752) (by decide +kernel) rfl
theorem gw_753 : Jvm.Cond.instanceMethod ({ cls := "MazeDesk", name := "drawing", desc := "(I)I" } : Jvm.MethodName) ∈ gW0 := gl_in (i := 753) (by decide +kernel) rfl
theorem gw_754 : Jvm.Cond.selects "MazeDesk" ({ cls := "MazeDesk", name := "drawing", desc := "(I)I" } : Jvm.MethodName) ({ cls := "MazeDesk", name := "drawing", desc := "(I)I" } : Jvm.MethodName) ∈ gW0 := gl_in (i := 754) (by decide +kernel) rfl
set_option maxRecDepth 100000 in
theorem gw_755 : Jvm.Cond.code ({ cls := "MazeDesk", name := "drawing", desc := "(I)I" } : Jvm.MethodName) prog_1_method_23_code (2 : Nat) (Option.some Jvm.ClassFile.FieldType.int) ∈ gW0 := gl_in (i := 755) rfl rfl
theorem gw_756 : Jvm.Cond.methodLink "MazeDesk" (192 : Nat) ({ cls := "MazeDesk$Picture", name := "byteAt", desc := "(I)I" } : Jvm.MethodName) ∈ gW0 := gl_in (i := 756) (by decide +kernel) rfl
theorem gw_757 : Jvm.Cond.instanceMethod ({ cls := "MazeDesk$Picture", name := "byteAt", desc := "(I)I" } : Jvm.MethodName) ∈ gW0 := gl_in (i := 757) (by decide +kernel) rfl
theorem gw_758 : Jvm.Cond.selects "MazeDesk$Picture" ({ cls := "MazeDesk$Picture", name := "byteAt", desc := "(I)I" } : Jvm.MethodName) ({ cls := "MazeDesk$Picture", name := "byteAt", desc := "(I)I" } : Jvm.MethodName) ∈ gW0 := gl_in (i := 758) (by decide +kernel) rfl
set_option maxRecDepth 100000 in
theorem gw_759 : Jvm.Cond.code ({ cls := "MazeDesk$Picture", name := "byteAt", desc := "(I)I" } : Jvm.MethodName) prog_6_method_2_code (5 : Nat) (Option.some Jvm.ClassFile.FieldType.int) ∈ gW0 := gl_in (i := 759) rfl rfl
theorem gw_760 : Jvm.Cond.methodLink "MazeDesk$Picture" (19 : Nat) ({ cls := "MazeDesk$Board", name := "height", desc := "()I" } : Jvm.MethodName) ∈ gW0 := gl_in (i := 760) (by decide +kernel) rfl
theorem gw_761 : Jvm.Cond.instanceMethod ({ cls := "MazeDesk$Board", name := "height", desc := "()I" } : Jvm.MethodName) ∈ gW0 := gl_in (i := 761) (by decide +kernel) rfl
theorem gw_762 : Jvm.Cond.selects "MazeDesk$Board" ({ cls := "MazeDesk$Board", name := "height", desc := "()I" } : Jvm.MethodName) ({ cls := "MazeDesk$Board", name := "height", desc := "()I" } : Jvm.MethodName) ∈ gW0 := gl_in (i := 762) (by decide +kernel) rfl
set_option maxRecDepth 100000 in
theorem gw_763 : Jvm.Cond.code ({ cls := "MazeDesk$Board", name := "height", desc := "()I" } : Jvm.MethodName) prog_2_method_7_code (1 : Nat) (Option.some Jvm.ClassFile.FieldType.int) ∈ gW0 := gl_in (i := 763) rfl rfl
theorem gw_764 : Jvm.Cond.methodLink "MazeDesk$Picture" (25 : Nat) ({ cls := "MazeDesk$Board", name := "width", desc := "()I" } : Jvm.MethodName) ∈ gW0 := gl_in (i := 764) (by decide +kernel) rfl
theorem gw_765 : Jvm.Cond.instanceMethod ({ cls := "MazeDesk$Board", name := "width", desc := "()I" } : Jvm.MethodName) ∈ gW0 := gl_in (i := 765) (by decide +kernel) rfl
theorem gw_766 : Jvm.Cond.selects "MazeDesk$Board" ({ cls := "MazeDesk$Board", name := "width", desc := "()I" } : Jvm.MethodName) ({ cls := "MazeDesk$Board", name := "width", desc := "()I" } : Jvm.MethodName) ∈ gW0 := gl_in (i := 766) (by decide +kernel) rfl
set_option maxRecDepth 100000 in
theorem gw_767 : Jvm.Cond.code ({ cls := "MazeDesk$Board", name := "width", desc := "()I" } : Jvm.MethodName) prog_2_method_6_code (1 : Nat) (Option.some Jvm.ClassFile.FieldType.int) ∈ gW0 := gl_in (i := 767) rfl rfl
theorem gw_768 : Jvm.Cond.methodLink "MazeDesk$Picture" (28 : Nat) ({ cls := "MazeDesk$Picture", name := "signAt", desc := "(II)C" } : Jvm.MethodName) ∈ gW0 := gl_in (i := 768) (by decide +kernel) rfl
theorem gw_770 : Jvm.Cond.instanceMethod ({ cls := "MazeDesk$Picture", name := "signAt", desc := "(II)C" } : Jvm.MethodName) ∈ gW0 := gl_in (i := 770) (by decide +kernel) rfl
set_option maxRecDepth 100000 in
theorem gw_771 : Jvm.Cond.code ({ cls := "MazeDesk$Picture", name := "signAt", desc := "(II)C" } : Jvm.MethodName) prog_6_method_3_code (5 : Nat) (Option.some Jvm.ClassFile.FieldType.char) ∈ gW0 := gl_in (i := 771) rfl rfl
theorem gw_772 : Jvm.Cond.methodLink "MazeDesk$Picture" (32 : Nat) ({ cls := "MazeDesk$Picture", name := "signBetweenRows", desc := "(II)C" } : Jvm.MethodName) ∈ gW0 := gl_in (i := 772) (by decide +kernel) rfl
theorem gw_774 : Jvm.Cond.instanceMethod ({ cls := "MazeDesk$Picture", name := "signBetweenRows", desc := "(II)C" } : Jvm.MethodName) ∈ gW0 := gl_in (i := 774) (by decide +kernel) rfl
set_option maxRecDepth 100000 in
theorem gw_775 : Jvm.Cond.code ({ cls := "MazeDesk$Picture", name := "signBetweenRows", desc := "(II)C" } : Jvm.MethodName) prog_6_method_5_code (3 : Nat) (Option.some Jvm.ClassFile.FieldType.char) ∈ gW0 := gl_in (i := 775) rfl rfl
theorem gw_776 : Jvm.Cond.methodLink "MazeDesk$Picture" (61 : Nat) ({ cls := "MazeDesk$Picture", name := "signOfPassage", desc := "(IIC)C" } : Jvm.MethodName) ∈ gW0 := gl_in (i := 776) (by decide +kernel) rfl
theorem gw_778 : Jvm.Cond.instanceMethod ({ cls := "MazeDesk$Picture", name := "signOfPassage", desc := "(IIC)C" } : Jvm.MethodName) ∈ gW0 := gl_in (i := 778) (by decide +kernel) rfl
set_option maxRecDepth 100000 in
theorem gw_779 : Jvm.Cond.code ({ cls := "MazeDesk$Picture", name := "signOfPassage", desc := "(IIC)C" } : Jvm.MethodName) prog_6_method_7_code (7 : Nat) (Option.some Jvm.ClassFile.FieldType.char) ∈ gW0 := gl_in (i := 779) rfl rfl
theorem gw_780 : Jvm.Cond.methodLink "MazeDesk$Picture" (65 : Nat) ({ cls := "MazeDesk$Board", name := "passageAt", desc := "(II)I" } : Jvm.MethodName) ∈ gW0 := gl_in (i := 780) (by decide +kernel) rfl
theorem gw_781 : Jvm.Cond.methodLink "MazeDesk$Picture" (69 : Nat) ({ cls := "MazeDesk$Maze", name := "isOpen", desc := "(I)Z" } : Jvm.MethodName) ∈ gW0 := gl_in (i := 781) (by decide +kernel) rfl
theorem gw_782 : Jvm.Cond.methodLink "MazeDesk$Picture" (72 : Nat) ({ cls := "MazeDesk$Maze", name := "doorAt", desc := "(I)I" } : Jvm.MethodName) ∈ gW0 := gl_in (i := 782) (by decide +kernel) rfl
theorem gw_783 : Jvm.Cond.instanceMethod ({ cls := "MazeDesk$Maze", name := "doorAt", desc := "(I)I" } : Jvm.MethodName) ∈ gW0 := gl_in (i := 783) (by decide +kernel) rfl
theorem gw_784 : Jvm.Cond.selects "MazeDesk$Maze" ({ cls := "MazeDesk$Maze", name := "doorAt", desc := "(I)I" } : Jvm.MethodName) ({ cls := "MazeDesk$Maze", name := "doorAt", desc := "(I)I" } : Jvm.MethodName) ∈ gW0 := gl_in (i := 784) (by decide +kernel) rfl
set_option maxRecDepth 100000 in
theorem gw_785 : Jvm.Cond.code ({ cls := "MazeDesk$Maze", name := "doorAt", desc := "(I)I" } : Jvm.MethodName) prog_5_method_6_code (2 : Nat) (Option.some Jvm.ClassFile.FieldType.int) ∈ gW0 := gl_in (i := 785) rfl rfl
theorem gw_786 : Jvm.Cond.methodLink "MazeDesk$Picture" (75 : Nat) ({ cls := "MazeDesk$Maze", name := "onlyDirectionAt", desc := "(I)I" } : Jvm.MethodName) ∈ gW0 := gl_in (i := 786) (by decide +kernel) rfl
theorem gw_787 : Jvm.Cond.instanceMethod ({ cls := "MazeDesk$Maze", name := "onlyDirectionAt", desc := "(I)I" } : Jvm.MethodName) ∈ gW0 := gl_in (i := 787) (by decide +kernel) rfl
theorem gw_788 : Jvm.Cond.selects "MazeDesk$Maze" ({ cls := "MazeDesk$Maze", name := "onlyDirectionAt", desc := "(I)I" } : Jvm.MethodName) ({ cls := "MazeDesk$Maze", name := "onlyDirectionAt", desc := "(I)I" } : Jvm.MethodName) ∈ gW0 := gl_in (i := 788) (by decide +kernel) rfl
set_option maxRecDepth 100000 in
theorem gw_789 : Jvm.Cond.code ({ cls := "MazeDesk$Maze", name := "onlyDirectionAt", desc := "(I)I" } : Jvm.MethodName) prog_5_method_8_code (2 : Nat) (Option.some Jvm.ClassFile.FieldType.int) ∈ gW0 := gl_in (i := 789) rfl rfl
theorem gw_791 : Jvm.Cond.methodLink "MazeDesk$Picture" (80 : Nat) ({ cls := "java/lang/String", name := "charAt", desc := "(I)C" } : Jvm.MethodName) ∈ gW0 := gl_in (i := 791) (by decide +kernel) rfl
theorem gw_792 : Jvm.Cond.instanceMethod ({ cls := "java/lang/String", name := "charAt", desc := "(I)C" } : Jvm.MethodName) ∈ gW0 := gl_in (i := 792) (by decide +kernel) rfl
theorem gw_793 : Jvm.Cond.selects "java/lang/String" ({ cls := "java/lang/String", name := "charAt", desc := "(I)C" } : Jvm.MethodName) ({ cls := "java/lang/String", name := "charAt", desc := "(I)C" } : Jvm.MethodName) ∈ gW0 := gl_in (i := 793) (by decide +kernel) rfl
set_option maxRecDepth 100000 in
theorem gw_794 : Jvm.Cond.code ({ cls := "java/lang/String", name := "charAt", desc := "(I)C" } : Jvm.MethodName) prog_14_method_56_code (2 : Nat) (Option.some Jvm.ClassFile.FieldType.char) ∈ gW0 := gl_in (i := 794) rfl rfl
theorem gw_831 : Jvm.Cond.methodLink "MazeDesk$Picture" (35 : Nat) ({ cls := "MazeDesk$Picture", name := "signBetweenColumns", desc := "(II)C" } : Jvm.MethodName) ∈ gW0 := gl_in (i := 831) (by decide +kernel) rfl
theorem gw_833 : Jvm.Cond.instanceMethod ({ cls := "MazeDesk$Picture", name := "signBetweenColumns", desc := "(II)C" } : Jvm.MethodName) ∈ gW0 := gl_in (i := 833) (by decide +kernel) rfl
set_option maxRecDepth 100000 in
theorem gw_834 : Jvm.Cond.code ({ cls := "MazeDesk$Picture", name := "signBetweenColumns", desc := "(II)C" } : Jvm.MethodName) prog_6_method_6_code (3 : Nat) (Option.some Jvm.ClassFile.FieldType.char) ∈ gW0 := gl_in (i := 834) rfl rfl
theorem gw_835 : Jvm.Cond.methodLink "MazeDesk$Picture" (38 : Nat) ({ cls := "MazeDesk$Picture", name := "signOfCell", desc := "(I)C" } : Jvm.MethodName) ∈ gW0 := gl_in (i := 835) (by decide +kernel) rfl
theorem gw_837 : Jvm.Cond.instanceMethod ({ cls := "MazeDesk$Picture", name := "signOfCell", desc := "(I)C" } : Jvm.MethodName) ∈ gW0 := gl_in (i := 837) (by decide +kernel) rfl
set_option maxRecDepth 100000 in
theorem gw_838 : Jvm.Cond.code ({ cls := "MazeDesk$Picture", name := "signOfCell", desc := "(I)C" } : Jvm.MethodName) prog_6_method_4_code (3 : Nat) (Option.some Jvm.ClassFile.FieldType.char) ∈ gW0 := gl_in (i := 838) rfl rfl
theorem gw_839 : Jvm.Cond.methodLink "MazeDesk$Picture" (42 : Nat) ({ cls := "MazeDesk$Board", name := "isFree", desc := "(I)Z" } : Jvm.MethodName) ∈ gW0 := gl_in (i := 839) (by decide +kernel) rfl
theorem gw_840 : Jvm.Cond.methodLink "MazeDesk$Picture" (46 : Nat) ({ cls := "MazeDesk$Maze", name := "startCell", desc := "()I" } : Jvm.MethodName) ∈ gW0 := gl_in (i := 840) (by decide +kernel) rfl
theorem gw_841 : Jvm.Cond.methodLink "MazeDesk$Picture" (51 : Nat) ({ cls := "MazeDesk$Maze", name := "exitCell", desc := "()I" } : Jvm.MethodName) ∈ gW0 := gl_in (i := 841) (by decide +kernel) rfl
theorem gw_842 : Jvm.Cond.methodLink "MazeDesk$Picture" (54 : Nat) ({ cls := "MazeDesk$Maze", name := "keysIn", desc := "(I)I" } : Jvm.MethodName) ∈ gW0 := gl_in (i := 842) (by decide +kernel) rfl
theorem gw_844 : Jvm.Cond.arrayClass Jvm.ClassFile.FieldType.byte ∈ gW0 := gl_in (i := 844) (by decide +kernel) rfl
theorem gw_845 : Jvm.Cond.methodLink "MazeDeskLaw" (9 : Nat) ({ cls := "MazeDeskLaw", name := "cell", desc := "([II)I" } : Jvm.MethodName) ∈ gW0 := gl_in (i := 845) (by decide +kernel) rfl
theorem gw_846 : Jvm.Cond.static ({ cls := "MazeDeskLaw", name := "cell", desc := "([II)I" } : Jvm.MethodName) ∈ gW0 := gl_in (i := 846) (by decide +kernel) rfl
set_option maxRecDepth 100000 in
theorem gw_847 : Jvm.Cond.code ({ cls := "MazeDeskLaw", name := "cell", desc := "([II)I" } : Jvm.MethodName) method_2_code (2 : Nat) (Option.some Jvm.ClassFile.FieldType.int) ∈ gW0 := gl_in (i := 847) rfl rfl
theorem gw_848 : Jvm.Cond.classLink "MazeDeskLaw" (18 : Nat) "MazeDeskModel" ∈ gW0 := gl_in (i := 848) (by decide +kernel) rfl
theorem gw_849 : Jvm.Cond.instantiable "MazeDeskModel" (26 : Nat) ∈ gW0 := gl_in (i := 849) (by decide +kernel) rfl
theorem gw_850 : Jvm.Cond.methodLink "MazeDeskLaw" (20 : Nat) ({ cls := "MazeDeskModel", name := "<init>", desc := "(III)V" } : Jvm.MethodName) ∈ gW0 := gl_in (i := 850) (by decide +kernel) rfl
theorem gw_851 : Jvm.Cond.instanceMethod ({ cls := "MazeDeskModel", name := "<init>", desc := "(III)V" } : Jvm.MethodName) ∈ gW0 := gl_in (i := 851) (by decide +kernel) rfl
set_option maxRecDepth 100000 in
theorem gw_852 : Jvm.Cond.code ({ cls := "MazeDeskModel", name := "<init>", desc := "(III)V" } : Jvm.MethodName) prog_12_method_1_code (4 : Nat) (Option.none : Option Jvm.ClassFile.FieldType) ∈ gW0 := gl_in (i := 852) rfl rfl
theorem gw_853 : Jvm.Cond.methodLink "MazeDeskModel" (1 : Nat) ({ cls := "java/lang/Object", name := "<init>", desc := "()V" } : Jvm.MethodName) ∈ gW0 := gl_in (i := 853) (by decide +kernel) rfl
theorem gw_854 : Jvm.Cond.fieldLink "MazeDeskModel" (65 : Nat) "MazeDeskModel" "thrown" "I" ∈ gW0 := gl_in (i := 854) (by decide +kernel) rfl
theorem gw_855 : Jvm.Cond.fieldLink "MazeDeskModel" (52 : Nat) "MazeDeskModel" "width" "I" ∈ gW0 := gl_in (i := 855) (by decide +kernel) rfl
theorem gw_856 : Jvm.Cond.fieldLink "MazeDeskModel" (56 : Nat) "MazeDeskModel" "height" "I" ∈ gW0 := gl_in (i := 856) (by decide +kernel) rfl
theorem gw_857 : Jvm.Cond.fieldLink "MazeDeskModel" (59 : Nat) "MazeDeskModel" "wrapped" "I" ∈ gW0 := gl_in (i := 857) (by decide +kernel) rfl
theorem gw_858 : Jvm.Cond.fieldLink "MazeDeskModel" (62 : Nat) "MazeDeskModel" "cells" "I" ∈ gW0 := gl_in (i := 858) (by decide +kernel) rfl
theorem gw_859 : Jvm.Cond.fieldLink "MazeDeskModel" (7 : Nat) "MazeDeskModel" "cut" "[Z" ∈ gW0 := gl_in (i := 859) (by decide +kernel) rfl
theorem gw_860 : Jvm.Cond.fieldLink "MazeDeskModel" (75 : Nat) "MazeDeskModel" "there" "Z" ∈ gW0 := gl_in (i := 860) (by decide +kernel) rfl
theorem gw_861 : Jvm.Cond.fieldLink "MazeDeskModel" (85 : Nat) "MazeDeskModel" "root" "I" ∈ gW0 := gl_in (i := 861) (by decide +kernel) rfl
theorem gw_862 : Jvm.Cond.fieldLink "MazeDeskModel" (91 : Nat) "MazeDeskModel" "circles" "I" ∈ gW0 := gl_in (i := 862) (by decide +kernel) rfl
theorem gw_863 : Jvm.Cond.fieldLink "MazeDeskModel" (13 : Nat) "MazeDeskModel" "x" "[I" ∈ gW0 := gl_in (i := 863) (by decide +kernel) rfl
theorem gw_864 : Jvm.Cond.fieldLink "MazeDeskModel" (17 : Nat) "MazeDeskModel" "top" "[I" ∈ gW0 := gl_in (i := 864) (by decide +kernel) rfl
theorem gw_865 : Jvm.Cond.fieldLink "MazeDeskModel" (20 : Nat) "MazeDeskModel" "popped" "[I" ∈ gW0 := gl_in (i := 865) (by decide +kernel) rfl
theorem gw_866 : Jvm.Cond.fieldLink "MazeDeskModel" (23 : Nat) "MazeDeskModel" "open" "[Z" ∈ gW0 := gl_in (i := 866) (by decide +kernel) rfl
theorem gw_867 : Jvm.Cond.fieldLink "MazeDeskModel" (26 : Nat) "MazeDeskModel" "door" "[B" ∈ gW0 := gl_in (i := 867) (by decide +kernel) rfl
theorem gw_868 : Jvm.Cond.fieldLink "MazeDeskModel" (30 : Nat) "MazeDeskModel" "walkable" "[Z" ∈ gW0 := gl_in (i := 868) (by decide +kernel) rfl
theorem gw_869 : Jvm.Cond.fieldLink "MazeDeskModel" (33 : Nat) "MazeDeskModel" "keys" "[I" ∈ gW0 := gl_in (i := 869) (by decide +kernel) rfl
theorem gw_870 : Jvm.Cond.fieldLink "MazeDeskModel" (107 : Nat) "MazeDeskModel" "start" "I" ∈ gW0 := gl_in (i := 870) (by decide +kernel) rfl
theorem gw_871 : Jvm.Cond.fieldLink "MazeDeskModel" (110 : Nat) "MazeDeskModel" "exit" "I" ∈ gW0 := gl_in (i := 871) (by decide +kernel) rfl
theorem gw_872 : Jvm.Cond.fieldLink "MazeDeskModel" (146 : Nat) "MazeDeskModel" "player" "I" ∈ gW0 := gl_in (i := 872) (by decide +kernel) rfl
theorem gw_873 : Jvm.Cond.fieldLink "MazeDeskModel" (152 : Nat) "MazeDeskModel" "held" "I" ∈ gW0 := gl_in (i := 873) (by decide +kernel) rfl
theorem gw_874 : Jvm.Cond.fieldLink "MazeDeskModel" (155 : Nat) "MazeDeskModel" "steps" "I" ∈ gW0 := gl_in (i := 874) (by decide +kernel) rfl
theorem gw_875 : Jvm.Cond.fieldLink "MazeDeskModel" (36 : Nat) "MazeDeskModel" "reached" "[Z" ∈ gW0 := gl_in (i := 875) (by decide +kernel) rfl
theorem gw_876 : Jvm.Cond.fieldLink "MazeDeskModel" (39 : Nat) "MazeDeskModel" "table" "[J" ∈ gW0 := gl_in (i := 876) (by decide +kernel) rfl
theorem gw_877 : Jvm.Cond.fieldLink "MazeDeskModel" (43 : Nat) "MazeDeskModel" "place" "[I" ∈ gW0 := gl_in (i := 877) (by decide +kernel) rfl
theorem gw_878 : Jvm.Cond.fieldLink "MazeDeskModel" (46 : Nat) "MazeDeskModel" "far" "[I" ∈ gW0 := gl_in (i := 878) (by decide +kernel) rfl
theorem gw_879 : Jvm.Cond.fieldLink "MazeDeskModel" (49 : Nat) "MazeDeskModel" "good" "[Z" ∈ gW0 := gl_in (i := 879) (by decide +kernel) rfl
theorem gw_880 : Jvm.Cond.lays "MazeDeskModel" "MazeDeskModel" "thrown" "I" ∈ gW0 := gl_in (i := 880) (by decide +kernel) rfl
theorem gw_882 : Jvm.Cond.laysFinal "MazeDeskModel" "MazeDeskModel" "width" "I" ∈ gW0 := gl_in (i := 882) (by decide +kernel) rfl
theorem gw_884 : Jvm.Cond.laysFinal "MazeDeskModel" "MazeDeskModel" "height" "I" ∈ gW0 := gl_in (i := 884) (by decide +kernel) rfl
theorem gw_886 : Jvm.Cond.laysFinal "MazeDeskModel" "MazeDeskModel" "wrapped" "I" ∈ gW0 := gl_in (i := 886) (by decide +kernel) rfl
theorem gw_888 : Jvm.Cond.laysFinal "MazeDeskModel" "MazeDeskModel" "cells" "I" ∈ gW0 := gl_in (i := 888) (by decide +kernel) rfl
theorem gw_890 : Jvm.Cond.laysFinal "MazeDeskModel" "MazeDeskModel" "cut" "[Z" ∈ gW0 := gl_in (i := 890) (by decide +kernel) rfl
theorem gw_892 : Jvm.Cond.lays "MazeDeskModel" "MazeDeskModel" "there" "Z" ∈ gW0 := gl_in (i := 892) (by decide +kernel) rfl
theorem gw_894 : Jvm.Cond.lays "MazeDeskModel" "MazeDeskModel" "root" "I" ∈ gW0 := gl_in (i := 894) (by decide +kernel) rfl
theorem gw_896 : Jvm.Cond.lays "MazeDeskModel" "MazeDeskModel" "circles" "I" ∈ gW0 := gl_in (i := 896) (by decide +kernel) rfl
theorem gw_898 : Jvm.Cond.laysFinal "MazeDeskModel" "MazeDeskModel" "x" "[I" ∈ gW0 := gl_in (i := 898) (by decide +kernel) rfl
theorem gw_900 : Jvm.Cond.laysFinal "MazeDeskModel" "MazeDeskModel" "top" "[I" ∈ gW0 := gl_in (i := 900) (by decide +kernel) rfl
theorem gw_902 : Jvm.Cond.laysFinal "MazeDeskModel" "MazeDeskModel" "popped" "[I" ∈ gW0 := gl_in (i := 902) (by decide +kernel) rfl
theorem gw_904 : Jvm.Cond.laysFinal "MazeDeskModel" "MazeDeskModel" "open" "[Z" ∈ gW0 := gl_in (i := 904) (by decide +kernel) rfl
theorem gw_906 : Jvm.Cond.laysFinal "MazeDeskModel" "MazeDeskModel" "door" "[B" ∈ gW0 := gl_in (i := 906) (by decide +kernel) rfl
theorem gw_908 : Jvm.Cond.laysFinal "MazeDeskModel" "MazeDeskModel" "walkable" "[Z" ∈ gW0 := gl_in (i := 908) (by decide +kernel) rfl
theorem gw_910 : Jvm.Cond.laysFinal "MazeDeskModel" "MazeDeskModel" "keys" "[I" ∈ gW0 := gl_in (i := 910) (by decide +kernel) rfl
theorem gw_912 : Jvm.Cond.lays "MazeDeskModel" "MazeDeskModel" "start" "I" ∈ gW0 := gl_in (i := 912) (by decide +kernel) rfl
theorem gw_914 : Jvm.Cond.lays "MazeDeskModel" "MazeDeskModel" "exit" "I" ∈ gW0 := gl_in (i := 914) (by decide +kernel) rfl
theorem gw_916 : Jvm.Cond.lays "MazeDeskModel" "MazeDeskModel" "player" "I" ∈ gW0 := gl_in (i := 916) (by decide +kernel) rfl
theorem gw_918 : Jvm.Cond.lays "MazeDeskModel" "MazeDeskModel" "held" "I" ∈ gW0 := gl_in (i := 918) (by decide +kernel) rfl
theorem gw_920 : Jvm.Cond.lays "MazeDeskModel" "MazeDeskModel" "steps" "I" ∈ gW0 := gl_in (i := 920) (by decide +kernel) rfl
theorem gw_922 : Jvm.Cond.laysFinal "MazeDeskModel" "MazeDeskModel" "reached" "[Z" ∈ gW0 := gl_in (i := 922) (by decide +kernel) rfl
theorem gw_924 : Jvm.Cond.laysFinal "MazeDeskModel" "MazeDeskModel" "table" "[J" ∈ gW0 := gl_in (i := 924) (by decide +kernel) rfl
theorem gw_926 : Jvm.Cond.laysFinal "MazeDeskModel" "MazeDeskModel" "place" "[I" ∈ gW0 := gl_in (i := 926) (by decide +kernel) rfl
theorem gw_928 : Jvm.Cond.laysFinal "MazeDeskModel" "MazeDeskModel" "far" "[I" ∈ gW0 := gl_in (i := 928) (by decide +kernel) rfl
theorem gw_930 : Jvm.Cond.laysFinal "MazeDeskModel" "MazeDeskModel" "good" "[Z" ∈ gW0 := gl_in (i := 930) (by decide +kernel) rfl
theorem gw_933 : Jvm.Cond.methodLink "MazeDeskLaw" (25 : Nat) ({ cls := "MazeDeskModel", name := "cut", desc := "(IZ)Z" } : Jvm.MethodName) ∈ gW0 := gl_in (i := 933) (by decide +kernel) rfl
theorem gw_934 : Jvm.Cond.instanceMethod ({ cls := "MazeDeskModel", name := "cut", desc := "(IZ)Z" } : Jvm.MethodName) ∈ gW0 := gl_in (i := 934) (by decide +kernel) rfl
theorem gw_935 : Jvm.Cond.selects "MazeDeskModel" ({ cls := "MazeDeskModel", name := "cut", desc := "(IZ)Z" } : Jvm.MethodName) ({ cls := "MazeDeskModel", name := "cut", desc := "(IZ)Z" } : Jvm.MethodName) ∈ gW0 := gl_in (i := 935) (by decide +kernel) rfl
set_option maxRecDepth 100000 in
theorem gw_936 : Jvm.Cond.code ({ cls := "MazeDeskModel", name := "cut", desc := "(IZ)Z" } : Jvm.MethodName) prog_12_method_6_code (3 : Nat) (Option.some Jvm.ClassFile.FieldType.boolean) ∈ gW0 := gl_in (i := 936) rfl rfl
theorem gw_937 : Jvm.Cond.methodLink "MazeDeskModel" (68 : Nat) ({ cls := "MazeDeskModel", name := "isCell", desc := "(I)Z" } : Jvm.MethodName) ∈ gW0 := gl_in (i := 937) (by decide +kernel) rfl
theorem gw_939 : Jvm.Cond.instanceMethod ({ cls := "MazeDeskModel", name := "isCell", desc := "(I)Z" } : Jvm.MethodName) ∈ gW0 := gl_in (i := 939) (by decide +kernel) rfl
set_option maxRecDepth 100000 in
theorem gw_940 : Jvm.Cond.code ({ cls := "MazeDeskModel", name := "isCell", desc := "(I)Z" } : Jvm.MethodName) prog_12_method_3_code (2 : Nat) (Option.some Jvm.ClassFile.FieldType.boolean) ∈ gW0 := gl_in (i := 940) rfl rfl
theorem gw_941 : Jvm.Cond.methodLink "MazeDeskLaw" (30 : Nat) ({ cls := "MazeDeskModel", name := "make", desc := "(II)I" } : Jvm.MethodName) ∈ gW0 := gl_in (i := 941) (by decide +kernel) rfl
theorem gw_942 : Jvm.Cond.instanceMethod ({ cls := "MazeDeskModel", name := "make", desc := "(II)I" } : Jvm.MethodName) ∈ gW0 := gl_in (i := 942) (by decide +kernel) rfl
theorem gw_943 : Jvm.Cond.selects "MazeDeskModel" ({ cls := "MazeDeskModel", name := "make", desc := "(II)I" } : Jvm.MethodName) ({ cls := "MazeDeskModel", name := "make", desc := "(II)I" } : Jvm.MethodName) ∈ gW0 := gl_in (i := 943) (by decide +kernel) rfl
set_option maxRecDepth 100000 in
theorem gw_944 : Jvm.Cond.code ({ cls := "MazeDeskModel", name := "make", desc := "(II)I" } : Jvm.MethodName) prog_12_method_10_code (7 : Nat) (Option.some Jvm.ClassFile.FieldType.int) ∈ gW0 := gl_in (i := 944) rfl rfl
theorem gw_945 : Jvm.Cond.methodLink "MazeDeskModel" (72 : Nat) ({ cls := "MazeDeskModel", name := "stands", desc := "(I)Z" } : Jvm.MethodName) ∈ gW0 := gl_in (i := 945) (by decide +kernel) rfl
theorem gw_947 : Jvm.Cond.instanceMethod ({ cls := "MazeDeskModel", name := "stands", desc := "(I)Z" } : Jvm.MethodName) ∈ gW0 := gl_in (i := 947) (by decide +kernel) rfl
set_option maxRecDepth 100000 in
theorem gw_948 : Jvm.Cond.code ({ cls := "MazeDeskModel", name := "stands", desc := "(I)Z" } : Jvm.MethodName) prog_12_method_4_code (2 : Nat) (Option.some Jvm.ClassFile.FieldType.boolean) ∈ gW0 := gl_in (i := 948) rfl rfl
theorem gw_949 : Jvm.Cond.methodLink "MazeDeskModel" (88 : Nat) ({ cls := "MazeDeskModel", name := "allReach", desc := "(I)Z" } : Jvm.MethodName) ∈ gW0 := gl_in (i := 949) (by decide +kernel) rfl
theorem gw_951 : Jvm.Cond.instanceMethod ({ cls := "MazeDeskModel", name := "allReach", desc := "(I)Z" } : Jvm.MethodName) ∈ gW0 := gl_in (i := 951) (by decide +kernel) rfl
set_option maxRecDepth 100000 in
theorem gw_952 : Jvm.Cond.code ({ cls := "MazeDeskModel", name := "allReach", desc := "(I)Z" } : Jvm.MethodName) prog_12_method_8_code (6 : Nat) (Option.some Jvm.ClassFile.FieldType.boolean) ∈ gW0 := gl_in (i := 952) rfl rfl
theorem gw_953 : Jvm.Cond.methodLink "MazeDeskModel" (79 : Nat) ({ cls := "MazeDeskModel", name := "next", desc := "(II)I" } : Jvm.MethodName) ∈ gW0 := gl_in (i := 953) (by decide +kernel) rfl
theorem gw_955 : Jvm.Cond.instanceMethod ({ cls := "MazeDeskModel", name := "next", desc := "(II)I" } : Jvm.MethodName) ∈ gW0 := gl_in (i := 955) (by decide +kernel) rfl
set_option maxRecDepth 100000 in
theorem gw_956 : Jvm.Cond.code ({ cls := "MazeDeskModel", name := "next", desc := "(II)I" } : Jvm.MethodName) prog_12_method_5_code (7 : Nat) (Option.some Jvm.ClassFile.FieldType.int) ∈ gW0 := gl_in (i := 956) rfl rfl
theorem gw_957 : Jvm.Cond.constant "MazeDeskModel" (94 : Nat) (-1640531535 : Int32) ∈ gW0 := gl_in (i := 957) (by decide +kernel) rfl
theorem gw_958 : Jvm.Cond.methodLink "MazeDeskModel" (95 : Nat) ({ cls := "MazeDeskModel", name := "pop", desc := "(I)V" } : Jvm.MethodName) ∈ gW0 := gl_in (i := 958) (by decide +kernel) rfl
theorem gw_960 : Jvm.Cond.instanceMethod ({ cls := "MazeDeskModel", name := "pop", desc := "(I)V" } : Jvm.MethodName) ∈ gW0 := gl_in (i := 960) (by decide +kernel) rfl
set_option maxRecDepth 100000 in
theorem gw_961 : Jvm.Cond.code ({ cls := "MazeDeskModel", name := "pop", desc := "(I)V" } : Jvm.MethodName) prog_12_method_7_code (5 : Nat) (Option.none : Option Jvm.ClassFile.FieldType) ∈ gW0 := gl_in (i := 961) rfl rfl
theorem gw_962 : Jvm.Cond.constant "MazeDeskModel" (83 : Nat) (1664525 : Int32) ∈ gW0 := gl_in (i := 962) (by decide +kernel) rfl
theorem gw_963 : Jvm.Cond.constant "MazeDeskModel" (84 : Nat) (1013904223 : Int32) ∈ gW0 := gl_in (i := 963) (by decide +kernel) rfl
theorem gw_964 : Jvm.Cond.methodLink "MazeDeskModel" (99 : Nat) ({ cls := "MazeDeskModel", name := "circle", desc := "()I" } : Jvm.MethodName) ∈ gW0 := gl_in (i := 964) (by decide +kernel) rfl
theorem gw_966 : Jvm.Cond.instanceMethod ({ cls := "MazeDeskModel", name := "circle", desc := "()I" } : Jvm.MethodName) ∈ gW0 := gl_in (i := 966) (by decide +kernel) rfl
set_option maxRecDepth 100000 in
theorem gw_967 : Jvm.Cond.code ({ cls := "MazeDeskModel", name := "circle", desc := "()I" } : Jvm.MethodName) prog_12_method_9_code (4 : Nat) (Option.some Jvm.ClassFile.FieldType.int) ∈ gW0 := gl_in (i := 967) rfl rfl
theorem gw_968 : Jvm.Cond.methodLink "MazeDeskModel" (103 : Nat) ({ cls := "MazeDeskModel", name := "set", desc := "(IIZ)V" } : Jvm.MethodName) ∈ gW0 := gl_in (i := 968) (by decide +kernel) rfl
theorem gw_970 : Jvm.Cond.instanceMethod ({ cls := "MazeDeskModel", name := "set", desc := "(IIZ)V" } : Jvm.MethodName) ∈ gW0 := gl_in (i := 970) (by decide +kernel) rfl
set_option maxRecDepth 100000 in
theorem gw_971 : Jvm.Cond.code ({ cls := "MazeDeskModel", name := "set", desc := "(IIZ)V" } : Jvm.MethodName) prog_12_method_12_code (4 : Nat) (Option.none : Option Jvm.ClassFile.FieldType) ∈ gW0 := gl_in (i := 971) rfl rfl
theorem gw_972 : Jvm.Cond.methodLink "MazeDeskModel" (116 : Nat) ({ cls := "MazeDeskModel", name := "back", desc := "(II)I" } : Jvm.MethodName) ∈ gW0 := gl_in (i := 972) (by decide +kernel) rfl
theorem gw_974 : Jvm.Cond.instanceMethod ({ cls := "MazeDeskModel", name := "back", desc := "(II)I" } : Jvm.MethodName) ∈ gW0 := gl_in (i := 974) (by decide +kernel) rfl
set_option maxRecDepth 100000 in
theorem gw_975 : Jvm.Cond.code ({ cls := "MazeDeskModel", name := "back", desc := "(II)I" } : Jvm.MethodName) prog_12_method_11_code (3 : Nat) (Option.some Jvm.ClassFile.FieldType.int) ∈ gW0 := gl_in (i := 975) rfl rfl
theorem gw_976 : Jvm.Cond.methodLink "MazeDeskModel" (113 : Nat) ({ cls := "MazeDeskModel", name := "rest", desc := "()V" } : Jvm.MethodName) ∈ gW0 := gl_in (i := 976) (by decide +kernel) rfl
theorem gw_978 : Jvm.Cond.instanceMethod ({ cls := "MazeDeskModel", name := "rest", desc := "()V" } : Jvm.MethodName) ∈ gW0 := gl_in (i := 978) (by decide +kernel) rfl
set_option maxRecDepth 100000 in
theorem gw_979 : Jvm.Cond.code ({ cls := "MazeDeskModel", name := "rest", desc := "()V" } : Jvm.MethodName) prog_12_method_31_code (1 : Nat) (Option.none : Option Jvm.ClassFile.FieldType) ∈ gW0 := gl_in (i := 979) rfl rfl
theorem gw_980 : Jvm.Cond.methodLink "MazeDeskModel" (149 : Nat) ({ cls := "MazeDeskModel", name := "keysAt", desc := "(I)I" } : Jvm.MethodName) ∈ gW0 := gl_in (i := 980) (by decide +kernel) rfl
theorem gw_982 : Jvm.Cond.instanceMethod ({ cls := "MazeDeskModel", name := "keysAt", desc := "(I)I" } : Jvm.MethodName) ∈ gW0 := gl_in (i := 982) (by decide +kernel) rfl
set_option maxRecDepth 100000 in
theorem gw_983 : Jvm.Cond.code ({ cls := "MazeDeskModel", name := "keysAt", desc := "(I)I" } : Jvm.MethodName) prog_12_method_29_code (4 : Nat) (Option.some Jvm.ClassFile.FieldType.int) ∈ gW0 := gl_in (i := 983) rfl rfl
theorem gw_984 : Jvm.Cond.methodLink "MazeDeskLaw" (35 : Nat) ({ cls := "MazeDeskModel", name := "top", desc := "(I)I" } : Jvm.MethodName) ∈ gW0 := gl_in (i := 984) (by decide +kernel) rfl
theorem gw_985 : Jvm.Cond.instanceMethod ({ cls := "MazeDeskModel", name := "top", desc := "(I)I" } : Jvm.MethodName) ∈ gW0 := gl_in (i := 985) (by decide +kernel) rfl
theorem gw_986 : Jvm.Cond.selects "MazeDeskModel" ({ cls := "MazeDeskModel", name := "top", desc := "(I)I" } : Jvm.MethodName) ({ cls := "MazeDeskModel", name := "top", desc := "(I)I" } : Jvm.MethodName) ∈ gW0 := gl_in (i := 986) (by decide +kernel) rfl
set_option maxRecDepth 100000 in
theorem gw_987 : Jvm.Cond.code ({ cls := "MazeDeskModel", name := "top", desc := "(I)I" } : Jvm.MethodName) prog_12_method_13_code (2 : Nat) (Option.some Jvm.ClassFile.FieldType.int) ∈ gW0 := gl_in (i := 987) rfl rfl
theorem gw_988 : Jvm.Cond.methodLink "MazeDeskLaw" (39 : Nat) ({ cls := "MazeDeskModel", name := "popped", desc := "(I)I" } : Jvm.MethodName) ∈ gW0 := gl_in (i := 988) (by decide +kernel) rfl
theorem gw_989 : Jvm.Cond.instanceMethod ({ cls := "MazeDeskModel", name := "popped", desc := "(I)I" } : Jvm.MethodName) ∈ gW0 := gl_in (i := 989) (by decide +kernel) rfl
theorem gw_990 : Jvm.Cond.selects "MazeDeskModel" ({ cls := "MazeDeskModel", name := "popped", desc := "(I)I" } : Jvm.MethodName) ({ cls := "MazeDeskModel", name := "popped", desc := "(I)I" } : Jvm.MethodName) ∈ gW0 := gl_in (i := 990) (by decide +kernel) rfl
set_option maxRecDepth 100000 in
theorem gw_991 : Jvm.Cond.code ({ cls := "MazeDeskModel", name := "popped", desc := "(I)I" } : Jvm.MethodName) prog_12_method_14_code (2 : Nat) (Option.some Jvm.ClassFile.FieldType.int) ∈ gW0 := gl_in (i := 991) rfl rfl
theorem gw_992 : Jvm.Cond.methodLink "MazeDeskLaw" (44 : Nat) ({ cls := "MazeDeskModel", name := "circles", desc := "()I" } : Jvm.MethodName) ∈ gW0 := gl_in (i := 992) (by decide +kernel) rfl
theorem gw_993 : Jvm.Cond.instanceMethod ({ cls := "MazeDeskModel", name := "circles", desc := "()I" } : Jvm.MethodName) ∈ gW0 := gl_in (i := 993) (by decide +kernel) rfl
theorem gw_994 : Jvm.Cond.selects "MazeDeskModel" ({ cls := "MazeDeskModel", name := "circles", desc := "()I" } : Jvm.MethodName) ({ cls := "MazeDeskModel", name := "circles", desc := "()I" } : Jvm.MethodName) ∈ gW0 := gl_in (i := 994) (by decide +kernel) rfl
set_option maxRecDepth 100000 in
theorem gw_995 : Jvm.Cond.code ({ cls := "MazeDeskModel", name := "circles", desc := "()I" } : Jvm.MethodName) prog_12_method_15_code (1 : Nat) (Option.some Jvm.ClassFile.FieldType.int) ∈ gW0 := gl_in (i := 995) rfl rfl
theorem gw_996 : Jvm.Cond.methodLink "MazeDeskLaw" (49 : Nat) ({ cls := "MazeDeskModel", name := "trees", desc := "()J" } : Jvm.MethodName) ∈ gW0 := gl_in (i := 996) (by decide +kernel) rfl
theorem gw_997 : Jvm.Cond.instanceMethod ({ cls := "MazeDeskModel", name := "trees", desc := "()J" } : Jvm.MethodName) ∈ gW0 := gl_in (i := 997) (by decide +kernel) rfl
theorem gw_998 : Jvm.Cond.selects "MazeDeskModel" ({ cls := "MazeDeskModel", name := "trees", desc := "()J" } : Jvm.MethodName) ({ cls := "MazeDeskModel", name := "trees", desc := "()J" } : Jvm.MethodName) ∈ gW0 := gl_in (i := 998) (by decide +kernel) rfl
set_option maxRecDepth 100000 in
theorem gw_999 : Jvm.Cond.code ({ cls := "MazeDeskModel", name := "trees", desc := "()J" } : Jvm.MethodName) prog_12_method_16_code (3 : Nat) (Option.some Jvm.ClassFile.FieldType.long) ∈ gW0 := gl_in (i := 999) rfl rfl
theorem gw_1000 : Jvm.Cond.constantLong "MazeDeskModel" (119 : Nat) (-1 : Int64) ∈ gW0 := gl_in (i := 1000) (by decide +kernel) rfl
theorem gw_1001 : Jvm.Cond.methodLink "MazeDeskModel" (121 : Nat) ({ cls := "MazeDeskModel", name := "count", desc := "(I)J" } : Jvm.MethodName) ∈ gW0 := gl_in (i := 1001) (by decide +kernel) rfl
theorem gw_1003 : Jvm.Cond.instanceMethod ({ cls := "MazeDeskModel", name := "count", desc := "(I)J" } : Jvm.MethodName) ∈ gW0 := gl_in (i := 1003) (by decide +kernel) rfl
set_option maxRecDepth 100000 in
theorem gw_1004 : Jvm.Cond.code ({ cls := "MazeDeskModel", name := "count", desc := "(I)J" } : Jvm.MethodName) prog_12_method_17_code (5 : Nat) (Option.some Jvm.ClassFile.FieldType.long) ∈ gW0 := gl_in (i := 1004) rfl rfl
theorem gw_1005 : Jvm.Cond.constantLong "MazeDeskModel" (125 : Nat) (2147483647 : Int64) ∈ gW0 := gl_in (i := 1005) (by decide +kernel) rfl
theorem gw_1006 : Jvm.Cond.methodLink "MazeDeskModel" (127 : Nat) ({ cls := "MazeDeskModel", name := "corner", desc := "(I)J" } : Jvm.MethodName) ∈ gW0 := gl_in (i := 1006) (by decide +kernel) rfl
theorem gw_1008 : Jvm.Cond.instanceMethod ({ cls := "MazeDeskModel", name := "corner", desc := "(I)J" } : Jvm.MethodName) ∈ gW0 := gl_in (i := 1008) (by decide +kernel) rfl
set_option maxRecDepth 100000 in
theorem gw_1009 : Jvm.Cond.code ({ cls := "MazeDeskModel", name := "corner", desc := "(I)J" } : Jvm.MethodName) prog_12_method_19_code (12 : Nat) (Option.some Jvm.ClassFile.FieldType.long) ∈ gW0 := gl_in (i := 1009) rfl rfl
theorem gw_1010 : Jvm.Cond.methodLink "MazeDeskModel" (134 : Nat) ({ cls := "MazeDeskModel", name := "inverse", desc := "(J)J" } : Jvm.MethodName) ∈ gW0 := gl_in (i := 1010) (by decide +kernel) rfl
theorem gw_1011 : Jvm.Cond.static ({ cls := "MazeDeskModel", name := "inverse", desc := "(J)J" } : Jvm.MethodName) ∈ gW0 := gl_in (i := 1011) (by decide +kernel) rfl
set_option maxRecDepth 100000 in
theorem gw_1012 : Jvm.Cond.code ({ cls := "MazeDeskModel", name := "inverse", desc := "(J)J" } : Jvm.MethodName) prog_12_method_18_code (8 : Nat) (Option.some Jvm.ClassFile.FieldType.long) ∈ gW0 := gl_in (i := 1012) rfl rfl
theorem gw_1013 : Jvm.Cond.constantLong "MazeDeskModel" (130 : Nat) (2147483645 : Int64) ∈ gW0 := gl_in (i := 1013) (by decide +kernel) rfl
theorem gw_1014 : Jvm.Cond.constantLong "MazeDeskModel" (132 : Nat) (2 : Int64) ∈ gW0 := gl_in (i := 1014) (by decide +kernel) rfl
theorem gw_1015 : Jvm.Cond.methodLink "MazeDeskLaw" (53 : Nat) ({ cls := "MazeDeskModel", name := "passage", desc := "(II)I" } : Jvm.MethodName) ∈ gW0 := gl_in (i := 1015) (by decide +kernel) rfl
theorem gw_1016 : Jvm.Cond.instanceMethod ({ cls := "MazeDeskModel", name := "passage", desc := "(II)I" } : Jvm.MethodName) ∈ gW0 := gl_in (i := 1016) (by decide +kernel) rfl
theorem gw_1017 : Jvm.Cond.selects "MazeDeskModel" ({ cls := "MazeDeskModel", name := "passage", desc := "(II)I" } : Jvm.MethodName) ({ cls := "MazeDeskModel", name := "passage", desc := "(II)I" } : Jvm.MethodName) ∈ gW0 := gl_in (i := 1017) (by decide +kernel) rfl
set_option maxRecDepth 100000 in
theorem gw_1018 : Jvm.Cond.code ({ cls := "MazeDeskModel", name := "passage", desc := "(II)I" } : Jvm.MethodName) prog_12_method_20_code (3 : Nat) (Option.some Jvm.ClassFile.FieldType.int) ∈ gW0 := gl_in (i := 1018) rfl rfl
theorem gw_1019 : Jvm.Cond.methodLink "MazeDeskLaw" (58 : Nat) ({ cls := "MazeDeskModel", name := "open", desc := "(IIZ)Z" } : Jvm.MethodName) ∈ gW0 := gl_in (i := 1019) (by decide +kernel) rfl
theorem gw_1020 : Jvm.Cond.instanceMethod ({ cls := "MazeDeskModel", name := "open", desc := "(IIZ)Z" } : Jvm.MethodName) ∈ gW0 := gl_in (i := 1020) (by decide +kernel) rfl
theorem gw_1021 : Jvm.Cond.selects "MazeDeskModel" ({ cls := "MazeDeskModel", name := "open", desc := "(IIZ)Z" } : Jvm.MethodName) ({ cls := "MazeDeskModel", name := "open", desc := "(IIZ)Z" } : Jvm.MethodName) ∈ gW0 := gl_in (i := 1021) (by decide +kernel) rfl
set_option maxRecDepth 100000 in
theorem gw_1022 : Jvm.Cond.code ({ cls := "MazeDeskModel", name := "open", desc := "(IIZ)Z" } : Jvm.MethodName) prog_12_method_21_code (4 : Nat) (Option.some Jvm.ClassFile.FieldType.boolean) ∈ gW0 := gl_in (i := 1022) rfl rfl
theorem gw_1023 : Jvm.Cond.methodLink "MazeDeskLaw" (62 : Nat) ({ cls := "MazeDeskModel", name := "braid", desc := "(I)I" } : Jvm.MethodName) ∈ gW0 := gl_in (i := 1023) (by decide +kernel) rfl
theorem gw_1024 : Jvm.Cond.instanceMethod ({ cls := "MazeDeskModel", name := "braid", desc := "(I)I" } : Jvm.MethodName) ∈ gW0 := gl_in (i := 1024) (by decide +kernel) rfl
theorem gw_1025 : Jvm.Cond.selects "MazeDeskModel" ({ cls := "MazeDeskModel", name := "braid", desc := "(I)I" } : Jvm.MethodName) ({ cls := "MazeDeskModel", name := "braid", desc := "(I)I" } : Jvm.MethodName) ∈ gW0 := gl_in (i := 1025) (by decide +kernel) rfl
set_option maxRecDepth 100000 in
theorem gw_1026 : Jvm.Cond.code ({ cls := "MazeDeskModel", name := "braid", desc := "(I)I" } : Jvm.MethodName) prog_12_method_23_code (5 : Nat) (Option.some Jvm.ClassFile.FieldType.int) ∈ gW0 := gl_in (i := 1026) rfl rfl
theorem gw_1027 : Jvm.Cond.methodLink "MazeDeskModel" (138 : Nat) ({ cls := "MazeDeskModel", name := "openOnes", desc := "(I)I" } : Jvm.MethodName) ∈ gW0 := gl_in (i := 1027) (by decide +kernel) rfl
theorem gw_1029 : Jvm.Cond.instanceMethod ({ cls := "MazeDeskModel", name := "openOnes", desc := "(I)I" } : Jvm.MethodName) ∈ gW0 := gl_in (i := 1029) (by decide +kernel) rfl
set_option maxRecDepth 100000 in
theorem gw_1030 : Jvm.Cond.code ({ cls := "MazeDeskModel", name := "openOnes", desc := "(I)I" } : Jvm.MethodName) prog_12_method_22_code (4 : Nat) (Option.some Jvm.ClassFile.FieldType.int) ∈ gW0 := gl_in (i := 1030) rfl rfl
theorem gw_1031 : Jvm.Cond.methodLink "MazeDeskLaw" (66 : Nat) ({ cls := "MazeDeskModel", name := "deadEnds", desc := "()I" } : Jvm.MethodName) ∈ gW0 := gl_in (i := 1031) (by decide +kernel) rfl
theorem gw_1032 : Jvm.Cond.instanceMethod ({ cls := "MazeDeskModel", name := "deadEnds", desc := "()I" } : Jvm.MethodName) ∈ gW0 := gl_in (i := 1032) (by decide +kernel) rfl
theorem gw_1033 : Jvm.Cond.selects "MazeDeskModel" ({ cls := "MazeDeskModel", name := "deadEnds", desc := "()I" } : Jvm.MethodName) ({ cls := "MazeDeskModel", name := "deadEnds", desc := "()I" } : Jvm.MethodName) ∈ gW0 := gl_in (i := 1033) (by decide +kernel) rfl
set_option maxRecDepth 100000 in
theorem gw_1034 : Jvm.Cond.code ({ cls := "MazeDeskModel", name := "deadEnds", desc := "()I" } : Jvm.MethodName) prog_12_method_24_code (3 : Nat) (Option.some Jvm.ClassFile.FieldType.int) ∈ gW0 := gl_in (i := 1034) rfl rfl
theorem gw_1035 : Jvm.Cond.methodLink "MazeDeskLaw" (71 : Nat) ({ cls := "MazeDeskModel", name := "key", desc := "(II)Z" } : Jvm.MethodName) ∈ gW0 := gl_in (i := 1035) (by decide +kernel) rfl
theorem gw_1036 : Jvm.Cond.instanceMethod ({ cls := "MazeDeskModel", name := "key", desc := "(II)Z" } : Jvm.MethodName) ∈ gW0 := gl_in (i := 1036) (by decide +kernel) rfl
theorem gw_1037 : Jvm.Cond.selects "MazeDeskModel" ({ cls := "MazeDeskModel", name := "key", desc := "(II)Z" } : Jvm.MethodName) ({ cls := "MazeDeskModel", name := "key", desc := "(II)Z" } : Jvm.MethodName) ∈ gW0 := gl_in (i := 1037) (by decide +kernel) rfl
set_option maxRecDepth 100000 in
theorem gw_1038 : Jvm.Cond.code ({ cls := "MazeDeskModel", name := "key", desc := "(II)Z" } : Jvm.MethodName) prog_12_method_25_code (3 : Nat) (Option.some Jvm.ClassFile.FieldType.boolean) ∈ gW0 := gl_in (i := 1038) rfl rfl
theorem gw_1039 : Jvm.Cond.methodLink "MazeDeskLaw" (76 : Nat) ({ cls := "MazeDeskModel", name := "door", desc := "(III)Z" } : Jvm.MethodName) ∈ gW0 := gl_in (i := 1039) (by decide +kernel) rfl
theorem gw_1040 : Jvm.Cond.instanceMethod ({ cls := "MazeDeskModel", name := "door", desc := "(III)Z" } : Jvm.MethodName) ∈ gW0 := gl_in (i := 1040) (by decide +kernel) rfl
theorem gw_1041 : Jvm.Cond.selects "MazeDeskModel" ({ cls := "MazeDeskModel", name := "door", desc := "(III)Z" } : Jvm.MethodName) ({ cls := "MazeDeskModel", name := "door", desc := "(III)Z" } : Jvm.MethodName) ∈ gW0 := gl_in (i := 1041) (by decide +kernel) rfl
set_option maxRecDepth 100000 in
theorem gw_1042 : Jvm.Cond.code ({ cls := "MazeDeskModel", name := "door", desc := "(III)Z" } : Jvm.MethodName) prog_12_method_27_code (4 : Nat) (Option.some Jvm.ClassFile.FieldType.boolean) ∈ gW0 := gl_in (i := 1042) rfl rfl
theorem gw_1043 : Jvm.Cond.methodLink "MazeDeskModel" (142 : Nat) ({ cls := "MazeDeskModel", name := "isOpen", desc := "(II)Z" } : Jvm.MethodName) ∈ gW0 := gl_in (i := 1043) (by decide +kernel) rfl
theorem gw_1045 : Jvm.Cond.instanceMethod ({ cls := "MazeDeskModel", name := "isOpen", desc := "(II)Z" } : Jvm.MethodName) ∈ gW0 := gl_in (i := 1045) (by decide +kernel) rfl
set_option maxRecDepth 100000 in
theorem gw_1046 : Jvm.Cond.code ({ cls := "MazeDeskModel", name := "isOpen", desc := "(II)Z" } : Jvm.MethodName) prog_12_method_26_code (3 : Nat) (Option.some Jvm.ClassFile.FieldType.boolean) ∈ gW0 := gl_in (i := 1046) rfl rfl
theorem gw_1047 : Jvm.Cond.methodLink "MazeDeskLaw" (80 : Nat) ({ cls := "MazeDeskModel", name := "oneWay", desc := "(II)Z" } : Jvm.MethodName) ∈ gW0 := gl_in (i := 1047) (by decide +kernel) rfl
theorem gw_1048 : Jvm.Cond.instanceMethod ({ cls := "MazeDeskModel", name := "oneWay", desc := "(II)Z" } : Jvm.MethodName) ∈ gW0 := gl_in (i := 1048) (by decide +kernel) rfl
theorem gw_1049 : Jvm.Cond.selects "MazeDeskModel" ({ cls := "MazeDeskModel", name := "oneWay", desc := "(II)Z" } : Jvm.MethodName) ({ cls := "MazeDeskModel", name := "oneWay", desc := "(II)Z" } : Jvm.MethodName) ∈ gW0 := gl_in (i := 1049) (by decide +kernel) rfl
set_option maxRecDepth 100000 in
theorem gw_1050 : Jvm.Cond.code ({ cls := "MazeDeskModel", name := "oneWay", desc := "(II)Z" } : Jvm.MethodName) prog_12_method_28_code (4 : Nat) (Option.some Jvm.ClassFile.FieldType.boolean) ∈ gW0 := gl_in (i := 1050) rfl rfl
theorem gw_1051 : Jvm.Cond.methodLink "MazeDeskLaw" (85 : Nat) ({ cls := "MazeDeskModel", name := "start", desc := "(I)Z" } : Jvm.MethodName) ∈ gW0 := gl_in (i := 1051) (by decide +kernel) rfl
theorem gw_1052 : Jvm.Cond.instanceMethod ({ cls := "MazeDeskModel", name := "start", desc := "(I)Z" } : Jvm.MethodName) ∈ gW0 := gl_in (i := 1052) (by decide +kernel) rfl
theorem gw_1053 : Jvm.Cond.selects "MazeDeskModel" ({ cls := "MazeDeskModel", name := "start", desc := "(I)Z" } : Jvm.MethodName) ({ cls := "MazeDeskModel", name := "start", desc := "(I)Z" } : Jvm.MethodName) ∈ gW0 := gl_in (i := 1053) (by decide +kernel) rfl
set_option maxRecDepth 100000 in
theorem gw_1054 : Jvm.Cond.code ({ cls := "MazeDeskModel", name := "start", desc := "(I)Z" } : Jvm.MethodName) prog_12_method_32_code (2 : Nat) (Option.some Jvm.ClassFile.FieldType.boolean) ∈ gW0 := gl_in (i := 1054) rfl rfl
theorem gw_1055 : Jvm.Cond.methodLink "MazeDeskLaw" (89 : Nat) ({ cls := "MazeDeskModel", name := "exit", desc := "(I)Z" } : Jvm.MethodName) ∈ gW0 := gl_in (i := 1055) (by decide +kernel) rfl
theorem gw_1056 : Jvm.Cond.instanceMethod ({ cls := "MazeDeskModel", name := "exit", desc := "(I)Z" } : Jvm.MethodName) ∈ gW0 := gl_in (i := 1056) (by decide +kernel) rfl
theorem gw_1057 : Jvm.Cond.selects "MazeDeskModel" ({ cls := "MazeDeskModel", name := "exit", desc := "(I)Z" } : Jvm.MethodName) ({ cls := "MazeDeskModel", name := "exit", desc := "(I)Z" } : Jvm.MethodName) ∈ gW0 := gl_in (i := 1057) (by decide +kernel) rfl
set_option maxRecDepth 100000 in
theorem gw_1058 : Jvm.Cond.code ({ cls := "MazeDeskModel", name := "exit", desc := "(I)Z" } : Jvm.MethodName) prog_12_method_33_code (2 : Nat) (Option.some Jvm.ClassFile.FieldType.boolean) ∈ gW0 := gl_in (i := 1058) rfl rfl
theorem gw_1059 : Jvm.Cond.methodLink "MazeDeskLaw" (93 : Nat) ({ cls := "MazeDeskModel", name := "placeKeys", desc := "(I)I" } : Jvm.MethodName) ∈ gW0 := gl_in (i := 1059) (by decide +kernel) rfl
theorem gw_1060 : Jvm.Cond.instanceMethod ({ cls := "MazeDeskModel", name := "placeKeys", desc := "(I)I" } : Jvm.MethodName) ∈ gW0 := gl_in (i := 1060) (by decide +kernel) rfl
theorem gw_1061 : Jvm.Cond.selects "MazeDeskModel" ({ cls := "MazeDeskModel", name := "placeKeys", desc := "(I)I" } : Jvm.MethodName) ({ cls := "MazeDeskModel", name := "placeKeys", desc := "(I)I" } : Jvm.MethodName) ∈ gW0 := gl_in (i := 1061) (by decide +kernel) rfl
set_option maxRecDepth 100000 in
theorem gw_1062 : Jvm.Cond.code ({ cls := "MazeDeskModel", name := "placeKeys", desc := "(I)I" } : Jvm.MethodName) prog_12_method_36_code (9 : Nat) (Option.some Jvm.ClassFile.FieldType.int) ∈ gW0 := gl_in (i := 1062) rfl rfl
theorem gw_1063 : Jvm.Cond.methodLink "MazeDeskModel" (162 : Nat) ({ cls := "MazeDeskModel", name := "reach", desc := "(I)V" } : Jvm.MethodName) ∈ gW0 := gl_in (i := 1063) (by decide +kernel) rfl
theorem gw_1065 : Jvm.Cond.instanceMethod ({ cls := "MazeDeskModel", name := "reach", desc := "(I)V" } : Jvm.MethodName) ∈ gW0 := gl_in (i := 1065) (by decide +kernel) rfl
set_option maxRecDepth 100000 in
theorem gw_1066 : Jvm.Cond.code ({ cls := "MazeDeskModel", name := "reach", desc := "(I)V" } : Jvm.MethodName) prog_12_method_34_code (6 : Nat) (Option.none : Option Jvm.ClassFile.FieldType) ∈ gW0 := gl_in (i := 1066) rfl rfl
theorem gw_1067 : Jvm.Cond.methodLink "MazeDeskModel" (158 : Nat) ({ cls := "MazeDeskModel", name := "stepTo", desc := "(III)I" } : Jvm.MethodName) ∈ gW0 := gl_in (i := 1067) (by decide +kernel) rfl
theorem gw_1069 : Jvm.Cond.instanceMethod ({ cls := "MazeDeskModel", name := "stepTo", desc := "(III)I" } : Jvm.MethodName) ∈ gW0 := gl_in (i := 1069) (by decide +kernel) rfl
set_option maxRecDepth 100000 in
theorem gw_1070 : Jvm.Cond.code ({ cls := "MazeDeskModel", name := "stepTo", desc := "(III)I" } : Jvm.MethodName) prog_12_method_30_code (5 : Nat) (Option.some Jvm.ClassFile.FieldType.int) ∈ gW0 := gl_in (i := 1070) rfl rfl
theorem gw_1071 : Jvm.Cond.methodLink "MazeDeskModel" (165 : Nat) ({ cls := "MazeDeskModel", name := "wanted", desc := "(I)I" } : Jvm.MethodName) ∈ gW0 := gl_in (i := 1071) (by decide +kernel) rfl
theorem gw_1073 : Jvm.Cond.instanceMethod ({ cls := "MazeDeskModel", name := "wanted", desc := "(I)I" } : Jvm.MethodName) ∈ gW0 := gl_in (i := 1073) (by decide +kernel) rfl
set_option maxRecDepth 100000 in
theorem gw_1074 : Jvm.Cond.code ({ cls := "MazeDeskModel", name := "wanted", desc := "(I)I" } : Jvm.MethodName) prog_12_method_35_code (7 : Nat) (Option.some Jvm.ClassFile.FieldType.int) ∈ gW0 := gl_in (i := 1074) rfl rfl
theorem gw_1075 : Jvm.Cond.methodLink "MazeDeskLaw" (97 : Nat) ({ cls := "MazeDeskModel", name := "escape", desc := "()I" } : Jvm.MethodName) ∈ gW0 := gl_in (i := 1075) (by decide +kernel) rfl
theorem gw_1076 : Jvm.Cond.instanceMethod ({ cls := "MazeDeskModel", name := "escape", desc := "()I" } : Jvm.MethodName) ∈ gW0 := gl_in (i := 1076) (by decide +kernel) rfl
theorem gw_1077 : Jvm.Cond.selects "MazeDeskModel" ({ cls := "MazeDeskModel", name := "escape", desc := "()I" } : Jvm.MethodName) ({ cls := "MazeDeskModel", name := "escape", desc := "()I" } : Jvm.MethodName) ∈ gW0 := gl_in (i := 1077) (by decide +kernel) rfl
set_option maxRecDepth 100000 in
theorem gw_1078 : Jvm.Cond.code ({ cls := "MazeDeskModel", name := "escape", desc := "()I" } : Jvm.MethodName) prog_12_method_40_code (1 : Nat) (Option.some Jvm.ClassFile.FieldType.int) ∈ gW0 := gl_in (i := 1078) rfl rfl
theorem gw_1079 : Jvm.Cond.methodLink "MazeDeskModel" (174 : Nat) ({ cls := "MazeDeskModel", name := "length", desc := "()I" } : Jvm.MethodName) ∈ gW0 := gl_in (i := 1079) (by decide +kernel) rfl
theorem gw_1081 : Jvm.Cond.instanceMethod ({ cls := "MazeDeskModel", name := "length", desc := "()I" } : Jvm.MethodName) ∈ gW0 := gl_in (i := 1081) (by decide +kernel) rfl
set_option maxRecDepth 100000 in
theorem gw_1082 : Jvm.Cond.code ({ cls := "MazeDeskModel", name := "length", desc := "()I" } : Jvm.MethodName) prog_12_method_38_code (6 : Nat) (Option.some Jvm.ClassFile.FieldType.int) ∈ gW0 := gl_in (i := 1082) rfl rfl
theorem gw_1083 : Jvm.Cond.methodLink "MazeDeskModel" (168 : Nat) ({ cls := "MazeDeskModel", name := "state", desc := "(II)I" } : Jvm.MethodName) ∈ gW0 := gl_in (i := 1083) (by decide +kernel) rfl
theorem gw_1085 : Jvm.Cond.instanceMethod ({ cls := "MazeDeskModel", name := "state", desc := "(II)I" } : Jvm.MethodName) ∈ gW0 := gl_in (i := 1085) (by decide +kernel) rfl
set_option maxRecDepth 100000 in
theorem gw_1086 : Jvm.Cond.code ({ cls := "MazeDeskModel", name := "state", desc := "(II)I" } : Jvm.MethodName) prog_12_method_37_code (3 : Nat) (Option.some Jvm.ClassFile.FieldType.int) ∈ gW0 := gl_in (i := 1086) rfl rfl
theorem gw_1087 : Jvm.Cond.methodLink "MazeDeskModel" (171 : Nat) ({ cls := "MazeDeskModel", name := "ends", desc := "(I)Z" } : Jvm.MethodName) ∈ gW0 := gl_in (i := 1087) (by decide +kernel) rfl
theorem gw_1089 : Jvm.Cond.instanceMethod ({ cls := "MazeDeskModel", name := "ends", desc := "(I)Z" } : Jvm.MethodName) ∈ gW0 := gl_in (i := 1089) (by decide +kernel) rfl
set_option maxRecDepth 100000 in
theorem gw_1090 : Jvm.Cond.code ({ cls := "MazeDeskModel", name := "ends", desc := "(I)Z" } : Jvm.MethodName) prog_12_method_39_code (4 : Nat) (Option.some Jvm.ClassFile.FieldType.boolean) ∈ gW0 := gl_in (i := 1090) rfl rfl
theorem gw_1091 : Jvm.Cond.methodLink "MazeDeskLaw" (101 : Nat) ({ cls := "MazeDeskModel", name := "step", desc := "(I)I" } : Jvm.MethodName) ∈ gW0 := gl_in (i := 1091) (by decide +kernel) rfl
theorem gw_1092 : Jvm.Cond.instanceMethod ({ cls := "MazeDeskModel", name := "step", desc := "(I)I" } : Jvm.MethodName) ∈ gW0 := gl_in (i := 1092) (by decide +kernel) rfl
theorem gw_1093 : Jvm.Cond.selects "MazeDeskModel" ({ cls := "MazeDeskModel", name := "step", desc := "(I)I" } : Jvm.MethodName) ({ cls := "MazeDeskModel", name := "step", desc := "(I)I" } : Jvm.MethodName) ∈ gW0 := gl_in (i := 1093) (by decide +kernel) rfl
set_option maxRecDepth 100000 in
theorem gw_1094 : Jvm.Cond.code ({ cls := "MazeDeskModel", name := "step", desc := "(I)I" } : Jvm.MethodName) prog_12_method_41_code (8 : Nat) (Option.some Jvm.ClassFile.FieldType.int) ∈ gW0 := gl_in (i := 1094) rfl rfl
theorem gw_1095 : Jvm.Cond.methodLink "MazeDeskLaw" (105 : Nat) ({ cls := "MazeDeskModel", name := "walk", desc := "(I)Z" } : Jvm.MethodName) ∈ gW0 := gl_in (i := 1095) (by decide +kernel) rfl
theorem gw_1096 : Jvm.Cond.instanceMethod ({ cls := "MazeDeskModel", name := "walk", desc := "(I)Z" } : Jvm.MethodName) ∈ gW0 := gl_in (i := 1096) (by decide +kernel) rfl
theorem gw_1097 : Jvm.Cond.selects "MazeDeskModel" ({ cls := "MazeDeskModel", name := "walk", desc := "(I)Z" } : Jvm.MethodName) ({ cls := "MazeDeskModel", name := "walk", desc := "(I)Z" } : Jvm.MethodName) ∈ gW0 := gl_in (i := 1097) (by decide +kernel) rfl
set_option maxRecDepth 100000 in
theorem gw_1098 : Jvm.Cond.code ({ cls := "MazeDeskModel", name := "walk", desc := "(I)Z" } : Jvm.MethodName) prog_12_method_42_code (3 : Nat) (Option.some Jvm.ClassFile.FieldType.boolean) ∈ gW0 := gl_in (i := 1098) rfl rfl
theorem gw_1099 : Jvm.Cond.methodLink "MazeDeskLaw" (110 : Nat) ({ cls := "MazeDeskModel", name := "again", desc := "()Z" } : Jvm.MethodName) ∈ gW0 := gl_in (i := 1099) (by decide +kernel) rfl
theorem gw_1100 : Jvm.Cond.instanceMethod ({ cls := "MazeDeskModel", name := "again", desc := "()Z" } : Jvm.MethodName) ∈ gW0 := gl_in (i := 1100) (by decide +kernel) rfl
theorem gw_1101 : Jvm.Cond.selects "MazeDeskModel" ({ cls := "MazeDeskModel", name := "again", desc := "()Z" } : Jvm.MethodName) ({ cls := "MazeDeskModel", name := "again", desc := "()Z" } : Jvm.MethodName) ∈ gW0 := gl_in (i := 1101) (by decide +kernel) rfl
set_option maxRecDepth 100000 in
theorem gw_1102 : Jvm.Cond.code ({ cls := "MazeDeskModel", name := "again", desc := "()Z" } : Jvm.MethodName) prog_12_method_43_code (1 : Nat) (Option.some Jvm.ClassFile.FieldType.boolean) ∈ gW0 := gl_in (i := 1102) rfl rfl
theorem gw_1103 : Jvm.Cond.methodLink "MazeDeskLaw" (114 : Nat) ({ cls := "MazeDeskModel", name := "player", desc := "(I)I" } : Jvm.MethodName) ∈ gW0 := gl_in (i := 1103) (by decide +kernel) rfl
theorem gw_1104 : Jvm.Cond.instanceMethod ({ cls := "MazeDeskModel", name := "player", desc := "(I)I" } : Jvm.MethodName) ∈ gW0 := gl_in (i := 1104) (by decide +kernel) rfl
theorem gw_1105 : Jvm.Cond.selects "MazeDeskModel" ({ cls := "MazeDeskModel", name := "player", desc := "(I)I" } : Jvm.MethodName) ({ cls := "MazeDeskModel", name := "player", desc := "(I)I" } : Jvm.MethodName) ∈ gW0 := gl_in (i := 1105) (by decide +kernel) rfl
set_option maxRecDepth 100000 in
theorem gw_1106 : Jvm.Cond.code ({ cls := "MazeDeskModel", name := "player", desc := "(I)I" } : Jvm.MethodName) prog_12_method_44_code (2 : Nat) (Option.some Jvm.ClassFile.FieldType.int) ∈ gW0 := gl_in (i := 1106) rfl rfl
theorem gw_1107 : Jvm.Cond.methodLink "MazeDeskLaw" (118 : Nat) ({ cls := "MazeDeskModel", name := "drawing", desc := "(I)I" } : Jvm.MethodName) ∈ gW0 := gl_in (i := 1107) (by decide +kernel) rfl
theorem gw_1108 : Jvm.Cond.instanceMethod ({ cls := "MazeDeskModel", name := "drawing", desc := "(I)I" } : Jvm.MethodName) ∈ gW0 := gl_in (i := 1108) (by decide +kernel) rfl
theorem gw_1109 : Jvm.Cond.selects "MazeDeskModel" ({ cls := "MazeDeskModel", name := "drawing", desc := "(I)I" } : Jvm.MethodName) ({ cls := "MazeDeskModel", name := "drawing", desc := "(I)I" } : Jvm.MethodName) ∈ gW0 := gl_in (i := 1109) (by decide +kernel) rfl
set_option maxRecDepth 100000 in
theorem gw_1110 : Jvm.Cond.code ({ cls := "MazeDeskModel", name := "drawing", desc := "(I)I" } : Jvm.MethodName) prog_12_method_47_code (5 : Nat) (Option.some Jvm.ClassFile.FieldType.int) ∈ gW0 := gl_in (i := 1110) rfl rfl
theorem gw_1111 : Jvm.Cond.methodLink "MazeDeskModel" (177 : Nat) ({ cls := "MazeDeskModel", name := "cellSign", desc := "(I)I" } : Jvm.MethodName) ∈ gW0 := gl_in (i := 1111) (by decide +kernel) rfl
theorem gw_1113 : Jvm.Cond.instanceMethod ({ cls := "MazeDeskModel", name := "cellSign", desc := "(I)I" } : Jvm.MethodName) ∈ gW0 := gl_in (i := 1113) (by decide +kernel) rfl
set_option maxRecDepth 100000 in
theorem gw_1114 : Jvm.Cond.code ({ cls := "MazeDeskModel", name := "cellSign", desc := "(I)I" } : Jvm.MethodName) prog_12_method_45_code (4 : Nat) (Option.some Jvm.ClassFile.FieldType.int) ∈ gW0 := gl_in (i := 1114) rfl rfl
theorem gw_1115 : Jvm.Cond.methodLink "MazeDeskModel" (180 : Nat) ({ cls := "MazeDeskModel", name := "passageSign", desc := "(II)I" } : Jvm.MethodName) ∈ gW0 := gl_in (i := 1115) (by decide +kernel) rfl
theorem gw_1117 : Jvm.Cond.instanceMethod ({ cls := "MazeDeskModel", name := "passageSign", desc := "(II)I" } : Jvm.MethodName) ∈ gW0 := gl_in (i := 1117) (by decide +kernel) rfl
set_option maxRecDepth 100000 in
theorem gw_1118 : Jvm.Cond.code ({ cls := "MazeDeskModel", name := "passageSign", desc := "(II)I" } : Jvm.MethodName) prog_12_method_46_code (4 : Nat) (Option.some Jvm.ClassFile.FieldType.int) ∈ gW0 := gl_in (i := 1118) rfl rfl
theorem inW0 : ∀ w ∈ u_ws RX0 TX0 8, w ∈ gW0 := (show ∀ w ∈ [u_lay RX0 TX0 0, u_lay RX0 TX0 1, u_lay RX0 TX0 2, u_lay RX0 TX0 3, u_lay RX0 TX0 4, u_lay RX0 TX0 5, u_lay RX0 TX0 6, u_lay RX0 TX0 7], w ∈ gW0 from List.forall_mem_cons.mpr ⟨gw_113, List.forall_mem_cons.mpr ⟨gw_115, List.forall_mem_cons.mpr ⟨gw_117, List.forall_mem_cons.mpr ⟨gw_119, List.forall_mem_cons.mpr ⟨gw_121, List.forall_mem_cons.mpr ⟨gw_123, List.forall_mem_cons.mpr ⟨gw_125, List.forall_mem_cons.mpr ⟨gw_127, fun _ h => absurd h List.not_mem_nil⟩⟩⟩⟩⟩⟩⟩⟩)
theorem inW1 : ∀ w ∈ u_ws RX1 TX1 5, w ∈ gW0 := (show ∀ w ∈ [u_lay RX1 TX1 0, u_lay RX1 TX1 1, u_lay RX1 TX1 2, u_lay RX1 TX1 3, u_lay RX1 TX1 4], w ∈ gW0 from List.forall_mem_cons.mpr ⟨gw_234, List.forall_mem_cons.mpr ⟨gw_236, List.forall_mem_cons.mpr ⟨gw_238, List.forall_mem_cons.mpr ⟨gw_240, List.forall_mem_cons.mpr ⟨gw_242, fun _ h => absurd h List.not_mem_nil⟩⟩⟩⟩⟩)
theorem inW2 : ∀ w ∈ u_ws RX2 TX2 3, w ∈ gW0 := (show ∀ w ∈ [u_lay RX2 TX2 0, u_lay RX2 TX2 1, u_lay RX2 TX2 2], w ∈ gW0 from List.forall_mem_cons.mpr ⟨gw_254, List.forall_mem_cons.mpr ⟨gw_256, List.forall_mem_cons.mpr ⟨gw_258, fun _ h => absurd h List.not_mem_nil⟩⟩⟩)
theorem inW3 : ∀ w ∈ u_ws RX3 TX3 8, w ∈ gW0 := (show ∀ w ∈ [u_lay RX3 TX3 0, u_lay RX3 TX3 1, u_lay RX3 TX3 2, u_lay RX3 TX3 3, u_lay RX3 TX3 4, u_lay RX3 TX3 5, u_lay RX3 TX3 6, u_lay RX3 TX3 7], w ∈ gW0 from List.forall_mem_cons.mpr ⟨gw_205, List.forall_mem_cons.mpr ⟨gw_207, List.forall_mem_cons.mpr ⟨gw_209, List.forall_mem_cons.mpr ⟨gw_211, List.forall_mem_cons.mpr ⟨gw_213, List.forall_mem_cons.mpr ⟨gw_215, List.forall_mem_cons.mpr ⟨gw_217, List.forall_mem_cons.mpr ⟨gw_219, fun _ h => absurd h List.not_mem_nil⟩⟩⟩⟩⟩⟩⟩⟩)
theorem inW4 : ∀ w ∈ u_ws RX4 TX4 2, w ∈ gW0 := (show ∀ w ∈ [u_lay RX4 TX4 0, u_lay RX4 TX4 1], w ∈ gW0 from List.forall_mem_cons.mpr ⟨gw_320, List.forall_mem_cons.mpr ⟨gw_322, fun _ h => absurd h List.not_mem_nil⟩⟩)
theorem inW5 : ∀ w ∈ u_ws RX5 TX5 8, w ∈ gW0 := (show ∀ w ∈ [u_lay RX5 TX5 0, u_lay RX5 TX5 1, u_lay RX5 TX5 2, u_lay RX5 TX5 3, u_lay RX5 TX5 4, u_lay RX5 TX5 5, u_lay RX5 TX5 6, u_lay RX5 TX5 7], w ∈ gW0 from List.forall_mem_cons.mpr ⟨gw_276, List.forall_mem_cons.mpr ⟨gw_278, List.forall_mem_cons.mpr ⟨gw_280, List.forall_mem_cons.mpr ⟨gw_282, List.forall_mem_cons.mpr ⟨gw_284, List.forall_mem_cons.mpr ⟨gw_286, List.forall_mem_cons.mpr ⟨gw_288, List.forall_mem_cons.mpr ⟨gw_290, fun _ h => absurd h List.not_mem_nil⟩⟩⟩⟩⟩⟩⟩⟩)
theorem inW6 : ∀ w ∈ u_ws RX6 TX6 8, w ∈ gW0 := (show ∀ w ∈ [u_lay RX6 TX6 0, u_lay RX6 TX6 1, u_lay RX6 TX6 2, u_lay RX6 TX6 3, u_lay RX6 TX6 4, u_lay RX6 TX6 5, u_lay RX6 TX6 6, u_lay RX6 TX6 7], w ∈ gW0 from List.forall_mem_cons.mpr ⟨gw_150, List.forall_mem_cons.mpr ⟨gw_152, List.forall_mem_cons.mpr ⟨gw_154, List.forall_mem_cons.mpr ⟨gw_156, List.forall_mem_cons.mpr ⟨gw_158, List.forall_mem_cons.mpr ⟨gw_160, List.forall_mem_cons.mpr ⟨gw_162, List.forall_mem_cons.mpr ⟨gw_164, fun _ h => absurd h List.not_mem_nil⟩⟩⟩⟩⟩⟩⟩⟩)
theorem inW7 : ∀ w ∈ u_ws RX7 TX7 3, w ∈ gW0 := (show ∀ w ∈ [u_lay RX7 TX7 0, u_lay RX7 TX7 1, u_lay RX7 TX7 2], w ∈ gW0 from List.forall_mem_cons.mpr ⟨gw_179, List.forall_mem_cons.mpr ⟨gw_181, List.forall_mem_cons.mpr ⟨gw_183, fun _ h => absurd h List.not_mem_nil⟩⟩⟩)
theorem inW8 : ∀ w ∈ u_ws RX8 TX8 4, w ∈ gW0 := (show ∀ w ∈ [u_lay RX8 TX8 0, u_lay RX8 TX8 1, u_lay RX8 TX8 2, u_lay RX8 TX8 3], w ∈ gW0 from List.forall_mem_cons.mpr ⟨gw_303, List.forall_mem_cons.mpr ⟨gw_305, List.forall_mem_cons.mpr ⟨gw_307, List.forall_mem_cons.mpr ⟨gw_309, fun _ h => absurd h List.not_mem_nil⟩⟩⟩⟩)
theorem inW9 : ∀ w ∈ u_ws RX9 TX9 10, w ∈ gW0 := (show ∀ w ∈ [u_lay RX9 TX9 0, u_lay RX9 TX9 1, u_lay RX9 TX9 2, u_lay RX9 TX9 3, u_lay RX9 TX9 4, u_lay RX9 TX9 5, u_lay RX9 TX9 6, u_lay RX9 TX9 7, u_lay RX9 TX9 8, u_lay RX9 TX9 9], w ∈ gW0 from List.forall_mem_cons.mpr ⟨gw_335, List.forall_mem_cons.mpr ⟨gw_337, List.forall_mem_cons.mpr ⟨gw_339, List.forall_mem_cons.mpr ⟨gw_341, List.forall_mem_cons.mpr ⟨gw_343, List.forall_mem_cons.mpr ⟨gw_345, List.forall_mem_cons.mpr ⟨gw_347, List.forall_mem_cons.mpr ⟨gw_349, List.forall_mem_cons.mpr ⟨gw_351, List.forall_mem_cons.mpr ⟨gw_353, fun _ h => absurd h List.not_mem_nil⟩⟩⟩⟩⟩⟩⟩⟩⟩⟩)
theorem inW10 : ∀ w ∈ u_ws RX10 TX10 26, w ∈ gW0 := (show ∀ w ∈ [u_lay RX10 TX10 0, u_lay RX10 TX10 1, u_lay RX10 TX10 2, u_lay RX10 TX10 3, u_lay RX10 TX10 4, u_lay RX10 TX10 5, u_lay RX10 TX10 6, u_lay RX10 TX10 7, u_lay RX10 TX10 8, u_lay RX10 TX10 9, u_lay RX10 TX10 10, u_lay RX10 TX10 11, u_lay RX10 TX10 12, u_lay RX10 TX10 13, u_lay RX10 TX10 14, u_lay RX10 TX10 15, u_lay RX10 TX10 16, u_lay RX10 TX10 17, u_lay RX10 TX10 18, u_lay RX10 TX10 19, u_lay RX10 TX10 20, u_lay RX10 TX10 21, u_lay RX10 TX10 22, u_lay RX10 TX10 23, u_lay RX10 TX10 24, u_lay RX10 TX10 25], w ∈ gW0 from List.forall_mem_cons.mpr ⟨gw_880, List.forall_mem_cons.mpr ⟨gw_882, List.forall_mem_cons.mpr ⟨gw_884, List.forall_mem_cons.mpr ⟨gw_886, List.forall_mem_cons.mpr ⟨gw_888, List.forall_mem_cons.mpr ⟨gw_890, List.forall_mem_cons.mpr ⟨gw_892, List.forall_mem_cons.mpr ⟨gw_894, List.forall_mem_cons.mpr ⟨gw_896, List.forall_mem_cons.mpr ⟨gw_898, List.forall_mem_cons.mpr ⟨gw_900, List.forall_mem_cons.mpr ⟨gw_902, List.forall_mem_cons.mpr ⟨gw_904, List.forall_mem_cons.mpr ⟨gw_906, List.forall_mem_cons.mpr ⟨gw_908, List.forall_mem_cons.mpr ⟨gw_910, List.forall_mem_cons.mpr ⟨gw_912, List.forall_mem_cons.mpr ⟨gw_914, List.forall_mem_cons.mpr ⟨gw_916, List.forall_mem_cons.mpr ⟨gw_918, List.forall_mem_cons.mpr ⟨gw_920, List.forall_mem_cons.mpr ⟨gw_922, List.forall_mem_cons.mpr ⟨gw_924, List.forall_mem_cons.mpr ⟨gw_926, List.forall_mem_cons.mpr ⟨gw_928, List.forall_mem_cons.mpr ⟨gw_930, fun _ h => absurd h List.not_mem_nil⟩⟩⟩⟩⟩⟩⟩⟩⟩⟩⟩⟩⟩⟩⟩⟩⟩⟩⟩⟩⟩⟩⟩⟩⟩⟩)
theorem gl_arr : ∀ t ∈ [FieldType.int, .boolean, .long, .byte], Cond.arrayClass t ∈ gW0 := by
  intro t ht
  simp only [List.mem_cons, List.not_mem_nil, or_false] at ht
  rcases ht with rfl | rfl | rfl | rfl
  · exact gw_131
  · exact gw_130
  · exact gw_186
  · exact gw_844
