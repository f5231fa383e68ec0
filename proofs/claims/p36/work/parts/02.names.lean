/-! ===== BEGIN printed: names, fields, word lists, decode rows ===== -/
def RX0 : String := "LatticePaths$Board"
def TX0 : u_T := fun k => match k with
  | 0 => ("LatticePaths$Board", "trails", "[LLatticePaths$Trail;", true)
  | 1 => ("LatticePaths$Board", "pathCount", "I", false)
  | 2 => ("LatticePaths$Board", "stepsMade", "I", false)
  | 3 => ("LatticePaths$Board", "refusals", "I", false)
  | 4 => ("LatticePaths$Board", "turnsMade", "I", false)
  | 5 => ("LatticePaths$Board", "pathAt", "[I", true)
  | 6 => ("LatticePaths$Board", "placeAt", "[I", true)
  | _ => ("LatticePaths$Board", "takenSites", "I", false)
def tyX0 : Nat → FieldType := fun k => match k with
  | 0 => .array (.object "LatticePaths$Trail")
  | 1 => .int
  | 2 => .int
  | 3 => .int
  | 4 => .int
  | 5 => .array .int
  | 6 => .array .int
  | _ => .int
abbrev wsX00 : List Cond := u_ws RX0 TX0 8
theorem nmX0 : ∀ a, a < 8 → ∀ b, b < 8 → a ≠ b → (TX0 a).2.1 ≠ (TX0 b).2.1 := by decide +kernel
theorem tyX0_ok : ∀ k, k < 8 → parseFieldDescriptor (TX0 k).2.2.1 = some (tyX0 k) := by decide +kernel
abbrev cX0_init : ByteArray := prog_2_method_1_code
def yX0_init : MethodName := ⟨RX0, "<init>", "()V"⟩
abbrev cX0_markSites : ByteArray := prog_2_method_2_code
def yX0_markSites : MethodName := ⟨RX0, "markSites", "()V"⟩
abbrev cX0_mark : ByteArray := prog_2_method_3_code
def yX0_mark : MethodName := ⟨RX0, "mark", "(III)V"⟩
abbrev cX0_pathCount : ByteArray := prog_2_method_4_code
def yX0_pathCount : MethodName := ⟨RX0, "pathCount", "()I"⟩
abbrev cX0_isFull : ByteArray := prog_2_method_5_code
def yX0_isFull : MethodName := ⟨RX0, "isFull", "()Z"⟩
abbrev cX0_trail : ByteArray := prog_2_method_6_code
def yX0_trail : MethodName := ⟨RX0, "trail", "(I)LLatticePaths$Trail;"⟩
abbrev cX0_pathAt : ByteArray := prog_2_method_7_code
def yX0_pathAt : MethodName := ⟨RX0, "pathAt", "(I)I"⟩
abbrev cX0_placeAt : ByteArray := prog_2_method_8_code
def yX0_placeAt : MethodName := ⟨RX0, "placeAt", "(I)I"⟩
abbrev cX0_isFree : ByteArray := prog_2_method_9_code
def yX0_isFree : MethodName := ⟨RX0, "isFree", "(I)Z"⟩
abbrev cX0_takenSites : ByteArray := prog_2_method_10_code
def yX0_takenSites : MethodName := ⟨RX0, "takenSites", "()I"⟩
abbrev cX0_stepsMade : ByteArray := prog_2_method_11_code
def yX0_stepsMade : MethodName := ⟨RX0, "stepsMade", "()I"⟩
abbrev cX0_refusals : ByteArray := prog_2_method_12_code
def yX0_refusals : MethodName := ⟨RX0, "refusals", "()I"⟩
abbrev cX0_turnsMade : ByteArray := prog_2_method_13_code
def yX0_turnsMade : MethodName := ⟨RX0, "turnsMade", "()I"⟩
abbrev cX0_add : ByteArray := prog_2_method_14_code
def yX0_add : MethodName := ⟨RX0, "add", "(LLatticePaths$Trail;)I"⟩
abbrev cX0_lengthen : ByteArray := prog_2_method_15_code
def yX0_lengthen : MethodName := ⟨RX0, "lengthen", "(II)I"⟩
abbrev cX0_creep : ByteArray := prog_2_method_16_code
def yX0_creep : MethodName := ⟨RX0, "creep", "(II)I"⟩
abbrev cX0_refusalAt : ByteArray := prog_2_method_17_code
def yX0_refusalAt : MethodName := ⟨RX0, "refusalAt", "(II)I"⟩
abbrev cX0_noteStep : ByteArray := prog_2_method_18_code
def yX0_noteStep : MethodName := ⟨RX0, "noteStep", "(I)V"⟩
abbrev cX0_noteTurn : ByteArray := prog_2_method_19_code
def yX0_noteTurn : MethodName := ⟨RX0, "noteTurn", "(I)V"⟩
abbrev cX0_shorten : ByteArray := prog_2_method_20_code
def yX0_shorten : MethodName := ⟨RX0, "shorten", "(I)I"⟩
abbrev cX0_flip : ByteArray := prog_2_method_21_code
def yX0_flip : MethodName := ⟨RX0, "flip", "(I)I"⟩
abbrev cX0_weld : ByteArray := prog_2_method_22_code
def yX0_weld : MethodName := ⟨RX0, "weld", "(II)I"⟩
abbrev cX0_cut : ByteArray := prog_2_method_23_code
def yX0_cut : MethodName := ⟨RX0, "cut", "(II)I"⟩
abbrev cX0_drop : ByteArray := prog_2_method_24_code
def yX0_drop : MethodName := ⟨RX0, "drop", "(I)V"⟩
abbrev cX0_freeDirections : ByteArray := prog_2_method_25_code
def yX0_freeDirections : MethodName := ⟨RX0, "freeDirections", "(I)I"⟩
abbrev cX0_contacts : ByteArray := prog_2_method_26_code
def yX0_contacts : MethodName := ⟨RX0, "contacts", "(I)I"⟩
abbrev cX0_touchingPairs : ByteArray := prog_2_method_27_code
def yX0_touchingPairs : MethodName := ⟨RX0, "touchingPairs", "(II)I"⟩
abbrev cX0_freeBorder : ByteArray := prog_2_method_28_code
def yX0_freeBorder : MethodName := ⟨RX0, "freeBorder", "(I)I"⟩
abbrev cX0_neighboursIn : ByteArray := prog_2_method_29_code
def yX0_neighboursIn : MethodName := ⟨RX0, "neighboursIn", "(II)I"⟩
def RX1 : String := "LatticePaths$History"
def TX1 : u_T := fun k => match k with
  | 0 => ("LatticePaths$History", "ring", "[LLatticePaths$SavedState;", true)
  | 1 => ("LatticePaths$History", "oldest", "I", false)
  | _ => ("LatticePaths$History", "size", "I", false)
def tyX1 : Nat → FieldType := fun k => match k with
  | 0 => .array (.object "LatticePaths$SavedState")
  | 1 => .int
  | _ => .int
abbrev wsX10 : List Cond := u_ws RX1 TX1 3
theorem nmX1 : ∀ a, a < 3 → ∀ b, b < 3 → a ≠ b → (TX1 a).2.1 ≠ (TX1 b).2.1 := by decide +kernel
theorem tyX1_ok : ∀ k, k < 3 → parseFieldDescriptor (TX1 k).2.2.1 = some (tyX1 k) := by decide +kernel
abbrev cX1_init : ByteArray := prog_3_method_1_code
def yX1_init : MethodName := ⟨RX1, "<init>", "()V"⟩
abbrev cX1_size : ByteArray := prog_3_method_2_code
def yX1_size : MethodName := ⟨RX1, "size", "()I"⟩
abbrev cX1_save : ByteArray := prog_3_method_3_code
def yX1_save : MethodName := ⟨RX1, "save", "(LLatticePaths$Board;)V"⟩
abbrev cX1_restoreLast : ByteArray := prog_3_method_4_code
def yX1_restoreLast : MethodName := ⟨RX1, "restoreLast", "(LLatticePaths$Board;)V"⟩
def RX2 : String := "LatticePaths$Lattice"
def TX2 : u_T := fun k => match k with
  | _ => ("", "", "", false)
def tyX2 : Nat → FieldType := fun k => match k with
  | _ => .int
abbrev wsX20 : List Cond := u_ws RX2 TX2 0
theorem nmX2 : ∀ a, a < 0 → ∀ b, b < 0 → a ≠ b → (TX2 a).2.1 ≠ (TX2 b).2.1 := by decide +kernel
theorem tyX2_ok : ∀ k, k < 0 → parseFieldDescriptor (TX2 k).2.2.1 = some (tyX2 k) := by decide +kernel
abbrev cX2_number : ByteArray := prog_4_method_2_code
def yX2_number : MethodName := ⟨RX2, "number", "(II)I"⟩
abbrev cX2_isSite : ByteArray := prog_4_method_3_code
def yX2_isSite : MethodName := ⟨RX2, "isSite", "(I)Z"⟩
abbrev cX2_column : ByteArray := prog_4_method_4_code
def yX2_column : MethodName := ⟨RX2, "column", "(I)I"⟩
abbrev cX2_row : ByteArray := prog_4_method_5_code
def yX2_row : MethodName := ⟨RX2, "row", "(I)I"⟩
abbrev cX2_neighbour : ByteArray := prog_4_method_6_code
def yX2_neighbour : MethodName := ⟨RX2, "neighbour", "(II)I"⟩
abbrev cX2_direction : ByteArray := prog_4_method_7_code
def yX2_direction : MethodName := ⟨RX2, "direction", "(II)I"⟩
abbrev cX2_squaredDistance : ByteArray := prog_4_method_8_code
def yX2_squaredDistance : MethodName := ⟨RX2, "squaredDistance", "(II)I"⟩
abbrev cX2_areNeighbours : ByteArray := prog_4_method_9_code
def yX2_areNeighbours : MethodName := ⟨RX2, "areNeighbours", "(II)Z"⟩
def RX3 : String := "LatticePaths$PathText"
def TX3 : u_T := fun k => match k with
  | 0 => ("LatticePaths$PathText", "characters", "[C", true)
  | _ => ("LatticePaths$PathText", "length", "I", false)
def tyX3 : Nat → FieldType := fun k => match k with
  | 0 => .array .char
  | _ => .int
abbrev wsX30 : List Cond := u_ws RX3 TX3 2
theorem nmX3 : ∀ a, a < 2 → ∀ b, b < 2 → a ≠ b → (TX3 a).2.1 ≠ (TX3 b).2.1 := by decide +kernel
theorem tyX3_ok : ∀ k, k < 2 → parseFieldDescriptor (TX3 k).2.2.1 = some (tyX3 k) := by decide +kernel
abbrev cX3_init : ByteArray := prog_5_method_1_code
def yX3_init : MethodName := ⟨RX3, "<init>", "()V"⟩
abbrev cX3_length : ByteArray := prog_5_method_2_code
def yX3_length : MethodName := ⟨RX3, "length", "()I"⟩
def RX4 : String := "LatticePaths$Regions"
def TX4 : u_T := fun k => match k with
  | 0 => ("LatticePaths$Regions", "regionAt", "[I", true)
  | 1 => ("LatticePaths$Regions", "siteCounts", "[I", true)
  | 2 => ("LatticePaths$Regions", "chosen", "[Z", true)
  | 3 => ("LatticePaths$Regions", "found", "[I", true)
  | _ => ("LatticePaths$Regions", "size", "I", false)
def tyX4 : Nat → FieldType := fun k => match k with
  | 0 => .array .int
  | 1 => .array .int
  | 2 => .array .boolean
  | 3 => .array .int
  | _ => .int
abbrev wsX40 : List Cond := u_ws RX4 TX4 5
theorem nmX4 : ∀ a, a < 5 → ∀ b, b < 5 → a ≠ b → (TX4 a).2.1 ≠ (TX4 b).2.1 := by decide +kernel
theorem tyX4_ok : ∀ k, k < 5 → parseFieldDescriptor (TX4 k).2.2.1 = some (tyX4 k) := by decide +kernel
abbrev cX4_init : ByteArray := prog_6_method_1_code
def yX4_init : MethodName := ⟨RX4, "<init>", "()V"⟩
def RX5 : String := "LatticePaths$SavedState"
def TX5 : u_T := fun k => match k with
  | 0 => ("LatticePaths$SavedState", "sites", "[I", true)
  | 1 => ("LatticePaths$SavedState", "lengths", "[I", true)
  | 2 => ("LatticePaths$SavedState", "pathCount", "I", false)
  | 3 => ("LatticePaths$SavedState", "stepsMade", "I", false)
  | 4 => ("LatticePaths$SavedState", "refusals", "I", false)
  | _ => ("LatticePaths$SavedState", "turnsMade", "I", false)
def tyX5 : Nat → FieldType := fun k => match k with
  | 0 => .array .int
  | 1 => .array .int
  | 2 => .int
  | 3 => .int
  | 4 => .int
  | _ => .int
abbrev wsX50 : List Cond := u_ws RX5 TX5 6
theorem nmX5 : ∀ a, a < 6 → ∀ b, b < 6 → a ≠ b → (TX5 a).2.1 ≠ (TX5 b).2.1 := by decide +kernel
theorem tyX5_ok : ∀ k, k < 6 → parseFieldDescriptor (TX5 k).2.2.1 = some (tyX5 k) := by decide +kernel
abbrev cX5_init : ByteArray := prog_7_method_1_code
def yX5_init : MethodName := ⟨RX5, "<init>", "()V"⟩
abbrev cX5_take : ByteArray := prog_7_method_2_code
def yX5_take : MethodName := ⟨RX5, "take", "(LLatticePaths$Board;)V"⟩
abbrev cX5_putInto : ByteArray := prog_7_method_3_code
def yX5_putInto : MethodName := ⟨RX5, "putInto", "(LLatticePaths$Board;)V"⟩
def RX6 : String := "LatticePaths$Scout"
def TX6 : u_T := fun k => match k with
  | _ => ("LatticePaths$Scout", "taken", "[Z", true)
def tyX6 : Nat → FieldType := fun k => match k with
  | _ => .array .boolean
abbrev wsX60 : List Cond := u_ws RX6 TX6 1
theorem nmX6 : ∀ a, a < 1 → ∀ b, b < 1 → a ≠ b → (TX6 a).2.1 ≠ (TX6 b).2.1 := by decide +kernel
theorem tyX6_ok : ∀ k, k < 1 → parseFieldDescriptor (TX6 k).2.2.1 = some (tyX6 k) := by decide +kernel
abbrev cX6_init : ByteArray := prog_8_method_1_code
def yX6_init : MethodName := ⟨RX6, "<init>", "()V"⟩
def RX7 : String := "LatticePaths$Shape"
def TX7 : u_T := fun k => match k with
  | 0 => ("LatticePaths$Shape", "fromTail", "[I", true)
  | 1 => ("LatticePaths$Shape", "fromHead", "[I", true)
  | 2 => ("LatticePaths$Shape", "view", "[I", true)
  | 3 => ("LatticePaths$Shape", "least", "[I", true)
  | _ => ("LatticePaths$Shape", "steps", "I", false)
def tyX7 : Nat → FieldType := fun k => match k with
  | 0 => .array .int
  | 1 => .array .int
  | 2 => .array .int
  | 3 => .array .int
  | _ => .int
abbrev wsX70 : List Cond := u_ws RX7 TX7 5
theorem nmX7 : ∀ a, a < 5 → ∀ b, b < 5 → a ≠ b → (TX7 a).2.1 ≠ (TX7 b).2.1 := by decide +kernel
theorem tyX7_ok : ∀ k, k < 5 → parseFieldDescriptor (TX7 k).2.2.1 = some (tyX7 k) := by decide +kernel
abbrev cX7_init : ByteArray := prog_9_method_1_code
def yX7_init : MethodName := ⟨RX7, "<init>", "()V"⟩
def RX8 : String := "LatticePaths$Snapshots"
def TX8 : u_T := fun k => match k with
  | 0 => ("LatticePaths$Snapshots", "slots", "[LLatticePaths$SavedState;", true)
  | _ => ("LatticePaths$Snapshots", "taken", "[Z", true)
def tyX8 : Nat → FieldType := fun k => match k with
  | 0 => .array (.object "LatticePaths$SavedState")
  | _ => .array .boolean
abbrev wsX80 : List Cond := u_ws RX8 TX8 2
theorem nmX8 : ∀ a, a < 2 → ∀ b, b < 2 → a ≠ b → (TX8 a).2.1 ≠ (TX8 b).2.1 := by decide +kernel
theorem tyX8_ok : ∀ k, k < 2 → parseFieldDescriptor (TX8 k).2.2.1 = some (tyX8 k) := by decide +kernel
abbrev cX8_init : ByteArray := prog_10_method_1_code
def yX8_init : MethodName := ⟨RX8, "<init>", "()V"⟩
def RX9 : String := "LatticePaths$Trail"
def TX9 : u_T := fun k => match k with
  | 0 => ("LatticePaths$Trail", "sites", "[I", true)
  | _ => ("LatticePaths$Trail", "length", "I", false)
def tyX9 : Nat → FieldType := fun k => match k with
  | 0 => .array .int
  | _ => .int
abbrev wsX90 : List Cond := u_ws RX9 TX9 2
theorem nmX9 : ∀ a, a < 2 → ∀ b, b < 2 → a ≠ b → (TX9 a).2.1 ≠ (TX9 b).2.1 := by decide +kernel
theorem tyX9_ok : ∀ k, k < 2 → parseFieldDescriptor (TX9 k).2.2.1 = some (tyX9 k) := by decide +kernel
abbrev cX9_init : ByteArray := prog_11_method_1_code
def yX9_init : MethodName := ⟨RX9, "<init>", "()V"⟩
abbrev cX9_length : ByteArray := prog_11_method_2_code
def yX9_length : MethodName := ⟨RX9, "length", "()I"⟩
abbrev cX9_isFull : ByteArray := prog_11_method_3_code
def yX9_isFull : MethodName := ⟨RX9, "isFull", "()Z"⟩
abbrev cX9_has : ByteArray := prog_11_method_4_code
def yX9_has : MethodName := ⟨RX9, "has", "(I)Z"⟩
abbrev cX9_at : ByteArray := prog_11_method_5_code
def yX9_at : MethodName := ⟨RX9, "at", "(I)I"⟩
abbrev cX9_tail : ByteArray := prog_11_method_6_code
def yX9_tail : MethodName := ⟨RX9, "tail", "()I"⟩
abbrev cX9_head : ByteArray := prog_11_method_7_code
def yX9_head : MethodName := ⟨RX9, "head", "()I"⟩
abbrev cX9_clear : ByteArray := prog_11_method_9_code
def yX9_clear : MethodName := ⟨RX9, "clear", "()V"⟩
abbrev cX9_begin : ByteArray := prog_11_method_10_code
def yX9_begin : MethodName := ⟨RX9, "begin", "(I)V"⟩
abbrev cX9_push : ByteArray := prog_11_method_11_code
def yX9_push : MethodName := ⟨RX9, "push", "(I)V"⟩
abbrev cX9_put : ByteArray := prog_11_method_12_code
def yX9_put : MethodName := ⟨RX9, "put", "(II)V"⟩
abbrev cX9_endAt : ByteArray := prog_11_method_13_code
def yX9_endAt : MethodName := ⟨RX9, "endAt", "(I)V"⟩
abbrev cX9_advanceTo : ByteArray := prog_11_method_14_code
def yX9_advanceTo : MethodName := ⟨RX9, "advanceTo", "(I)V"⟩
abbrev cX9_copyFrom : ByteArray := prog_11_method_15_code
def yX9_copyFrom : MethodName := ⟨RX9, "copyFrom", "(LLatticePaths$Trail;I)V"⟩
abbrev cX9_flip : ByteArray := prog_11_method_16_code
def yX9_flip : MethodName := ⟨RX9, "flip", "()V"⟩
abbrev cX9_steps : ByteArray := prog_11_method_17_code
def yX9_steps : MethodName := ⟨RX9, "steps", "()I"⟩
abbrev cX9_stepAt : ByteArray := prog_11_method_18_code
def yX9_stepAt : MethodName := ⟨RX9, "stepAt", "(I)I"⟩
abbrev cX9_corners : ByteArray := prog_11_method_19_code
def yX9_corners : MethodName := ⟨RX9, "corners", "()I"⟩
abbrev cX9_width : ByteArray := prog_11_method_20_code
def yX9_width : MethodName := ⟨RX9, "width", "()I"⟩
abbrev cX9_height : ByteArray := prog_11_method_21_code
def yX9_height : MethodName := ⟨RX9, "height", "()I"⟩
abbrev cX9_moment : ByteArray := prog_11_method_22_code
def yX9_moment : MethodName := ⟨RX9, "moment", "()I"⟩
def RX10 : String := "LatticePaths$Turning"
def TX10 : u_T := fun k => match k with
  | _ => ("LatticePaths$Turning", "landings", "[I", true)
def tyX10 : Nat → FieldType := fun k => match k with
  | _ => .array .int
abbrev wsX100 : List Cond := u_ws RX10 TX10 1
theorem nmX10 : ∀ a, a < 1 → ∀ b, b < 1 → a ≠ b → (TX10 a).2.1 ≠ (TX10 b).2.1 := by decide +kernel
theorem tyX10_ok : ∀ k, k < 1 → parseFieldDescriptor (TX10 k).2.2.1 = some (tyX10 k) := by decide +kernel
abbrev cX10_init : ByteArray := prog_12_method_1_code
def yX10_init : MethodName := ⟨RX10, "<init>", "()V"⟩
abbrev cX10_refusal : ByteArray := prog_12_method_2_code
def yX10_refusal : MethodName := ⟨RX10, "refusal", "(LLatticePaths$Board;III)I"⟩
abbrev cX10_land : ByteArray := prog_12_method_3_code
def yX10_land : MethodName := ⟨RX10, "land", "(LLatticePaths$Trail;II)Z"⟩
abbrev cX10_swung : ByteArray := prog_12_method_4_code
def yX10_swung : MethodName := ⟨RX10, "swung", "(III)I"⟩
abbrev cX10_moveSites : ByteArray := prog_12_method_5_code
def yX10_moveSites : MethodName := ⟨RX10, "moveSites", "(LLatticePaths$Board;II)V"⟩
def RX11 : String := "LatticePaths"
def TX11 : u_T := fun k => match k with
  | 0 => ("LatticePaths", "board", "LLatticePaths$Board;", true)
  | 1 => ("LatticePaths", "history", "LLatticePaths$History;", true)
  | 2 => ("LatticePaths", "snapshots", "LLatticePaths$Snapshots;", true)
  | 3 => ("LatticePaths", "text", "LLatticePaths$PathText;", true)
  | 4 => ("LatticePaths", "sketch", "LLatticePaths$Trail;", true)
  | 5 => ("LatticePaths", "turning", "LLatticePaths$Turning;", true)
  | 6 => ("LatticePaths", "scout", "LLatticePaths$Scout;", true)
  | 7 => ("LatticePaths", "regions", "LLatticePaths$Regions;", true)
  | 8 => ("LatticePaths", "foundShape", "LLatticePaths$Shape;", true)
  | _ => ("LatticePaths", "otherShape", "LLatticePaths$Shape;", true)
def tyX11 : Nat → FieldType := fun k => match k with
  | 0 => .object "LatticePaths$Board"
  | 1 => .object "LatticePaths$History"
  | 2 => .object "LatticePaths$Snapshots"
  | 3 => .object "LatticePaths$PathText"
  | 4 => .object "LatticePaths$Trail"
  | 5 => .object "LatticePaths$Turning"
  | 6 => .object "LatticePaths$Scout"
  | 7 => .object "LatticePaths$Regions"
  | 8 => .object "LatticePaths$Shape"
  | _ => .object "LatticePaths$Shape"
abbrev wsX110 : List Cond := u_ws RX11 TX11 10
theorem nmX11 : ∀ a, a < 10 → ∀ b, b < 10 → a ≠ b → (TX11 a).2.1 ≠ (TX11 b).2.1 := by decide +kernel
theorem tyX11_ok : ∀ k, k < 10 → parseFieldDescriptor (TX11 k).2.2.1 = some (tyX11 k) := by decide +kernel
abbrev cX11_init : ByteArray := prog_1_method_1_code
def yX11_init : MethodName := ⟨RX11, "<init>", "()V"⟩
abbrev cX11_start : ByteArray := prog_1_method_2_code
def yX11_start : MethodName := ⟨RX11, "start", "(II)I"⟩
abbrev cX11_step : ByteArray := prog_1_method_3_code
def yX11_step : MethodName := ⟨RX11, "step", "(II)I"⟩
abbrev cX11_back : ByteArray := prog_1_method_4_code
def yX11_back : MethodName := ⟨RX11, "back", "(I)I"⟩
abbrev cX11_slither : ByteArray := prog_1_method_5_code
def yX11_slither : MethodName := ⟨RX11, "slither", "(II)I"⟩
abbrev cX11_turn : ByteArray := prog_1_method_6_code
def yX11_turn : MethodName := ⟨RX11, "turn", "(III)I"⟩
abbrev cX11_reverse : ByteArray := prog_1_method_7_code
def yX11_reverse : MethodName := ⟨RX11, "reverse", "(I)I"⟩
abbrev cX11_join : ByteArray := prog_1_method_8_code
def yX11_join : MethodName := ⟨RX11, "join", "(II)I"⟩
abbrev cX11_split : ByteArray := prog_1_method_9_code
def yX11_split : MethodName := ⟨RX11, "split", "(II)I"⟩
abbrev cX11_remove : ByteArray := prog_1_method_10_code
def yX11_remove : MethodName := ⟨RX11, "remove", "(I)I"⟩
abbrev cX11_undo : ByteArray := prog_1_method_16_code
def yX11_undo : MethodName := ⟨RX11, "undo", "()I"⟩
abbrev cX11_site : ByteArray := prog_1_method_19_code
def yX11_site : MethodName := ⟨RX11, "site", "(III)I"⟩
abbrev cX11_place : ByteArray := prog_1_method_20_code
def yX11_place : MethodName := ⟨RX11, "place", "(II)I"⟩
abbrev cX11_path : ByteArray := prog_1_method_21_code
def yX11_path : MethodName := ⟨RX11, "path", "(II)I"⟩
abbrev cX11_trapped : ByteArray := prog_1_method_22_code
def yX11_trapped : MethodName := ⟨RX11, "trapped", "()I"⟩
abbrev cX11_touching : ByteArray := prog_1_method_23_code
def yX11_touching : MethodName := ⟨RX11, "touching", "(II)I"⟩
abbrev cX11_ifTurned : ByteArray := prog_1_method_30_code
def yX11_ifTurned : MethodName := ⟨RX11, "ifTurned", "(III)I"⟩
abbrev cX11_count : ByteArray := prog_1_method_32_code
def yX11_count : MethodName := ⟨RX11, "count", "(I)I"⟩
abbrev cX11_spread : ByteArray := prog_1_method_33_code
def yX11_spread : MethodName := ⟨RX11, "spread", "(I)D"⟩
abbrev cX11_share : ByteArray := prog_1_method_34_code
def yX11_share : MethodName := ⟨RX11, "share", "()F"⟩
abbrev cX11_checkedSite : ByteArray := prog_1_method_36_code
def yX11_checkedSite : MethodName := ⟨RX11, "checkedSite", "(II)I"⟩
abbrev cX11_checkPath : ByteArray := prog_1_method_37_code
def yX11_checkPath : MethodName := ⟨RX11, "checkPath", "(I)V"⟩
abbrev cX11_checkPlace : ByteArray := prog_1_method_38_code
def yX11_checkPlace : MethodName := ⟨RX11, "checkPlace", "(II)V"⟩
abbrev cX11_checkTwoPaths : ByteArray := prog_1_method_39_code
def yX11_checkTwoPaths : MethodName := ⟨RX11, "checkTwoPaths", "(II)V"⟩
abbrev cX11_checkDirection : ByteArray := prog_1_method_40_code
def yX11_checkDirection : MethodName := ⟨RX11, "checkDirection", "(I)V"⟩
abbrev cX11_checkQuarters : ByteArray := prog_1_method_41_code
def yX11_checkQuarters : MethodName := ⟨RX11, "checkQuarters", "(I)V"⟩
abbrev cX11_checkRange : ByteArray := prog_1_method_42_code
def yX11_checkRange : MethodName := ⟨RX11, "checkRange", "(III)V"⟩
def RX12 : String := "LatticePathsModel"
def TX12 : u_T := fun k => match k with
  | _ => ("", "", "", false)
def tyX12 : Nat → FieldType := fun k => match k with
  | _ => .int
abbrev wsX120 : List Cond := u_ws RX12 TX12 0
theorem nmX12 : ∀ a, a < 0 → ∀ b, b < 0 → a ≠ b → (TX12 a).2.1 ≠ (TX12 b).2.1 := by decide +kernel
theorem tyX12_ok : ∀ k, k < 0 → parseFieldDescriptor (TX12 k).2.2.1 = some (tyX12 k) := by decide +kernel
def RJx145de : String := "java/io/Serializable"
def TJx145de : u_T := fun k => match k with
  | _ => ("", "", "", false)
def tyJx145de : Nat → FieldType := fun k => match k with
  | _ => .int
abbrev wsJx145de0 : List Cond := u_ws RJx145de TJx145de 0
theorem nmJx145de : ∀ a, a < 0 → ∀ b, b < 0 → a ≠ b → (TJx145de a).2.1 ≠ (TJx145de b).2.1 := by decide +kernel
theorem tyJx145de_ok : ∀ k, k < 0 → parseFieldDescriptor (TJx145de k).2.2.1 = some (tyJx145de k) := by decide +kernel
def RJ9 : String := "java/lang/Math"
def TJ9 : u_T := fun k => match k with
  | _ => ("", "", "", false)
def tyJ9 : Nat → FieldType := fun k => match k with
  | _ => .int
abbrev wsJ90 : List Cond := u_ws RJ9 TJ9 0
theorem nmJ9 : ∀ a, a < 0 → ∀ b, b < 0 → a ≠ b → (TJ9 a).2.1 ≠ (TJ9 b).2.1 := by decide +kernel
theorem tyJ9_ok : ∀ k, k < 0 → parseFieldDescriptor (TJ9 k).2.2.1 = some (tyJ9 k) := by decide +kernel
abbrev cJ9_abs_0f7a4 : ByteArray := prog_19_method_59_code
def yJ9_abs_0f7a4 : MethodName := ⟨RJ9, "abs", "(I)I"⟩
abbrev cJ9_max_7cf53 : ByteArray := prog_19_method_65_code
def yJ9_max_7cf53 : MethodName := ⟨RJ9, "max", "(II)I"⟩
abbrev cJ9_min_7cf53 : ByteArray := prog_19_method_69_code
def yJ9_min_7cf53 : MethodName := ⟨RJ9, "min", "(II)I"⟩
def RJ0 : String := "java/lang/String"
def TJ0 : u_T := fun k => match k with
  | _ => ("", "", "", false)
def tyJ0 : Nat → FieldType := fun k => match k with
  | _ => .int
abbrev wsJ00 : List Cond := u_ws RJ0 TJ0 0
theorem nmJ0 : ∀ a, a < 0 → ∀ b, b < 0 → a ≠ b → (TJ0 a).2.1 ≠ (TJ0 b).2.1 := by decide +kernel
theorem tyJ0_ok : ∀ k, k < 0 → parseFieldDescriptor (TJ0 k).2.2.1 = some (tyJ0 k) := by decide +kernel
def RJ7 : String := "java/util/Arrays"
def TJ7 : u_T := fun k => match k with
  | _ => ("", "", "", false)
def tyJ7 : Nat → FieldType := fun k => match k with
  | _ => .int
abbrev wsJ70 : List Cond := u_ws RJ7 TJ7 0
theorem nmJ7 : ∀ a, a < 0 → ∀ b, b < 0 → a ≠ b → (TJ7 a).2.1 ≠ (TJ7 b).2.1 := by decide +kernel
theorem tyJ7_ok : ∀ k, k < 0 → parseFieldDescriptor (TJ7 k).2.2.1 = some (tyJ7 k) := by decide +kernel
abbrev cJ7_fill_53178 : ByteArray := prog_23_method_103_code
def yJ7_fill_53178 : MethodName := ⟨RJ7, "fill", "([II)V"⟩
def RL : String := "LatticePathsLaw"
abbrev cL_cell : ByteArray := method_2_code
def yL_cell : MethodName := ⟨RL, "cell", "([II)I"⟩
abbrev cL_low : ByteArray := method_3_code
def yL_low : MethodName := ⟨RL, "low", "(II)I"⟩
abbrev cL_start : ByteArray := method_4_code
def yL_start : MethodName := ⟨RL, "start", "(LLatticePaths;II)I"⟩
abbrev cL_step : ByteArray := method_5_code
def yL_step : MethodName := ⟨RL, "step", "(LLatticePaths;II)I"⟩
abbrev cL_back : ByteArray := method_6_code
def yL_back : MethodName := ⟨RL, "back", "(LLatticePaths;I)I"⟩
abbrev cL_slither : ByteArray := method_7_code
def yL_slither : MethodName := ⟨RL, "slither", "(LLatticePaths;II)I"⟩
abbrev cL_turn : ByteArray := method_8_code
def yL_turn : MethodName := ⟨RL, "turn", "(LLatticePaths;III)I"⟩
abbrev cL_reverse : ByteArray := method_9_code
def yL_reverse : MethodName := ⟨RL, "reverse", "(LLatticePaths;I)I"⟩
abbrev cL_join : ByteArray := method_10_code
def yL_join : MethodName := ⟨RL, "join", "(LLatticePaths;II)I"⟩
abbrev cL_split : ByteArray := method_11_code
def yL_split : MethodName := ⟨RL, "split", "(LLatticePaths;II)I"⟩
abbrev cL_remove : ByteArray := method_12_code
def yL_remove : MethodName := ⟨RL, "remove", "(LLatticePaths;I)I"⟩
abbrev cL_undo : ByteArray := method_13_code
def yL_undo : MethodName := ⟨RL, "undo", "(LLatticePaths;)I"⟩
abbrev cL_site : ByteArray := method_14_code
def yL_site : MethodName := ⟨RL, "site", "(LLatticePaths;III)I"⟩
abbrev cL_place : ByteArray := method_15_code
def yL_place : MethodName := ⟨RL, "place", "(LLatticePaths;II)I"⟩
abbrev cL_path : ByteArray := method_16_code
def yL_path : MethodName := ⟨RL, "path", "(LLatticePaths;II)I"⟩
abbrev cL_touching : ByteArray := method_17_code
def yL_touching : MethodName := ⟨RL, "touching", "(LLatticePaths;II)I"⟩
abbrev cL_count : ByteArray := method_18_code
def yL_count : MethodName := ⟨RL, "count", "(LLatticePaths;I)I"⟩
abbrev cL_ifTurned : ByteArray := method_19_code
def yL_ifTurned : MethodName := ⟨RL, "ifTurned", "(LLatticePaths;III)I"⟩
abbrev cL_at : ByteArray := method_20_code
def yL_at : MethodName := ⟨RL, "at", "(II[I)I"⟩
abbrev cL_puts : ByteArray := method_21_code
def yL_puts : MethodName := ⟨RL, "puts", "(III[I)V"⟩
abbrev cL_go : ByteArray := method_22_code
def yL_go : MethodName := ⟨RL, "go", "(II)I"⟩
abbrev cL_whose : ByteArray := method_23_code
def yL_whose : MethodName := ⟨RL, "whose", "(I[I[I)I"⟩
abbrev cL_why : ByteArray := method_24_code
def yL_why : MethodName := ⟨RL, "why", "(III[I[I)I"⟩
abbrev cL_turned : ByteArray := method_25_code
def yL_turned : MethodName := ⟨RL, "turned", "(III)I"⟩
abbrev cL_whyNotTurned : ByteArray := method_26_code
def yL_whyNotTurned : MethodName := ⟨RL, "whyNotTurned", "(III[I[I)I"⟩
abbrev cL_drops : ByteArray := method_27_code
def yL_drops : MethodName := ⟨RL, "drops", "(I[I[I)V"⟩
abbrev cL_told : ByteArray := method_28_code
def yL_told : MethodName := ⟨RL, "told", "(LLatticePaths;)J"⟩
abbrev cL_call : ByteArray := method_29_code
def yL_call : MethodName := ⟨RL, "call", "(LLatticePaths;IIII)I"⟩
abbrev cL_stepped : ByteArray := method_30_code
def yL_stepped : MethodName := ⟨RL, "stepped", "(IIZ[I[I)I"⟩
abbrev cL_turns : ByteArray := method_31_code
def yL_turns : MethodName := ⟨RL, "turns", "(III[I[I)I"⟩
abbrev cL_joined : ByteArray := method_32_code
def yL_joined : MethodName := ⟨RL, "joined", "(II[I[I)I"⟩
abbrev cL_due : ByteArray := method_33_code
def yL_due : MethodName := ⟨RL, "due", "(IIII[I[I)I"⟩
abbrev cL_isPath : ByteArray := method_34_code
def yL_isPath : MethodName := ⟨RL, "isPath", "(LLatticePaths;I[I[I)Z"⟩
abbrev cL_isSo : ByteArray := method_35_code
def yL_isSo : MethodName := ⟨RL, "isSo", "(LLatticePaths;I[I[I)Z"⟩
abbrev cL_law : ByteArray := code
def yL_law : MethodName := ⟨RL, "law", "([I)Z"⟩
abbrev vwCl : List vw_C := [(RX0, TX0, 8), (RX1, TX1, 3), (RX3, TX3, 2), (RX4, TX4, 5), (RX5, TX5, 6), (RX6, TX6, 1), (RX7, TX7, 5), (RX8, TX8, 2), (RX9, TX9, 2), (RX10, TX10, 1), (RX11, TX11, 10)]
