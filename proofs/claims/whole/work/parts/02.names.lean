def RX0 : String := "SharedBoard$CellSet"
def TX0 : u_T := fun k => match k with
  | _ => ("SharedBoard$CellSet", "rows", "[I", true)
def tyX0 : Nat → FieldType := fun k => match k with
  | _ => .array .int
theorem nmX0 : ∀ a, a < 1 → ∀ b, b < 1 → a ≠ b → (TX0 a).2.1 ≠ (TX0 b).2.1 := by decide +kernel
theorem tyX0_ok : ∀ k, k < 1 → parseFieldDescriptor (TX0 k).2.2.1 = some (tyX0 k) := by decide +kernel
abbrev cX0_init : ByteArray := prog_2_method_1_code
def yX0_init : MethodName := ⟨RX0, "<init>", "()V"⟩
abbrev cX0_becomeEmpty : ByteArray := prog_2_method_2_code
def yX0_becomeEmpty : MethodName := ⟨RX0, "becomeEmpty", "()V"⟩
abbrev cX0_becomeCopy : ByteArray := prog_2_method_3_code
def yX0_becomeCopy : MethodName := ⟨RX0, "becomeCopy", "(LSharedBoard$CellSet;)V"⟩
abbrev cX0_becomeRectangle : ByteArray := prog_2_method_4_code
def yX0_becomeRectangle : MethodName := ⟨RX0, "becomeRectangle", "(II)V"⟩
abbrev cX0_meetsRectangle : ByteArray := prog_2_method_5_code
def yX0_meetsRectangle : MethodName := ⟨RX0, "meetsRectangle", "(II)Z"⟩
abbrev cX0_columnsBetween : ByteArray := prog_2_method_6_code
def yX0_columnsBetween : MethodName := ⟨RX0, "columnsBetween", "(II)I"⟩
abbrev cX0_rowOf : ByteArray := prog_2_method_7_code
def yX0_rowOf : MethodName := ⟨RX0, "rowOf", "(I)I"⟩
abbrev cX0_columnOf : ByteArray := prog_2_method_8_code
def yX0_columnOf : MethodName := ⟨RX0, "columnOf", "(I)I"⟩
abbrev cX0_contains : ByteArray := prog_2_method_9_code
def yX0_contains : MethodName := ⟨RX0, "contains", "(I)Z"⟩
abbrev cX0_include : ByteArray := prog_2_method_10_code
def yX0_include : MethodName := ⟨RX0, "include", "(I)V"⟩
abbrev cX0_exclude : ByteArray := prog_2_method_11_code
def yX0_exclude : MethodName := ⟨RX0, "exclude", "(I)V"⟩
abbrev cX0_addAll : ByteArray := prog_2_method_12_code
def yX0_addAll : MethodName := ⟨RX0, "addAll", "(LSharedBoard$CellSet;)V"⟩
abbrev cX0_takeAway : ByteArray := prog_2_method_13_code
def yX0_takeAway : MethodName := ⟨RX0, "takeAway", "(LSharedBoard$CellSet;)V"⟩
abbrev cX0_meets : ByteArray := prog_2_method_14_code
def yX0_meets : MethodName := ⟨RX0, "meets", "(LSharedBoard$CellSet;)Z"⟩
abbrev cX0_size : ByteArray := prog_2_method_15_code
def yX0_size : MethodName := ⟨RX0, "size", "()I"⟩
def RX1 : String := "SharedBoard$Leases"
def TX1 : u_T := fun k => match k with
  | 0 => ("SharedBoard$Leases", "areas", "[LSharedBoard$CellSet;", true)
  | 1 => ("SharedBoard$Leases", "owners", "[I", true)
  | _ => ("SharedBoard$Leases", "ends", "[I", true)
def tyX1 : Nat → FieldType := fun k => match k with
  | 0 => .array (.object "SharedBoard$CellSet")
  | 1 => .array .int
  | _ => .array .int
theorem nmX1 : ∀ a, a < 3 → ∀ b, b < 3 → a ≠ b → (TX1 a).2.1 ≠ (TX1 b).2.1 := by decide +kernel
theorem tyX1_ok : ∀ k, k < 3 → parseFieldDescriptor (TX1 k).2.2.1 = some (tyX1 k) := by decide +kernel
abbrev cX1_init : ByteArray := prog_3_method_1_code
def yX1_init : MethodName := ⟨RX1, "<init>", "()V"⟩
abbrev cX1_freeSlot : ByteArray := prog_3_method_2_code
def yX1_freeSlot : MethodName := ⟨RX1, "freeSlot", "(I)I"⟩
abbrev cX1_begin : ByteArray := prog_3_method_3_code
def yX1_begin : MethodName := ⟨RX1, "begin", "(III)V"⟩
abbrev cX1_endAll : ByteArray := prog_3_method_4_code
def yX1_endAll : MethodName := ⟨RX1, "endAll", "()V"⟩
abbrev cX1_endAllOf : ByteArray := prog_3_method_5_code
def yX1_endAllOf : MethodName := ⟨RX1, "endAllOf", "(II)I"⟩
abbrev cX1_inForce : ByteArray := prog_3_method_6_code
def yX1_inForce : MethodName := ⟨RX1, "inForce", "(I)I"⟩
abbrev cX1_inForceOf : ByteArray := prog_3_method_7_code
def yX1_inForceOf : MethodName := ⟨RX1, "inForceOf", "(II)I"⟩
abbrev cX1_lowestOwner : ByteArray := prog_3_method_8_code
def yX1_lowestOwner : MethodName := ⟨RX1, "lowestOwner", "(II)I"⟩
abbrev cX1_collectClosed : ByteArray := prog_3_method_9_code
def yX1_collectClosed : MethodName := ⟨RX1, "collectClosed", "(IILSharedBoard$CellSet;)V"⟩
def RX2 : String := "SharedBoard$Log"
def TX2 : u_T := fun k => match k with
  | 0 => ("SharedBoard$Log", "entries", "[LSharedBoard$Operation;", true)
  | 1 => ("SharedBoard$Log", "size", "I", false)
  | _ => ("SharedBoard$Log", "undos", "I", false)
def tyX2 : Nat → FieldType := fun k => match k with
  | 0 => .array (.object "SharedBoard$Operation")
  | 1 => .int
  | _ => .int
theorem nmX2 : ∀ a, a < 3 → ∀ b, b < 3 → a ≠ b → (TX2 a).2.1 ≠ (TX2 b).2.1 := by decide +kernel
theorem tyX2_ok : ∀ k, k < 3 → parseFieldDescriptor (TX2 k).2.2.1 = some (tyX2 k) := by decide +kernel
abbrev cX2_init : ByteArray := prog_4_method_1_code
def yX2_init : MethodName := ⟨RX2, "<init>", "()V"⟩
abbrev cX2_contains : ByteArray := prog_4_method_2_code
def yX2_contains : MethodName := ⟨RX2, "contains", "(I)Z"⟩
abbrev cX2_begin : ByteArray := prog_4_method_3_code
def yX2_begin : MethodName := ⟨RX2, "begin", "(IIII)LSharedBoard$Operation;"⟩
abbrev cX2_forgetRedoOf : ByteArray := prog_4_method_4_code
def yX2_forgetRedoOf : MethodName := ⟨RX2, "forgetRedoOf", "(I)V"⟩
abbrev cX2_latestActive : ByteArray := prog_4_method_5_code
def yX2_latestActive : MethodName := ⟨RX2, "latestActive", "(I)I"⟩
abbrev cX2_lastUndone : ByteArray := prog_4_method_6_code
def yX2_lastUndone : MethodName := ⟨RX2, "lastUndone", "(I)I"⟩
abbrev cX2_switchOff : ByteArray := prog_4_method_7_code
def yX2_switchOff : MethodName := ⟨RX2, "switchOff", "(I)V"⟩
abbrev cX2_switchOn : ByteArray := prog_4_method_8_code
def yX2_switchOn : MethodName := ⟨RX2, "switchOn", "(I)V"⟩
abbrev cX2_goBack : ByteArray := prog_4_method_9_code
def yX2_goBack : MethodName := ⟨RX2, "goBack", "(LSharedBoard$Mark;)V"⟩
abbrev cX2_activeOperations : ByteArray := prog_4_method_10_code
def yX2_activeOperations : MethodName := ⟨RX2, "activeOperations", "()I"⟩
abbrev cX2_operationsOf : ByteArray := prog_4_method_11_code
def yX2_operationsOf : MethodName := ⟨RX2, "operationsOf", "(I)I"⟩
abbrev cX2_activeOf : ByteArray := prog_4_method_12_code
def yX2_activeOf : MethodName := ⟨RX2, "activeOf", "(I)I"⟩
abbrev cX2_redoableOf : ByteArray := prog_4_method_13_code
def yX2_redoableOf : MethodName := ⟨RX2, "redoableOf", "(I)I"⟩
def RX3 : String := "SharedBoard$Mark"
def TX3 : u_T := fun k => match k with
  | 0 => ("SharedBoard$Mark", "isSet", "Z", false)
  | 1 => ("SharedBoard$Mark", "size", "I", false)
  | 2 => ("SharedBoard$Mark", "active", "[Z", true)
  | _ => ("SharedBoard$Mark", "colors", "[I", true)
def tyX3 : Nat → FieldType := fun k => match k with
  | 0 => .boolean
  | 1 => .int
  | 2 => .array .boolean
  | _ => .array .int
theorem nmX3 : ∀ a, a < 4 → ∀ b, b < 4 → a ≠ b → (TX3 a).2.1 ≠ (TX3 b).2.1 := by decide +kernel
theorem tyX3_ok : ∀ k, k < 4 → parseFieldDescriptor (TX3 k).2.2.1 = some (tyX3 k) := by decide +kernel
abbrev cX3_init : ByteArray := prog_5_method_1_code
def yX3_init : MethodName := ⟨RX3, "<init>", "()V"⟩
abbrev cX3_keep : ByteArray := prog_5_method_2_code
def yX3_keep : MethodName := ⟨RX3, "keep", "(LSharedBoard$Log;LSharedBoard$Scene;)V"⟩
def RX4 : String := "SharedBoard$Operation"
def TX4 : u_T := fun k => match k with
  | 0 => ("SharedBoard$Operation", "sort", "I", false)
  | 1 => ("SharedBoard$Operation", "owner", "I", false)
  | 2 => ("SharedBoard$Operation", "layer", "I", false)
  | 3 => ("SharedBoard$Operation", "paint", "I", false)
  | 4 => ("SharedBoard$Operation", "fade", "I", false)
  | 5 => ("SharedBoard$Operation", "born", "I", false)
  | 6 => ("SharedBoard$Operation", "active", "Z", false)
  | 7 => ("SharedBoard$Operation", "undoneBy", "I", false)
  | _ => ("SharedBoard$Operation", "cells", "LSharedBoard$CellSet;", true)
def tyX4 : Nat → FieldType := fun k => match k with
  | 0 => .int
  | 1 => .int
  | 2 => .int
  | 3 => .int
  | 4 => .int
  | 5 => .int
  | 6 => .boolean
  | 7 => .int
  | _ => .object "SharedBoard$CellSet"
theorem nmX4 : ∀ a, a < 9 → ∀ b, b < 9 → a ≠ b → (TX4 a).2.1 ≠ (TX4 b).2.1 := by decide +kernel
theorem tyX4_ok : ∀ k, k < 9 → parseFieldDescriptor (TX4 k).2.2.1 = some (tyX4 k) := by decide +kernel
abbrev cX4_init : ByteArray := prog_6_method_1_code
def yX4_init : MethodName := ⟨RX4, "<init>", "()V"⟩
abbrev cX4_hasVanished : ByteArray := prog_6_method_2_code
def yX4_hasVanished : MethodName := ⟨RX4, "hasVanished", "(I)Z"⟩
abbrev cX4_strengthAt : ByteArray := prog_6_method_3_code
def yX4_strengthAt : MethodName := ⟨RX4, "strengthAt", "(I)I"⟩
def RX5 : String := "SharedBoard$PathText"
def TX5 : u_T := fun k => match k with
  | 0 => ("SharedBoard$PathText", "codes", "[I", true)
  | 1 => ("SharedBoard$PathText", "length", "I", false)
  | 2 => ("SharedBoard$PathText", "columns", "[I", true)
  | 3 => ("SharedBoard$PathText", "rows", "[I", true)
  | 4 => ("SharedBoard$PathText", "point", "I", false)
  | 5 => ("SharedBoard$PathText", "inRow", "Z", false)
  | _ => ("SharedBoard$PathText", "number", "I", false)
def tyX5 : Nat → FieldType := fun k => match k with
  | 0 => .array .int
  | 1 => .int
  | 2 => .array .int
  | 3 => .array .int
  | 4 => .int
  | 5 => .boolean
  | _ => .int
theorem nmX5 : ∀ a, a < 7 → ∀ b, b < 7 → a ≠ b → (TX5 a).2.1 ≠ (TX5 b).2.1 := by decide +kernel
theorem tyX5_ok : ∀ k, k < 7 → parseFieldDescriptor (TX5 k).2.2.1 = some (tyX5 k) := by decide +kernel
abbrev cX5_init : ByteArray := prog_7_method_1_code
def yX5_init : MethodName := ⟨RX5, "<init>", "()V"⟩
abbrev cX5_readToError : ByteArray := prog_7_method_2_code
def yX5_readToError : MethodName := ⟨RX5, "readToError", "()I"⟩
abbrev cX5_isPath : ByteArray := prog_7_method_3_code
def yX5_isPath : MethodName := ⟨RX5, "isPath", "()Z"⟩
abbrev cX5_takes : ByteArray := prog_7_method_4_code
def yX5_takes : MethodName := ⟨RX5, "takes", "(I)Z"⟩
abbrev cX5_takesDigit : ByteArray := prog_7_method_5_code
def yX5_takesDigit : MethodName := ⟨RX5, "takesDigit", "(I)Z"⟩
abbrev cX5_drawInto : ByteArray := prog_7_method_6_code
def yX5_drawInto : MethodName := ⟨RX5, "drawInto", "(LSharedBoard$CellSet;)V"⟩
abbrev cX5_drawLine : ByteArray := prog_7_method_7_code
def yX5_drawLine : MethodName := ⟨RX5, "drawLine", "(IILSharedBoard$CellSet;)V"⟩
abbrev cX5_roundedQuotient : ByteArray := prog_7_method_8_code
def yX5_roundedQuotient : MethodName := ⟨RX5, "roundedQuotient", "(II)I"⟩
def RX6 : String := "SharedBoard$Regions"
def TX6 : u_T := fun k => match k with
  | 0 => ("SharedBoard$Regions", "rest", "LSharedBoard$CellSet;", true)
  | 1 => ("SharedBoard$Regions", "queue", "[I", true)
  | _ => ("SharedBoard$Regions", "queued", "I", false)
def tyX6 : Nat → FieldType := fun k => match k with
  | 0 => .object "SharedBoard$CellSet"
  | 1 => .array .int
  | _ => .int
theorem nmX6 : ∀ a, a < 3 → ∀ b, b < 3 → a ≠ b → (TX6 a).2.1 ≠ (TX6 b).2.1 := by decide +kernel
theorem tyX6_ok : ∀ k, k < 3 → parseFieldDescriptor (TX6 k).2.2.1 = some (tyX6 k) := by decide +kernel
abbrev cX6_init : ByteArray := prog_8_method_1_code
def yX6_init : MethodName := ⟨RX6, "<init>", "()V"⟩
abbrev cX6_parts : ByteArray := prog_8_method_2_code
def yX6_parts : MethodName := ⟨RX6, "parts", "(LSharedBoard$CellSet;Z)I"⟩
abbrev cX6_reach : ByteArray := prog_8_method_3_code
def yX6_reach : MethodName := ⟨RX6, "reach", "(ILSharedBoard$CellSet;LSharedBoard$CellSet;)V"⟩
abbrev cX6_spread : ByteArray := prog_8_method_4_code
def yX6_spread : MethodName := ⟨RX6, "spread", "(IZ)V"⟩
abbrev cX6_enqueue : ByteArray := prog_8_method_5_code
def yX6_enqueue : MethodName := ⟨RX6, "enqueue", "(II)V"⟩
def RX7 : String := "SharedBoard$Scene"
def TX7 : u_T := fun k => match k with
  | 0 => ("SharedBoard$Scene", "left", "[LSharedBoard$CellSet;", true)
  | 1 => ("SharedBoard$Scene", "tops", "[I", true)
  | 2 => ("SharedBoard$Scene", "colors", "[I", true)
  | _ => ("SharedBoard$Scene", "onTop", "[I", true)
def tyX7 : Nat → FieldType := fun k => match k with
  | 0 => .array (.object "SharedBoard$CellSet")
  | 1 => .array .int
  | 2 => .array .int
  | _ => .array .int
theorem nmX7 : ∀ a, a < 4 → ∀ b, b < 4 → a ≠ b → (TX7 a).2.1 ≠ (TX7 b).2.1 := by decide +kernel
theorem tyX7_ok : ∀ k, k < 4 → parseFieldDescriptor (TX7 k).2.2.1 = some (tyX7 k) := by decide +kernel
abbrev cX7_init : ByteArray := prog_9_method_1_code
def yX7_init : MethodName := ⟨RX7, "<init>", "()V"⟩
abbrev cX7_show : ByteArray := prog_9_method_2_code
def yX7_show : MethodName := ⟨RX7, "show", "(LSharedBoard$Log;II)V"⟩
abbrev cX7_takeEffect : ByteArray := prog_9_method_3_code
def yX7_takeEffect : MethodName := ⟨RX7, "takeEffect", "(LSharedBoard$Log;I)V"⟩
abbrev cX7_eraseFrom : ByteArray := prog_9_method_4_code
def yX7_eraseFrom : MethodName := ⟨RX7, "eraseFrom", "(IILSharedBoard$Operation;)V"⟩
abbrev cX7_becomeBlank : ByteArray := prog_9_method_5_code
def yX7_becomeBlank : MethodName := ⟨RX7, "becomeBlank", "()V"⟩
abbrev cX7_paint : ByteArray := prog_9_method_6_code
def yX7_paint : MethodName := ⟨RX7, "paint", "(II)V"⟩
abbrev cX7_paintRow : ByteArray := prog_9_method_7_code
def yX7_paintRow : MethodName := ⟨RX7, "paintRow", "(III)V"⟩
abbrev cX7_countTops : ByteArray := prog_9_method_8_code
def yX7_countTops : MethodName := ⟨RX7, "countTops", "()V"⟩
abbrev cX7_paintedCells : ByteArray := prog_9_method_9_code
def yX7_paintedCells : MethodName := ⟨RX7, "paintedCells", "()I"⟩
abbrev cX7_hiddenOperations : ByteArray := prog_9_method_10_code
def yX7_hiddenOperations : MethodName := ⟨RX7, "hiddenOperations", "(LSharedBoard$Log;I)I"⟩
abbrev cX7_collectColor : ByteArray := prog_9_method_11_code
def yX7_collectColor : MethodName := ⟨RX7, "collectColor", "(ILSharedBoard$CellSet;)V"⟩
def RX8 : String := "SharedBoard"
def TX8 : u_T := fun k => match k with
  | 0 => ("SharedBoard", "buffer", "LSharedBoard$PathText;", true)
  | 1 => ("SharedBoard", "log", "LSharedBoard$Log;", true)
  | 2 => ("SharedBoard", "leases", "LSharedBoard$Leases;", true)
  | 3 => ("SharedBoard", "marks", "[LSharedBoard$Mark;", true)
  | 4 => ("SharedBoard", "now", "LSharedBoard$Scene;", true)
  | 5 => ("SharedBoard", "supposed", "LSharedBoard$Scene;", true)
  | 6 => ("SharedBoard", "regions", "LSharedBoard$Regions;", true)
  | 7 => ("SharedBoard", "scratch", "LSharedBoard$CellSet;", true)
  | _ => ("SharedBoard", "tick", "I", false)
def tyX8 : Nat → FieldType := fun k => match k with
  | 0 => .object "SharedBoard$PathText"
  | 1 => .object "SharedBoard$Log"
  | 2 => .object "SharedBoard$Leases"
  | 3 => .array (.object "SharedBoard$Mark")
  | 4 => .object "SharedBoard$Scene"
  | 5 => .object "SharedBoard$Scene"
  | 6 => .object "SharedBoard$Regions"
  | 7 => .object "SharedBoard$CellSet"
  | _ => .int
theorem nmX8 : ∀ a, a < 9 → ∀ b, b < 9 → a ≠ b → (TX8 a).2.1 ≠ (TX8 b).2.1 := by decide +kernel
theorem tyX8_ok : ∀ k, k < 9 → parseFieldDescriptor (TX8 k).2.2.1 = some (tyX8 k) := by decide +kernel
abbrev cX8_init : ByteArray := prog_1_method_1_code
def yX8_init : MethodName := ⟨RX8, "<init>", "()V"⟩
abbrev cX8_clear : ByteArray := prog_1_method_2_code
def yX8_clear : MethodName := ⟨RX8, "clear", "()I"⟩
abbrev cX8_pass : ByteArray := prog_1_method_3_code
def yX8_pass : MethodName := ⟨RX8, "pass", "(I)I"⟩
abbrev cX8_append : ByteArray := prog_1_method_4_code
def yX8_append : MethodName := ⟨RX8, "append", "(I)I"⟩
abbrev cX8_clearBuffer : ByteArray := prog_1_method_5_code
def yX8_clearBuffer : MethodName := ⟨RX8, "clearBuffer", "()I"⟩
abbrev cX8_firstError : ByteArray := prog_1_method_6_code
def yX8_firstError : MethodName := ⟨RX8, "firstError", "()I"⟩
abbrev cX8_stroke : ByteArray := prog_1_method_7_code
def yX8_stroke : MethodName := ⟨RX8, "stroke", "(IIII)I"⟩
abbrev cX8_erase : ByteArray := prog_1_method_8_code
def yX8_erase : MethodName := ⟨RX8, "erase", "(III)I"⟩
abbrev cX8_fill : ByteArray := prog_1_method_9_code
def yX8_fill : MethodName := ⟨RX8, "fill", "(IIII)I"⟩
abbrev cX8_undo : ByteArray := prog_1_method_10_code
def yX8_undo : MethodName := ⟨RX8, "undo", "(I)I"⟩
abbrev cX8_redo : ByteArray := prog_1_method_11_code
def yX8_redo : MethodName := ⟨RX8, "redo", "(I)I"⟩
abbrev cX8_lease : ByteArray := prog_1_method_12_code
def yX8_lease : MethodName := ⟨RX8, "lease", "(IIII)I"⟩
abbrev cX8_release : ByteArray := prog_1_method_13_code
def yX8_release : MethodName := ⟨RX8, "release", "(I)I"⟩
abbrev cX8_holder : ByteArray := prog_1_method_14_code
def yX8_holder : MethodName := ⟨RX8, "holder", "(I)I"⟩
abbrev cX8_setMark : ByteArray := prog_1_method_15_code
def yX8_setMark : MethodName := ⟨RX8, "setMark", "(I)I"⟩
abbrev cX8_replay : ByteArray := prog_1_method_16_code
def yX8_replay : MethodName := ⟨RX8, "replay", "(II)I"⟩
abbrev cX8_difference : ByteArray := prog_1_method_17_code
def yX8_difference : MethodName := ⟨RX8, "difference", "(I)I"⟩
abbrev cX8_rewind : ByteArray := prog_1_method_18_code
def yX8_rewind : MethodName := ⟨RX8, "rewind", "(I)I"⟩
abbrev cX8_color : ByteArray := prog_1_method_19_code
def yX8_color : MethodName := ⟨RX8, "color", "(I)I"⟩
abbrev cX8_colorLater : ByteArray := prog_1_method_20_code
def yX8_colorLater : MethodName := ⟨RX8, "colorLater", "(II)I"⟩
abbrev cX8_top : ByteArray := prog_1_method_21_code
def yX8_top : MethodName := ⟨RX8, "top", "(I)I"⟩
abbrev cX8_count : ByteArray := prog_1_method_22_code
def yX8_count : MethodName := ⟨RX8, "count", "(I)I"⟩
abbrev cX8_operation : ByteArray := prog_1_method_23_code
def yX8_operation : MethodName := ⟨RX8, "operation", "(II)I"⟩
abbrev cX8_ifSwitched : ByteArray := prog_1_method_24_code
def yX8_ifSwitched : MethodName := ⟨RX8, "ifSwitched", "(I)I"⟩
abbrev cX8_user : ByteArray := prog_1_method_25_code
def yX8_user : MethodName := ⟨RX8, "user", "(II)I"⟩
abbrev cX8_meanStrength : ByteArray := prog_1_method_26_code
def yX8_meanStrength : MethodName := ⟨RX8, "meanStrength", "()D"⟩
abbrev cX8_digest : ByteArray := prog_1_method_27_code
def yX8_digest : MethodName := ⟨RX8, "digest", "()J"⟩
abbrev cX8_refuseWrongUser : ByteArray := prog_1_method_28_code
def yX8_refuseWrongUser : MethodName := ⟨RX8, "refuseWrongUser", "(I)V"⟩
abbrev cX8_refuseWrongLayer : ByteArray := prog_1_method_29_code
def yX8_refuseWrongLayer : MethodName := ⟨RX8, "refuseWrongLayer", "(I)V"⟩
abbrev cX8_refuseWrongCell : ByteArray := prog_1_method_30_code
def yX8_refuseWrongCell : MethodName := ⟨RX8, "refuseWrongCell", "(I)V"⟩
abbrev cX8_refuseWrongMark : ByteArray := prog_1_method_31_code
def yX8_refuseWrongMark : MethodName := ⟨RX8, "refuseWrongMark", "(I)V"⟩
abbrev cX8_refuseWrongOperation : ByteArray := prog_1_method_32_code
def yX8_refuseWrongOperation : MethodName := ⟨RX8, "refuseWrongOperation", "(I)V"⟩
abbrev cX8_refuseWrongColor : ByteArray := prog_1_method_33_code
def yX8_refuseWrongColor : MethodName := ⟨RX8, "refuseWrongColor", "(I)V"⟩
abbrev cX8_refuseWrongPath : ByteArray := prog_1_method_34_code
def yX8_refuseWrongPath : MethodName := ⟨RX8, "refuseWrongPath", "()V"⟩
abbrev cX8_refuseFullLog : ByteArray := prog_1_method_35_code
def yX8_refuseFullLog : MethodName := ⟨RX8, "refuseFullLog", "()V"⟩
abbrev cX8_refuseUnsetMark : ByteArray := prog_1_method_36_code
def yX8_refuseUnsetMark : MethodName := ⟨RX8, "refuseUnsetMark", "(I)V"⟩
abbrev cX8_showNow : ByteArray := prog_1_method_37_code
def yX8_showNow : MethodName := ⟨RX8, "showNow", "()V"⟩
abbrev cX8_takeCellsFromBuffer : ByteArray := prog_1_method_38_code
def yX8_takeCellsFromBuffer : MethodName := ⟨RX8, "takeCellsFromBuffer", "(LSharedBoard$Operation;)V"⟩
abbrev cX8_leaveOutClosedCells : ByteArray := prog_1_method_39_code
def yX8_leaveOutClosedCells : MethodName := ⟨RX8, "leaveOutClosedCells", "(LSharedBoard$Operation;)V"⟩
abbrev cX8_changedBySwitching : ByteArray := prog_1_method_40_code
def yX8_changedBySwitching : MethodName := ⟨RX8, "changedBySwitching", "(I)I"⟩
abbrev cX8_changedCells : ByteArray := prog_1_method_41_code
def yX8_changedCells : MethodName := ⟨RX8, "changedCells", "([I[I)I"⟩
abbrev cX8_boardProperty : ByteArray := prog_1_method_42_code
def yX8_boardProperty : MethodName := ⟨RX8, "boardProperty", "(I)I"⟩
abbrev cX8_differentColors : ByteArray := prog_1_method_43_code
def yX8_differentColors : MethodName := ⟨RX8, "differentColors", "()I"⟩
abbrev cX8_marksSet : ByteArray := prog_1_method_44_code
def yX8_marksSet : MethodName := ⟨RX8, "marksSet", "()I"⟩
abbrev cX8_colorRegions : ByteArray := prog_1_method_45_code
def yX8_colorRegions : MethodName := ⟨RX8, "colorRegions", "()I"⟩
abbrev cX8_operationProperty : ByteArray := prog_1_method_46_code
def yX8_operationProperty : MethodName := ⟨RX8, "operationProperty", "(II)I"⟩
abbrev cX8_userProperty : ByteArray := prog_1_method_47_code
def yX8_userProperty : MethodName := ⟨RX8, "userProperty", "(II)I"⟩
abbrev cX8_cellsOf : ByteArray := prog_1_method_48_code
def yX8_cellsOf : MethodName := ⟨RX8, "cellsOf", "(I)I"⟩
def RX9 : String := "SharedBoardModel"
def TX9 : u_T := fun k => match k with
  | 0 => ("SharedBoardModel", "thrown", "I", false)
  | 1 => ("SharedBoardModel", "tick", "I", false)
  | 2 => ("SharedBoardModel", "many", "I", false)
  | 3 => ("SharedBoardModel", "sort", "[I", true)
  | 4 => ("SharedBoardModel", "userOf", "[I", true)
  | 5 => ("SharedBoardModel", "layerOf", "[I", true)
  | 6 => ("SharedBoardModel", "colorOf", "[I", true)
  | 7 => ("SharedBoardModel", "fadeOf", "[I", true)
  | 8 => ("SharedBoardModel", "tickOf", "[I", true)
  | 9 => ("SharedBoardModel", "isActive", "[Z", true)
  | 10 => ("SharedBoardModel", "undone", "[I", true)
  | 11 => ("SharedBoardModel", "undos", "I", false)
  | 12 => ("SharedBoardModel", "cells", "[J", true)
  | 13 => ("SharedBoardModel", "leases", "I", false)
  | 14 => ("SharedBoardModel", "leaseUser", "[I", true)
  | 15 => ("SharedBoardModel", "leaseFirst", "[I", true)
  | 16 => ("SharedBoardModel", "leaseLast", "[I", true)
  | 17 => ("SharedBoardModel", "leaseEnd", "[I", true)
  | 18 => ("SharedBoardModel", "markMany", "[I", true)
  | 19 => ("SharedBoardModel", "markTick", "[I", true)
  | 20 => ("SharedBoardModel", "markActive", "[J", true)
  | 21 => ("SharedBoardModel", "isMarked", "[Z", true)
  | 22 => ("SharedBoardModel", "length", "I", false)
  | 23 => ("SharedBoardModel", "text", "[I", true)
  | 24 => ("SharedBoardModel", "left", "[J", true)
  | 25 => ("SharedBoardModel", "goes", "[Z", true)
  | 26 => ("SharedBoardModel", "top", "[I", true)
  | 27 => ("SharedBoardModel", "picture", "[I", true)
  | 28 => ("SharedBoardModel", "numbers", "I", false)
  | 29 => ("SharedBoardModel", "number", "[I", true)
  | 30 => ("SharedBoardModel", "region", "[J", true)
  | 31 => ("SharedBoardModel", "isMet", "[Z", true)
  | _ => ("SharedBoardModel", "h", "J", false)
def tyX9 : Nat → FieldType := fun k => match k with
  | 0 => .int
  | 1 => .int
  | 2 => .int
  | 3 => .array .int
  | 4 => .array .int
  | 5 => .array .int
  | 6 => .array .int
  | 7 => .array .int
  | 8 => .array .int
  | 9 => .array .boolean
  | 10 => .array .int
  | 11 => .int
  | 12 => .array .long
  | 13 => .int
  | 14 => .array .int
  | 15 => .array .int
  | 16 => .array .int
  | 17 => .array .int
  | 18 => .array .int
  | 19 => .array .int
  | 20 => .array .long
  | 21 => .array .boolean
  | 22 => .int
  | 23 => .array .int
  | 24 => .array .long
  | 25 => .array .boolean
  | 26 => .array .int
  | 27 => .array .int
  | 28 => .int
  | 29 => .array .int
  | 30 => .array .long
  | 31 => .array .boolean
  | _ => .long
theorem nmX9 : ∀ a, a < 33 → ∀ b, b < 33 → a ≠ b → (TX9 a).2.1 ≠ (TX9 b).2.1 := by decide +kernel
theorem tyX9_ok : ∀ k, k < 33 → parseFieldDescriptor (TX9 k).2.2.1 = some (tyX9 k) := by decide +kernel
abbrev cX9_init : ByteArray := prog_11_method_1_code
def yX9_init : MethodName := ⟨RX9, "<init>", "()V"⟩
abbrev cX9_thrown : ByteArray := prog_11_method_2_code
def yX9_thrown : MethodName := ⟨RX9, "thrown", "()I"⟩
abbrev cX9_within : ByteArray := prog_11_method_3_code
def yX9_within : MethodName := ⟨RX9, "within", "(III)Z"⟩
abbrev cX9_isUser : ByteArray := prog_11_method_4_code
def yX9_isUser : MethodName := ⟨RX9, "isUser", "(I)Z"⟩
abbrev cX9_isCell : ByteArray := prog_11_method_5_code
def yX9_isCell : MethodName := ⟨RX9, "isCell", "(I)Z"⟩
abbrev cX9_isMark : ByteArray := prog_11_method_6_code
def yX9_isMark : MethodName := ⟨RX9, "isMark", "(I)Z"⟩
abbrev cX9_isOperation : ByteArray := prog_11_method_7_code
def yX9_isOperation : MethodName := ⟨RX9, "isOperation", "(I)Z"⟩
abbrev cX9_size : ByteArray := prog_11_method_8_code
def yX9_size : MethodName := ⟨RX9, "size", "(J)I"⟩
abbrev cX9_hasIn : ByteArray := prog_11_method_9_code
def yX9_hasIn : MethodName := ⟨RX9, "hasIn", "([JII)Z"⟩
abbrev cX9_sizeIn : ByteArray := prog_11_method_10_code
def yX9_sizeIn : MethodName := ⟨RX9, "sizeIn", "([JI)I"⟩
abbrev cX9_meets : ByteArray := prog_11_method_11_code
def yX9_meets : MethodName := ⟨RX9, "meets", "(II)Z"⟩
abbrev cX9_eraseBy : ByteArray := prog_11_method_12_code
def yX9_eraseBy : MethodName := ⟨RX9, "eraseBy", "(I)V"⟩
abbrev cX9_isVanished : ByteArray := prog_11_method_13_code
def yX9_isVanished : MethodName := ⟨RX9, "isVanished", "(II)Z"⟩
abbrev cX9_layLeft : ByteArray := prog_11_method_14_code
def yX9_layLeft : MethodName := ⟨RX9, "layLeft", "(I)V"⟩
abbrev cX9_layTop : ByteArray := prog_11_method_15_code
def yX9_layTop : MethodName := ⟨RX9, "layTop", "(II)V"⟩
abbrev cX9_layAt : ByteArray := prog_11_method_16_code
def yX9_layAt : MethodName := ⟨RX9, "layAt", "(I)V"⟩
abbrev cX9_layNow : ByteArray := prog_11_method_17_code
def yX9_layNow : MethodName := ⟨RX9, "layNow", "()V"⟩
abbrev cX9_shown : ByteArray := prog_11_method_18_code
def yX9_shown : MethodName := ⟨RX9, "shown", "(I)I"⟩
abbrev cX9_keepPicture : ByteArray := prog_11_method_19_code
def yX9_keepPicture : MethodName := ⟨RX9, "keepPicture", "()V"⟩
abbrev cX9_others : ByteArray := prog_11_method_20_code
def yX9_others : MethodName := ⟨RX9, "others", "()I"⟩
abbrev cX9_clear : ByteArray := prog_11_method_21_code
def yX9_clear : MethodName := ⟨RX9, "clear", "()I"⟩
abbrev cX9_dropLeases : ByteArray := prog_11_method_22_code
def yX9_dropLeases : MethodName := ⟨RX9, "dropLeases", "(I)V"⟩
abbrev cX9_pass : ByteArray := prog_11_method_23_code
def yX9_pass : MethodName := ⟨RX9, "pass", "(I)I"⟩
abbrev cX9_append : ByteArray := prog_11_method_24_code
def yX9_append : MethodName := ⟨RX9, "append", "(I)I"⟩
abbrev cX9_clearBuffer : ByteArray := prog_11_method_25_code
def yX9_clearBuffer : MethodName := ⟨RX9, "clearBuffer", "()I"⟩
abbrev cX9_takes : ByteArray := prog_11_method_26_code
def yX9_takes : MethodName := ⟨RX9, "takes", "(I)Z"⟩
abbrev cX9_read : ByteArray := prog_11_method_27_code
def yX9_read : MethodName := ⟨RX9, "read", "()I"⟩
abbrev cX9_firstError : ByteArray := prog_11_method_28_code
def yX9_firstError : MethodName := ⟨RX9, "firstError", "()I"⟩
abbrev cX9_isPath : ByteArray := prog_11_method_29_code
def yX9_isPath : MethodName := ⟨RX9, "isPath", "()Z"⟩
abbrev cX9_rounded : ByteArray := prog_11_method_30_code
def yX9_rounded : MethodName := ⟨RX9, "rounded", "(II)I"⟩
abbrev cX9_addCell : ByteArray := prog_11_method_31_code
def yX9_addCell : MethodName := ⟨RX9, "addCell", "(I)V"⟩
abbrev cX9_addLine : ByteArray := prog_11_method_32_code
def yX9_addLine : MethodName := ⟨RX9, "addLine", "(IIII)V"⟩
abbrev cX9_isInLease : ByteArray := prog_11_method_33_code
def yX9_isInLease : MethodName := ⟨RX9, "isInLease", "(II)Z"⟩
abbrev cX9_isClosed : ByteArray := prog_11_method_34_code
def yX9_isClosed : MethodName := ⟨RX9, "isClosed", "(II)Z"⟩
abbrev cX9_freshCells : ByteArray := prog_11_method_35_code
def yX9_freshCells : MethodName := ⟨RX9, "freshCells", "()V"⟩
abbrev cX9_add : ByteArray := prog_11_method_36_code
def yX9_add : MethodName := ⟨RX9, "add", "(IIIII)I"⟩
abbrev cX9_layPath : ByteArray := prog_11_method_37_code
def yX9_layPath : MethodName := ⟨RX9, "layPath", "()V"⟩
abbrev cX9_isPlace : ByteArray := prog_11_method_38_code
def yX9_isPlace : MethodName := ⟨RX9, "isPlace", "(II)Z"⟩
abbrev cX9_stroke : ByteArray := prog_11_method_39_code
def yX9_stroke : MethodName := ⟨RX9, "stroke", "(IIII)I"⟩
abbrev cX9_erase : ByteArray := prog_11_method_40_code
def yX9_erase : MethodName := ⟨RX9, "erase", "(III)I"⟩
abbrev cX9_isInRegion : ByteArray := prog_11_method_41_code
def yX9_isInRegion : MethodName := ⟨RX9, "isInRegion", "(I)Z"⟩
abbrev cX9_isBeside : ByteArray := prog_11_method_42_code
def yX9_isBeside : MethodName := ⟨RX9, "isBeside", "(III)Z"⟩
abbrev cX9_isTouched : ByteArray := prog_11_method_43_code
def yX9_isTouched : MethodName := ⟨RX9, "isTouched", "(IZ)Z"⟩
abbrev cX9_put : ByteArray := prog_11_method_44_code
def yX9_put : MethodName := ⟨RX9, "put", "(I)V"⟩
abbrev cX9_layRegion : ByteArray := prog_11_method_45_code
def yX9_layRegion : MethodName := ⟨RX9, "layRegion", "(II)V"⟩
abbrev cX9_fill : ByteArray := prog_11_method_46_code
def yX9_fill : MethodName := ⟨RX9, "fill", "(IIII)I"⟩
abbrev cX9_latestOf : ByteArray := prog_11_method_47_code
def yX9_latestOf : MethodName := ⟨RX9, "latestOf", "(I)I"⟩
abbrev cX9_undo : ByteArray := prog_11_method_48_code
def yX9_undo : MethodName := ⟨RX9, "undo", "(I)I"⟩
abbrev cX9_redoOf : ByteArray := prog_11_method_49_code
def yX9_redoOf : MethodName := ⟨RX9, "redoOf", "(I)I"⟩
abbrev cX9_redo : ByteArray := prog_11_method_50_code
def yX9_redo : MethodName := ⟨RX9, "redo", "(I)I"⟩
abbrev cX9_mayLease : ByteArray := prog_11_method_51_code
def yX9_mayLease : MethodName := ⟨RX9, "mayLease", "(I)Z"⟩
abbrev cX9_lease : ByteArray := prog_11_method_52_code
def yX9_lease : MethodName := ⟨RX9, "lease", "(IIII)I"⟩
abbrev cX9_leasesOf : ByteArray := prog_11_method_53_code
def yX9_leasesOf : MethodName := ⟨RX9, "leasesOf", "(I)I"⟩
abbrev cX9_release : ByteArray := prog_11_method_54_code
def yX9_release : MethodName := ⟨RX9, "release", "(I)I"⟩
abbrev cX9_holderOf : ByteArray := prog_11_method_55_code
def yX9_holderOf : MethodName := ⟨RX9, "holderOf", "(I)I"⟩
abbrev cX9_holder : ByteArray := prog_11_method_56_code
def yX9_holder : MethodName := ⟨RX9, "holder", "(I)I"⟩
abbrev cX9_setMark : ByteArray := prog_11_method_57_code
def yX9_setMark : MethodName := ⟨RX9, "setMark", "(I)I"⟩
abbrev cX9_wasActive : ByteArray := prog_11_method_58_code
def yX9_wasActive : MethodName := ⟨RX9, "wasActive", "(II)Z"⟩
abbrev cX9_layMark : ByteArray := prog_11_method_59_code
def yX9_layMark : MethodName := ⟨RX9, "layMark", "(I)V"⟩
abbrev cX9_replay : ByteArray := prog_11_method_60_code
def yX9_replay : MethodName := ⟨RX9, "replay", "(II)I"⟩
abbrev cX9_differenceNow : ByteArray := prog_11_method_61_code
def yX9_differenceNow : MethodName := ⟨RX9, "differenceNow", "(I)I"⟩
abbrev cX9_difference : ByteArray := prog_11_method_62_code
def yX9_difference : MethodName := ⟨RX9, "difference", "(I)I"⟩
abbrev cX9_rewind : ByteArray := prog_11_method_63_code
def yX9_rewind : MethodName := ⟨RX9, "rewind", "(I)I"⟩
abbrev cX9_color : ByteArray := prog_11_method_64_code
def yX9_color : MethodName := ⟨RX9, "color", "(I)I"⟩
abbrev cX9_colorLater : ByteArray := prog_11_method_65_code
def yX9_colorLater : MethodName := ⟨RX9, "colorLater", "(II)I"⟩
abbrev cX9_top : ByteArray := prog_11_method_66_code
def yX9_top : MethodName := ⟨RX9, "top", "(I)I"⟩
abbrev cX9_actives : ByteArray := prog_11_method_67_code
def yX9_actives : MethodName := ⟨RX9, "actives", "()I"⟩
abbrev cX9_colored : ByteArray := prog_11_method_68_code
def yX9_colored : MethodName := ⟨RX9, "colored", "()I"⟩
abbrev cX9_colors : ByteArray := prog_11_method_69_code
def yX9_colors : MethodName := ⟨RX9, "colors", "()I"⟩
abbrev cX9_held : ByteArray := prog_11_method_70_code
def yX9_held : MethodName := ⟨RX9, "held", "()I"⟩
abbrev cX9_marks : ByteArray := prog_11_method_71_code
def yX9_marks : MethodName := ⟨RX9, "marks", "()I"⟩
abbrev cX9_onTop : ByteArray := prog_11_method_72_code
def yX9_onTop : MethodName := ⟨RX9, "onTop", "(I)I"⟩
abbrev cX9_covered : ByteArray := prog_11_method_73_code
def yX9_covered : MethodName := ⟨RX9, "covered", "()I"⟩
abbrev cX9_meetRegion : ByteArray := prog_11_method_74_code
def yX9_meetRegion : MethodName := ⟨RX9, "meetRegion", "()V"⟩
abbrev cX9_parts : ByteArray := prog_11_method_75_code
def yX9_parts : MethodName := ⟨RX9, "parts", "(I)I"⟩
abbrev cX9_counted : ByteArray := prog_11_method_76_code
def yX9_counted : MethodName := ⟨RX9, "counted", "(I)I"⟩
abbrev cX9_count : ByteArray := prog_11_method_77_code
def yX9_count : MethodName := ⟨RX9, "count", "(I)I"⟩
abbrev cX9_strength : ByteArray := prog_11_method_78_code
def yX9_strength : MethodName := ⟨RX9, "strength", "(I)I"⟩
abbrev cX9_told : ByteArray := prog_11_method_79_code
def yX9_told : MethodName := ⟨RX9, "told", "(II)I"⟩
abbrev cX9_operation : ByteArray := prog_11_method_80_code
def yX9_operation : MethodName := ⟨RX9, "operation", "(II)I"⟩
abbrev cX9_ifSwitched : ByteArray := prog_11_method_81_code
def yX9_ifSwitched : MethodName := ⟨RX9, "ifSwitched", "(I)I"⟩
abbrev cX9_userNow : ByteArray := prog_11_method_82_code
def yX9_userNow : MethodName := ⟨RX9, "userNow", "(II)I"⟩
abbrev cX9_user : ByteArray := prog_11_method_83_code
def yX9_user : MethodName := ⟨RX9, "user", "(II)I"⟩
abbrev cX9_meanStrength : ByteArray := prog_11_method_84_code
def yX9_meanStrength : MethodName := ⟨RX9, "meanStrength", "()D"⟩
abbrev cX9_mix : ByteArray := prog_11_method_85_code
def yX9_mix : MethodName := ⟨RX9, "mix", "(J)V"⟩
abbrev cX9_digest : ByteArray := prog_11_method_86_code
def yX9_digest : MethodName := ⟨RX9, "digest", "()J"⟩
def RJ6 : String := "java/lang/Integer"
def TJ6 : u_T := fun k => match k with
  | _ => ("", "", "", false)
def tyJ6 : Nat → FieldType := fun k => match k with
  | _ => .int
abbrev cJ6_bitCount_0f7a4 : ByteArray := prog_16_method_49_code
def yJ6_bitCount_0f7a4 : MethodName := ⟨RJ6, "bitCount", "(I)I"⟩
def RJ9 : String := "java/lang/Math"
def TJ9 : u_T := fun k => match k with
  | _ => ("", "", "", false)
def tyJ9 : Nat → FieldType := fun k => match k with
  | _ => .int
abbrev cJ9_abs_0f7a4 : ByteArray := prog_17_method_59_code
def yJ9_abs_0f7a4 : MethodName := ⟨RJ9, "abs", "(I)I"⟩
abbrev cJ9_max_7cf53 : ByteArray := prog_17_method_65_code
def yJ9_max_7cf53 : MethodName := ⟨RJ9, "max", "(II)I"⟩
abbrev cJ9_min_7cf53 : ByteArray := prog_17_method_69_code
def yJ9_min_7cf53 : MethodName := ⟨RJ9, "min", "(II)I"⟩
def RJ0 : String := "java/lang/String"
def TJ0 : u_T := fun k => match k with
  | _ => ("", "", "", false)
def tyJ0 : Nat → FieldType := fun k => match k with
  | _ => .int
def RL : String := "SharedBoardLaw"
abbrev cL_pass : ByteArray := method_3_code
def yL_pass : MethodName := ⟨RL, "pass", "(LSharedBoard;I[J)I"⟩
abbrev cL_append : ByteArray := method_4_code
def yL_append : MethodName := ⟨RL, "append", "(LSharedBoard;I[J)I"⟩
abbrev cL_stroke : ByteArray := method_5_code
def yL_stroke : MethodName := ⟨RL, "stroke", "(LSharedBoard;IIII[J)I"⟩
abbrev cL_erase : ByteArray := method_6_code
def yL_erase : MethodName := ⟨RL, "erase", "(LSharedBoard;III[J)I"⟩
abbrev cL_fill : ByteArray := method_7_code
def yL_fill : MethodName := ⟨RL, "fill", "(LSharedBoard;IIII[J)I"⟩
abbrev cL_undo : ByteArray := method_8_code
def yL_undo : MethodName := ⟨RL, "undo", "(LSharedBoard;I[J)I"⟩
abbrev cL_redo : ByteArray := method_9_code
def yL_redo : MethodName := ⟨RL, "redo", "(LSharedBoard;I[J)I"⟩
abbrev cL_lease : ByteArray := method_10_code
def yL_lease : MethodName := ⟨RL, "lease", "(LSharedBoard;IIII[J)I"⟩
abbrev cL_release : ByteArray := method_11_code
def yL_release : MethodName := ⟨RL, "release", "(LSharedBoard;I[J)I"⟩
abbrev cL_holder : ByteArray := method_12_code
def yL_holder : MethodName := ⟨RL, "holder", "(LSharedBoard;I[J)I"⟩
abbrev cL_setMark : ByteArray := method_13_code
def yL_setMark : MethodName := ⟨RL, "setMark", "(LSharedBoard;I[J)I"⟩
abbrev cL_replay : ByteArray := method_14_code
def yL_replay : MethodName := ⟨RL, "replay", "(LSharedBoard;II[J)I"⟩
abbrev cL_difference : ByteArray := method_15_code
def yL_difference : MethodName := ⟨RL, "difference", "(LSharedBoard;I[J)I"⟩
abbrev cL_rewind : ByteArray := method_16_code
def yL_rewind : MethodName := ⟨RL, "rewind", "(LSharedBoard;I[J)I"⟩
abbrev cL_color : ByteArray := method_17_code
def yL_color : MethodName := ⟨RL, "color", "(LSharedBoard;I[J)I"⟩
abbrev cL_colorLater : ByteArray := method_18_code
def yL_colorLater : MethodName := ⟨RL, "colorLater", "(LSharedBoard;II[J)I"⟩
abbrev cL_top : ByteArray := method_19_code
def yL_top : MethodName := ⟨RL, "top", "(LSharedBoard;I[J)I"⟩
abbrev cL_count : ByteArray := method_20_code
def yL_count : MethodName := ⟨RL, "count", "(LSharedBoard;I[J)I"⟩
abbrev cL_operation : ByteArray := method_21_code
def yL_operation : MethodName := ⟨RL, "operation", "(LSharedBoard;II[J)I"⟩
abbrev cL_ifSwitched : ByteArray := method_22_code
def yL_ifSwitched : MethodName := ⟨RL, "ifSwitched", "(LSharedBoard;I[J)I"⟩
abbrev cL_user : ByteArray := method_23_code
def yL_user : MethodName := ⟨RL, "user", "(LSharedBoard;II[J)I"⟩
abbrev cL_law : ByteArray := code
def yL_law : MethodName := ⟨RL, "law", "([I)Z"⟩
abbrev vwCl : List vw_C := [(RX0, TX0, 1), (RX1, TX1, 3), (RX2, TX2, 3), (RX3, TX3, 4), (RX4, TX4, 9), (RX5, TX5, 7), (RX6, TX6, 3), (RX7, TX7, 4), (RX8, TX8, 9), (RX9, TX9, 33)]
/-- the one list of words: the tables' good ones -/
def gl : List Cond := lw_tbl.filter goodWord
theorem gl_in {w : Cond} (h : w ∈ lw_tbl) (g : goodWord w = true) : w ∈ gl := List.mem_filter.mpr ⟨h, g⟩
theorem gl_tb {w : Cond} (h : w ∈ tables_1) (g : goodWord w = true) : w ∈ gl := gl_in (List.mem_append_right _ h) g
theorem gl_pv {w : Cond} (h : w ∈ k2_sels lw_privs) (g : goodWord w = true) : w ∈ gl := gl_in (List.mem_append_left _ h) g
theorem gl_good {w : Cond} (h : w ∈ gl) : (w.onTables && w.keeps) = true ∨ ∃ ty, w = .arrayClass ty := good_of_word (List.mem_filter.mp h).2
/-- an instance method of class C, its code among the words -/
def vwM (C : String) (y : MethodName) (cw : Cond) : Prop := Cond.instanceMethod y ∈ gl ∧ Cond.selects C y y ∈ gl ∧ Cond.initialized C ∈ gl ∧ cw ∈ gl
/-- a static method -/
def vwS (y : MethodName) (cw : Cond) : Prop := Cond.static y ∈ gl ∧ Cond.initialized y.cls ∈ gl ∧ cw ∈ gl
theorem gl_V {own C : String} {idx : Nat} {y : MethodName} {cx cy : Cond} (h : Cond.methodLink own idx y ∈ gl) (v : vwM C y cy) : GoodIn (cx :: gl) (wsV own idx C y (cy :: gl)) := by
  have q : ∀ w ∈ wsV own idx C y (cy :: gl), w ∈ gl := by
    intro w hw
    simp only [wsV, List.mem_append, List.mem_cons, List.not_mem_nil, or_false] at hw
    rcases hw with (rfl | rfl | rfl | rfl) | rfl | hw
    · exact h
    · exact v.1
    · exact v.2.1
    · exact v.2.2.1
    · exact v.2.2.2
    · exact hw
  exact fun w hw => ⟨List.mem_cons_of_mem _ (q w hw), gl_good (q w hw)⟩
theorem gl_S {own : String} {idx : Nat} {y : MethodName} {cx cy : Cond} (h : Cond.methodLink own idx y ∈ gl) (v : vwS y cy) : GoodIn (cx :: gl) (va_wsS own idx y (cy :: gl)) := by
  have q : ∀ w ∈ va_wsS own idx y (cy :: gl), w ∈ gl := by
    intro w hw
    simp only [va_wsS, List.mem_append, List.mem_cons, List.not_mem_nil, or_false] at hw
    rcases hw with (rfl | rfl | rfl) | rfl | hw
    · exact h
    · exact v.1
    · exact v.2.1
    · exact v.2.2
    · exact hw
  exact fun w hw => ⟨List.mem_cons_of_mem _ (q w hw), gl_good (q w hw)⟩
theorem gl_C {cx cy : Cond} (v : cy ∈ gl) : GoodIn (cx :: gl) (cy :: gl) := by
  intro w hw
  have q : w ∈ gl := by
    rcases List.mem_cons.mp hw with rfl | hw
    · exact v
    · exact hw
  exact ⟨List.mem_cons_of_mem _ q, gl_good q⟩
set_option maxRecDepth 100000 in
theorem lay_X0 : ∀ w ∈ u_ws RX0 TX0 1, w ∈ gl := by
  have h : (u_ws RX0 TX0 1).all (fun w => decide (w ∈ tables_1) && goodWord w) = true := by decide +kernel
  intro w hw
  have h2 := List.all_eq_true.mp h w hw
  simp only [Bool.and_eq_true, decide_eq_true_eq] at h2
  exact gl_tb h2.1 h2.2
set_option maxRecDepth 100000 in
theorem lay_X1 : ∀ w ∈ u_ws RX1 TX1 3, w ∈ gl := by
  have h : (u_ws RX1 TX1 3).all (fun w => decide (w ∈ tables_1) && goodWord w) = true := by decide +kernel
  intro w hw
  have h2 := List.all_eq_true.mp h w hw
  simp only [Bool.and_eq_true, decide_eq_true_eq] at h2
  exact gl_tb h2.1 h2.2
set_option maxRecDepth 100000 in
theorem lay_X2 : ∀ w ∈ u_ws RX2 TX2 3, w ∈ gl := by
  have h : (u_ws RX2 TX2 3).all (fun w => decide (w ∈ tables_1) && goodWord w) = true := by decide +kernel
  intro w hw
  have h2 := List.all_eq_true.mp h w hw
  simp only [Bool.and_eq_true, decide_eq_true_eq] at h2
  exact gl_tb h2.1 h2.2
set_option maxRecDepth 100000 in
theorem lay_X3 : ∀ w ∈ u_ws RX3 TX3 4, w ∈ gl := by
  have h : (u_ws RX3 TX3 4).all (fun w => decide (w ∈ tables_1) && goodWord w) = true := by decide +kernel
  intro w hw
  have h2 := List.all_eq_true.mp h w hw
  simp only [Bool.and_eq_true, decide_eq_true_eq] at h2
  exact gl_tb h2.1 h2.2
set_option maxRecDepth 100000 in
theorem lay_X4 : ∀ w ∈ u_ws RX4 TX4 9, w ∈ gl := by
  have h : (u_ws RX4 TX4 9).all (fun w => decide (w ∈ tables_1) && goodWord w) = true := by decide +kernel
  intro w hw
  have h2 := List.all_eq_true.mp h w hw
  simp only [Bool.and_eq_true, decide_eq_true_eq] at h2
  exact gl_tb h2.1 h2.2
set_option maxRecDepth 100000 in
theorem lay_X5 : ∀ w ∈ u_ws RX5 TX5 7, w ∈ gl := by
  have h : (u_ws RX5 TX5 7).all (fun w => decide (w ∈ tables_1) && goodWord w) = true := by decide +kernel
  intro w hw
  have h2 := List.all_eq_true.mp h w hw
  simp only [Bool.and_eq_true, decide_eq_true_eq] at h2
  exact gl_tb h2.1 h2.2
set_option maxRecDepth 100000 in
theorem lay_X6 : ∀ w ∈ u_ws RX6 TX6 3, w ∈ gl := by
  have h : (u_ws RX6 TX6 3).all (fun w => decide (w ∈ tables_1) && goodWord w) = true := by decide +kernel
  intro w hw
  have h2 := List.all_eq_true.mp h w hw
  simp only [Bool.and_eq_true, decide_eq_true_eq] at h2
  exact gl_tb h2.1 h2.2
set_option maxRecDepth 100000 in
theorem lay_X7 : ∀ w ∈ u_ws RX7 TX7 4, w ∈ gl := by
  have h : (u_ws RX7 TX7 4).all (fun w => decide (w ∈ tables_1) && goodWord w) = true := by decide +kernel
  intro w hw
  have h2 := List.all_eq_true.mp h w hw
  simp only [Bool.and_eq_true, decide_eq_true_eq] at h2
  exact gl_tb h2.1 h2.2
set_option maxRecDepth 100000 in
theorem lay_X8 : ∀ w ∈ u_ws RX8 TX8 9, w ∈ gl := by
  have h : (u_ws RX8 TX8 9).all (fun w => decide (w ∈ tables_1) && goodWord w) = true := by decide +kernel
  intro w hw
  have h2 := List.all_eq_true.mp h w hw
  simp only [Bool.and_eq_true, decide_eq_true_eq] at h2
  exact gl_tb h2.1 h2.2
set_option maxRecDepth 100000 in
theorem lay_X9 : ∀ w ∈ u_ws RX9 TX9 33, w ∈ gl := by
  have h : (u_ws RX9 TX9 33).all (fun w => decide (w ∈ tables_1) && goodWord w) = true := by decide +kernel
  intro w hw
  have h2 := List.all_eq_true.mp h w hw
  simp only [Bool.and_eq_true, decide_eq_true_eq] at h2
  exact gl_tb h2.1 h2.2
