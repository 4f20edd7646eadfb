/-! Printed by wip/whole/gen.py out of the claim: classes, methods, the blocks of the small machine. -/
def RX0 : String := "ScreenRoom$History"
def TX0 : u_T := fun k => match k with
  | 0 => ("ScreenRoom$History", "count", "I", false)
  | _ => ("ScreenRoom$History", "rows", "[I", true)
def tyX0 : Nat → FieldType := fun k => match k with
  | 0 => .int
  | _ => .array .int
abbrev wsX00 : List Cond := u_ws RX0 TX0 2
theorem nmX0 : ∀ a, a < 2 → ∀ b, b < 2 → a ≠ b → (TX0 a).2.1 ≠ (TX0 b).2.1 := by decide +kernel
theorem tyX0_ok : ∀ k, k < 2 → parseFieldDescriptor (TX0 k).2.2.1 = some (tyX0 k) := by decide +kernel
def RX2 : String := "ScreenRoom$Judge"
def TX2 : u_T := fun k => match k with
  | 0 => ("ScreenRoom$Judge", "standRow", "I", false)
  | 1 => ("ScreenRoom$Judge", "standColumn", "I", false)
  | 2 => ("ScreenRoom$Judge", "standDown", "I", false)
  | 3 => ("ScreenRoom$Judge", "standMany", "I", false)
  | 4 => ("ScreenRoom$Judge", "rival", "[I", true)
  | 5 => ("ScreenRoom$Judge", "rivalFar", "[I", true)
  | 6 => ("ScreenRoom$Judge", "workersOf", "[I", true)
  | 7 => ("ScreenRoom$Judge", "mayBe", "[Z", true)
  | 8 => ("ScreenRoom$Judge", "shareOfOne", "[I", true)
  | _ => ("ScreenRoom$Judge", "shareOfOther", "[I", true)
def tyX2 : Nat → FieldType := fun k => match k with
  | 0 => .int
  | 1 => .int
  | 2 => .int
  | 3 => .int
  | 4 => .array .int
  | 5 => .array .int
  | 6 => .array .int
  | 7 => .array .boolean
  | 8 => .array .int
  | _ => .array .int
abbrev wsX20 : List Cond := u_ws RX2 TX2 10
theorem nmX2 : ∀ a, a < 10 → ∀ b, b < 10 → a ≠ b → (TX2 a).2.1 ≠ (TX2 b).2.1 := by decide +kernel
theorem tyX2_ok : ∀ k, k < 10 → parseFieldDescriptor (TX2 k).2.2.1 = some (tyX2 k) := by decide +kernel
def RX3 : String := "ScreenRoom$Laws"
def TX3 : u_T := fun k => match k with
  | 0 => ("ScreenRoom$Laws", "knots", "I", false)
  | 1 => ("ScreenRoom$Laws", "length", "I", false)
  | 2 => ("ScreenRoom$Laws", "kind", "[I", true)
  | 3 => ("ScreenRoom$Laws", "value", "[I", true)
  | 4 => ("ScreenRoom$Laws", "start", "[I", true)
  | 5 => ("ScreenRoom$Laws", "end", "[I", true)
  | 6 => ("ScreenRoom$Laws", "names", "[J", true)
  | _ => ("ScreenRoom$Laws", "stack", "[J", true)
def tyX3 : Nat → FieldType := fun k => match k with
  | 0 => .int
  | 1 => .int
  | 2 => .array .int
  | 3 => .array .int
  | 4 => .array .int
  | 5 => .array .int
  | 6 => .array .long
  | _ => .array .long
abbrev wsX30 : List Cond := u_ws RX3 TX3 8
theorem nmX3 : ∀ a, a < 8 → ∀ b, b < 8 → a ≠ b → (TX3 a).2.1 ≠ (TX3 b).2.1 := by decide +kernel
theorem tyX3_ok : ∀ k, k < 8 → parseFieldDescriptor (TX3 k).2.2.1 = some (tyX3 k) := by decide +kernel
def RX4 : String := "ScreenRoom$Parser"
def TX4 : u_T := fun k => match k with
  | 0 => ("ScreenRoom$Parser", "faultKind", "I", false)
  | 1 => ("ScreenRoom$Parser", "faultPlace", "I", false)
  | 2 => ("ScreenRoom$Parser", "reader", "LScreenRoom$Reader;", true)
  | 3 => ("ScreenRoom$Parser", "into", "LScreenRoom$Text;", false)
  | 4 => ("ScreenRoom$Parser", "number", "I", false)
  | 5 => ("ScreenRoom$Parser", "numberPlace", "I", false)
  | 6 => ("ScreenRoom$Parser", "waiting", "[I", true)
  | 7 => ("ScreenRoom$Parser", "waitingCount", "I", false)
  | 8 => ("ScreenRoom$Parser", "open", "I", false)
  | 9 => ("ScreenRoom$Parser", "compared", "I", false)
  | 10 => ("ScreenRoom$Parser", "operandDue", "Z", false)
  | _ => ("ScreenRoom$Parser", "notMayStand", "Z", false)
def tyX4 : Nat → FieldType := fun k => match k with
  | 0 => .int
  | 1 => .int
  | 2 => .object "ScreenRoom$Reader"
  | 3 => .object "ScreenRoom$Text"
  | 4 => .int
  | 5 => .int
  | 6 => .array .int
  | 7 => .int
  | 8 => .int
  | 9 => .int
  | 10 => .boolean
  | _ => .boolean
abbrev wsX40 : List Cond := u_ws RX4 TX4 12
theorem nmX4 : ∀ a, a < 12 → ∀ b, b < 12 → a ≠ b → (TX4 a).2.1 ≠ (TX4 b).2.1 := by decide +kernel
theorem tyX4_ok : ∀ k, k < 12 → parseFieldDescriptor (TX4 k).2.2.1 = some (tyX4 k) := by decide +kernel
def RX5 : String := "ScreenRoom$Reader"
def TX5 : u_T := fun k => match k with
  | 0 => ("ScreenRoom$Reader", "bytes", "[I", true)
  | 1 => ("ScreenRoom$Reader", "fed", "I", false)
  | 2 => ("ScreenRoom$Reader", "wordCode", "[I", true)
  | 3 => ("ScreenRoom$Reader", "length", "I", false)
  | 4 => ("ScreenRoom$Reader", "at", "I", false)
  | 5 => ("ScreenRoom$Reader", "kind", "I", false)
  | 6 => ("ScreenRoom$Reader", "value", "I", false)
  | _ => ("ScreenRoom$Reader", "place", "I", false)
def tyX5 : Nat → FieldType := fun k => match k with
  | 0 => .array .int
  | 1 => .int
  | 2 => .array .int
  | 3 => .int
  | 4 => .int
  | 5 => .int
  | 6 => .int
  | _ => .int
abbrev wsX50 : List Cond := u_ws RX5 TX5 8
theorem nmX5 : ∀ a, a < 8 → ∀ b, b < 8 → a ≠ b → (TX5 a).2.1 ≠ (TX5 b).2.1 := by decide +kernel
theorem tyX5_ok : ∀ k, k < 8 → parseFieldDescriptor (TX5 k).2.2.1 = some (tyX5 k) := by decide +kernel
def RX6 : String := "ScreenRoom$Room"
def TX6 : u_T := fun k => match k with
  | 0 => ("ScreenRoom$Room", "screens", "LScreenRoom$Screens;", true)
  | 1 => ("ScreenRoom$Room", "folkCount", "I", false)
  | 2 => ("ScreenRoom$Room", "age", "[I", true)
  | 3 => ("ScreenRoom$Room", "row", "[I", true)
  | 4 => ("ScreenRoom$Room", "column", "[I", true)
  | 5 => ("ScreenRoom$Room", "work", "[I", true)
  | 6 => ("ScreenRoom$Room", "done", "[I", true)
  | 7 => ("ScreenRoom$Room", "hour", "I", false)
  | 8 => ("ScreenRoom$Room", "refused", "I", false)
  | _ => ("ScreenRoom$Room", "number", "J", false)
def tyX6 : Nat → FieldType := fun k => match k with
  | 0 => .object "ScreenRoom$Screens"
  | 1 => .int
  | 2 => .array .int
  | 3 => .array .int
  | 4 => .array .int
  | 5 => .array .int
  | 6 => .array .int
  | 7 => .int
  | 8 => .int
  | _ => .long
abbrev wsX60 : List Cond := u_ws RX6 TX6 10
theorem nmX6 : ∀ a, a < 10 → ∀ b, b < 10 → a ≠ b → (TX6 a).2.1 ≠ (TX6 b).2.1 := by decide +kernel
theorem tyX6_ok : ∀ k, k < 10 → parseFieldDescriptor (TX6 k).2.2.1 = some (tyX6 k) := by decide +kernel
def RX7 : String := "ScreenRoom$Screens"
def TX7 : u_T := fun k => match k with
  | 0 => ("ScreenRoom$Screens", "rows", "I", false)
  | 1 => ("ScreenRoom$Screens", "columns", "I", false)
  | 2 => ("ScreenRoom$Screens", "count", "I", false)
  | 3 => ("ScreenRoom$Screens", "present", "I", false)
  | 4 => ("ScreenRoom$Screens", "wholeLeaves", "I", false)
  | 5 => ("ScreenRoom$Screens", "season", "[I", true)
  | 6 => ("ScreenRoom$Screens", "row", "[I", true)
  | 7 => ("ScreenRoom$Screens", "column", "[I", true)
  | 8 => ("ScreenRoom$Screens", "leaves", "[I", true)
  | 9 => ("ScreenRoom$Screens", "down", "[I", true)
  | 10 => ("ScreenRoom$Screens", "whole", "[I", true)
  | 11 => ("ScreenRoom$Screens", "seasonAt", "[I", true)
  | 12 => ("ScreenRoom$Screens", "farAt", "[I", true)
  | _ => ("ScreenRoom$Screens", "leafAt", "[I", true)
def tyX7 : Nat → FieldType := fun k => match k with
  | 0 => .int
  | 1 => .int
  | 2 => .int
  | 3 => .int
  | 4 => .int
  | 5 => .array .int
  | 6 => .array .int
  | 7 => .array .int
  | 8 => .array .int
  | 9 => .array .int
  | 10 => .array .int
  | 11 => .array .int
  | 12 => .array .int
  | _ => .array .int
abbrev wsX70 : List Cond := u_ws RX7 TX7 14
theorem nmX7 : ∀ a, a < 14 → ∀ b, b < 14 → a ≠ b → (TX7 a).2.1 ≠ (TX7 b).2.1 := by decide +kernel
theorem tyX7_ok : ∀ k, k < 14 → parseFieldDescriptor (TX7 k).2.2.1 = some (tyX7 k) := by decide +kernel
def RX8 : String := "ScreenRoom$Sightings"
def TX8 : u_T := fun k => match k with
  | 0 => ("ScreenRoom$Sightings", "count", "I", false)
  | 1 => ("ScreenRoom$Sightings", "knownBy", "I", false)
  | 2 => ("ScreenRoom$Sightings", "hours", "[I", true)
  | 3 => ("ScreenRoom$Sightings", "cell", "[I", true)
  | 4 => ("ScreenRoom$Sightings", "season", "[I", true)
  | 5 => ("ScreenRoom$Sightings", "isSo", "[Z", true)
  | 6 => ("ScreenRoom$Sightings", "strikes", "[I", true)
  | _ => ("ScreenRoom$Sightings", "struck", "[Z", true)
def tyX8 : Nat → FieldType := fun k => match k with
  | 0 => .int
  | 1 => .int
  | 2 => .array .int
  | 3 => .array .int
  | 4 => .array .int
  | 5 => .array .boolean
  | 6 => .array .int
  | _ => .array .boolean
abbrev wsX80 : List Cond := u_ws RX8 TX8 8
theorem nmX8 : ∀ a, a < 8 → ∀ b, b < 8 → a ≠ b → (TX8 a).2.1 ≠ (TX8 b).2.1 := by decide +kernel
theorem tyX8_ok : ∀ k, k < 8 → parseFieldDescriptor (TX8 k).2.2.1 = some (tyX8 k) := by decide +kernel
def RX9 : String := "ScreenRoom$Text"
def TX9 : u_T := fun k => match k with
  | 0 => ("ScreenRoom$Text", "start", "LScreenRoom$Room;", true)
  | 1 => ("ScreenRoom$Text", "laws", "LScreenRoom$Laws;", true)
  | 2 => ("ScreenRoom$Text", "screenName", "[I", true)
  | 3 => ("ScreenRoom$Text", "folkName", "[I", true)
  | 4 => ("ScreenRoom$Text", "lines", "I", false)
  | 5 => ("ScreenRoom$Text", "moth", "I", false)
  | 6 => ("ScreenRoom$Text", "roomTold", "Z", false)
  | 7 => ("ScreenRoom$Text", "mothTold", "Z", false)
  | 8 => ("ScreenRoom$Text", "seedTold", "Z", false)
  | 9 => ("ScreenRoom$Text", "carries", "I", false)
  | 10 => ("ScreenRoom$Text", "carryScreen", "[I", true)
  | 11 => ("ScreenRoom$Text", "carryHour", "[I", true)
  | 12 => ("ScreenRoom$Text", "carryRow", "[I", true)
  | 13 => ("ScreenRoom$Text", "carryColumn", "[I", true)
  | 14 => ("ScreenRoom$Text", "steps", "I", false)
  | 15 => ("ScreenRoom$Text", "stepFolk", "[I", true)
  | 16 => ("ScreenRoom$Text", "stepHour", "[I", true)
  | _ => ("ScreenRoom$Text", "stepWay", "[I", true)
def tyX9 : Nat → FieldType := fun k => match k with
  | 0 => .object "ScreenRoom$Room"
  | 1 => .object "ScreenRoom$Laws"
  | 2 => .array .int
  | 3 => .array .int
  | 4 => .int
  | 5 => .int
  | 6 => .boolean
  | 7 => .boolean
  | 8 => .boolean
  | 9 => .int
  | 10 => .array .int
  | 11 => .array .int
  | 12 => .array .int
  | 13 => .array .int
  | 14 => .int
  | 15 => .array .int
  | 16 => .array .int
  | _ => .array .int
abbrev wsX90 : List Cond := u_ws RX9 TX9 18
theorem nmX9 : ∀ a, a < 18 → ∀ b, b < 18 → a ≠ b → (TX9 a).2.1 ≠ (TX9 b).2.1 := by decide +kernel
theorem tyX9_ok : ∀ k, k < 18 → parseFieldDescriptor (TX9 k).2.2.1 = some (tyX9 k) := by decide +kernel
def RX10 : String := "ScreenRoom$Ways"
def TX10 : u_T := fun k => match k with
  | 0 => ("ScreenRoom$Ways", "first", "[I", true)
  | 1 => ("ScreenRoom$Ways", "second", "[I", true)
  | 2 => ("ScreenRoom$Ways", "line", "[I", true)
  | _ => ("ScreenRoom$Ways", "settled", "[I", true)
def tyX10 : Nat → FieldType := fun k => match k with
  | 0 => .array .int
  | 1 => .array .int
  | 2 => .array .int
  | _ => .array .int
abbrev wsX100 : List Cond := u_ws RX10 TX10 4
theorem nmX10 : ∀ a, a < 4 → ∀ b, b < 4 → a ≠ b → (TX10 a).2.1 ≠ (TX10 b).2.1 := by decide +kernel
theorem tyX10_ok : ∀ k, k < 4 → parseFieldDescriptor (TX10 k).2.2.1 = some (tyX10 k) := by decide +kernel
def RX11 : String := "ScreenRoom"
def TX11 : u_T := fun k => match k with
  | 0 => ("ScreenRoom", "parser", "LScreenRoom$Parser;", true)
  | 1 => ("ScreenRoom", "text", "LScreenRoom$Text;", false)
  | 2 => ("ScreenRoom", "now", "LScreenRoom$Room;", true)
  | 3 => ("ScreenRoom", "trial", "LScreenRoom$Room;", true)
  | 4 => ("ScreenRoom", "image", "LScreenRoom$Room;", true)
  | 5 => ("ScreenRoom", "imageKept", "Z", false)
  | 6 => ("ScreenRoom", "history", "LScreenRoom$History;", true)
  | 7 => ("ScreenRoom", "sightings", "LScreenRoom$Sightings;", true)
  | 8 => ("ScreenRoom", "ways", "LScreenRoom$Ways;", true)
  | _ => ("ScreenRoom", "judge", "LScreenRoom$Judge;", true)
def tyX11 : Nat → FieldType := fun k => match k with
  | 0 => .object "ScreenRoom$Parser"
  | 1 => .object "ScreenRoom$Text"
  | 2 => .object "ScreenRoom$Room"
  | 3 => .object "ScreenRoom$Room"
  | 4 => .object "ScreenRoom$Room"
  | 5 => .boolean
  | 6 => .object "ScreenRoom$History"
  | 7 => .object "ScreenRoom$Sightings"
  | 8 => .object "ScreenRoom$Ways"
  | _ => .object "ScreenRoom$Judge"
abbrev wsX110 : List Cond := u_ws RX11 TX11 10
theorem nmX11 : ∀ a, a < 10 → ∀ b, b < 10 → a ≠ b → (TX11 a).2.1 ≠ (TX11 b).2.1 := by decide +kernel
theorem tyX11_ok : ∀ k, k < 10 → parseFieldDescriptor (TX11 k).2.2.1 = some (tyX11 k) := by decide +kernel
def RX12 : String := "ScreenRoomModel"
def TX12 : u_T := fun k => match k with
  | 0 => ("ScreenRoomModel", "thrown", "I", false)
  | 1 => ("ScreenRoomModel", "tape", "[I", true)
  | 2 => ("ScreenRoomModel", "taped", "I", false)
  | 3 => ("ScreenRoomModel", "number", "[I", true)
  | 4 => ("ScreenRoomModel", "screenName", "[I", true)
  | 5 => ("ScreenRoomModel", "seasonOf", "[I", true)
  | 6 => ("ScreenRoomModel", "rowAs", "[I", true)
  | 7 => ("ScreenRoomModel", "columnAs", "[I", true)
  | 8 => ("ScreenRoomModel", "leavesOf", "[I", true)
  | 9 => ("ScreenRoomModel", "downAs", "[I", true)
  | 10 => ("ScreenRoomModel", "folkName", "[I", true)
  | 11 => ("ScreenRoomModel", "ageAs", "[I", true)
  | 12 => ("ScreenRoomModel", "folkRowAs", "[I", true)
  | 13 => ("ScreenRoomModel", "folkColumnAs", "[I", true)
  | 14 => ("ScreenRoomModel", "workOf", "[I", true)
  | 15 => ("ScreenRoomModel", "carryScreen", "[I", true)
  | 16 => ("ScreenRoomModel", "carryHour", "[I", true)
  | 17 => ("ScreenRoomModel", "carryRow", "[I", true)
  | 18 => ("ScreenRoomModel", "carryColumn", "[I", true)
  | 19 => ("ScreenRoomModel", "stepFolk", "[I", true)
  | 20 => ("ScreenRoomModel", "stepHour", "[I", true)
  | 21 => ("ScreenRoomModel", "stepWay", "[I", true)
  | 22 => ("ScreenRoomModel", "sumFrom", "[I", true)
  | 23 => ("ScreenRoomModel", "sumTo", "[I", true)
  | 24 => ("ScreenRoomModel", "knotSort", "[I", true)
  | 25 => ("ScreenRoomModel", "knotValue", "[I", true)
  | 26 => ("ScreenRoomModel", "told", "I", false)
  | 27 => ("ScreenRoomModel", "lines", "I", false)
  | 28 => ("ScreenRoomModel", "size", "I", false)
  | 29 => ("ScreenRoomModel", "at", "I", false)
  | 30 => ("ScreenRoomModel", "place", "I", false)
  | 31 => ("ScreenRoomModel", "sort", "I", false)
  | 32 => ("ScreenRoomModel", "value", "I", false)
  | 33 => ("ScreenRoomModel", "fault", "I", false)
  | 34 => ("ScreenRoomModel", "faultPlace", "I", false)
  | 35 => ("ScreenRoomModel", "lastFault", "I", false)
  | 36 => ("ScreenRoomModel", "lastPlace", "I", false)
  | 37 => ("ScreenRoomModel", "open", "I", false)
  | 38 => ("ScreenRoomModel", "counted", "I", false)
  | 39 => ("ScreenRoomModel", "names", "[J", true)
  | 40 => ("ScreenRoomModel", "worked", "[J", true)
  | 41 => ("ScreenRoomModel", "workedMany", "I", false)
  | 42 => ("ScreenRoomModel", "hour", "[I", true)
  | 43 => ("ScreenRoomModel", "drawn", "[I", true)
  | 44 => ("ScreenRoomModel", "refused", "[I", true)
  | 45 => ("ScreenRoomModel", "rowOf", "[I", true)
  | 46 => ("ScreenRoomModel", "columnOf", "[I", true)
  | 47 => ("ScreenRoomModel", "downOf", "[I", true)
  | 48 => ("ScreenRoomModel", "wholeOf", "[I", true)
  | 49 => ("ScreenRoomModel", "ageOf", "[I", true)
  | 50 => ("ScreenRoomModel", "folkRow", "[I", true)
  | 51 => ("ScreenRoomModel", "folkColumn", "[I", true)
  | 52 => ("ScreenRoomModel", "doneOf", "[I", true)
  | 53 => ("ScreenRoomModel", "hasImage", "Z", false)
  | 54 => ("ScreenRoomModel", "undoMany", "I", false)
  | 55 => ("ScreenRoomModel", "goneScreens", "I", false)
  | 56 => ("ScreenRoomModel", "paintedOne", "I", false)
  | 57 => ("ScreenRoomModel", "paintedAs", "I", false)
  | 58 => ("ScreenRoomModel", "tryWhat", "I", false)
  | 59 => ("ScreenRoomModel", "wayTo", "[I", true)
  | 60 => ("ScreenRoomModel", "notes", "I", false)
  | 61 => ("ScreenRoomModel", "knownBy", "I", false)
  | 62 => ("ScreenRoomModel", "noteHours", "[I", true)
  | 63 => ("ScreenRoomModel", "noteCell", "[I", true)
  | 64 => ("ScreenRoomModel", "noteSeason", "[I", true)
  | 65 => ("ScreenRoomModel", "noteIs", "[Z", true)
  | 66 => ("ScreenRoomModel", "outs", "[I", true)
  | _ => ("ScreenRoomModel", "isOut", "[Z", true)
def tyX12 : Nat → FieldType := fun k => match k with
  | 0 => .int
  | 1 => .array .int
  | 2 => .int
  | 3 => .array .int
  | 4 => .array .int
  | 5 => .array .int
  | 6 => .array .int
  | 7 => .array .int
  | 8 => .array .int
  | 9 => .array .int
  | 10 => .array .int
  | 11 => .array .int
  | 12 => .array .int
  | 13 => .array .int
  | 14 => .array .int
  | 15 => .array .int
  | 16 => .array .int
  | 17 => .array .int
  | 18 => .array .int
  | 19 => .array .int
  | 20 => .array .int
  | 21 => .array .int
  | 22 => .array .int
  | 23 => .array .int
  | 24 => .array .int
  | 25 => .array .int
  | 26 => .int
  | 27 => .int
  | 28 => .int
  | 29 => .int
  | 30 => .int
  | 31 => .int
  | 32 => .int
  | 33 => .int
  | 34 => .int
  | 35 => .int
  | 36 => .int
  | 37 => .int
  | 38 => .int
  | 39 => .array .long
  | 40 => .array .long
  | 41 => .int
  | 42 => .array .int
  | 43 => .array .int
  | 44 => .array .int
  | 45 => .array .int
  | 46 => .array .int
  | 47 => .array .int
  | 48 => .array .int
  | 49 => .array .int
  | 50 => .array .int
  | 51 => .array .int
  | 52 => .array .int
  | 53 => .boolean
  | 54 => .int
  | 55 => .int
  | 56 => .int
  | 57 => .int
  | 58 => .int
  | 59 => .array .int
  | 60 => .int
  | 61 => .int
  | 62 => .array .int
  | 63 => .array .int
  | 64 => .array .int
  | 65 => .array .boolean
  | 66 => .array .int
  | _ => .array .boolean
abbrev wsX120 : List Cond := u_ws RX12 TX12 68
theorem nmX12 : ∀ a, a < 68 → ∀ b, b < 68 → a ≠ b → (TX12 a).2.1 ≠ (TX12 b).2.1 := by decide +kernel
theorem tyX12_ok : ∀ k, k < 68 → parseFieldDescriptor (TX12 k).2.2.1 = some (tyX12 k) := by decide +kernel
def RX1 : String := "ScreenRoom$Hours"
def RJ6 : String := "java/lang/Integer"
abbrev cX0_init : ByteArray := prog_2_method_1_code
def yX0_init : MethodName := ⟨RX0, "<init>", "()V"⟩
abbrev cX0_clear : ByteArray := prog_2_method_2_code
def yX0_clear : MethodName := ⟨RX0, "clear", "()V"⟩
abbrev cX0_addScreen : ByteArray := prog_2_method_3_code
def yX0_addScreen : MethodName := ⟨RX0, "addScreen", "(LScreenRoom$Screens;I)V"⟩
abbrev cX0_addFolk : ByteArray := prog_2_method_4_code
def yX0_addFolk : MethodName := ⟨RX0, "addFolk", "(LScreenRoom$Room;I)V"⟩
abbrev cX0_add : ByteArray := prog_2_method_5_code
def yX0_add : MethodName := ⟨RX0, "add", "(IIIII)V"⟩
abbrev cX0_takeBack : ByteArray := prog_2_method_6_code
def yX0_takeBack : MethodName := ⟨RX0, "takeBack", "(LScreenRoom$Room;)V"⟩
abbrev cX1_pass : ByteArray := prog_3_method_2_code
def yX1_pass : MethodName := ⟨RX1, "pass", "(LScreenRoom$Room;LScreenRoom$Text;II)V"⟩
abbrev cX1_carryAll : ByteArray := prog_3_method_3_code
def yX1_carryAll : MethodName := ⟨RX1, "carryAll", "(LScreenRoom$Room;LScreenRoom$Text;)V"⟩
abbrev cX1_stepAll : ByteArray := prog_3_method_4_code
def yX1_stepAll : MethodName := ⟨RX1, "stepAll", "(LScreenRoom$Room;LScreenRoom$Text;)V"⟩
abbrev cX1_enter : ByteArray := prog_3_method_5_code
def yX1_enter : MethodName := ⟨RX1, "enter", "(LScreenRoom$Room;LScreenRoom$Text;II)V"⟩
abbrev cX1_payAll : ByteArray := prog_3_method_6_code
def yX1_payAll : MethodName := ⟨RX1, "payAll", "(LScreenRoom$Room;LScreenRoom$Text;)V"⟩
abbrev cX1_mothsCome : ByteArray := prog_3_method_7_code
def yX1_mothsCome : MethodName := ⟨RX1, "mothsCome", "(LScreenRoom$Room;LScreenRoom$Text;Z)V"⟩
abbrev cX1_mothDrawn : ByteArray := prog_3_method_8_code
def yX1_mothDrawn : MethodName := ⟨RX1, "mothDrawn", "(LScreenRoom$Room;J)Z"⟩
abbrev cX1_within : ByteArray := prog_3_method_9_code
def yX1_within : MethodName := ⟨RX1, "within", "(JJ)J"⟩
abbrev cX1_ageingLaw : ByteArray := prog_3_method_10_code
def yX1_ageingLaw : MethodName := ⟨RX1, "ageingLaw", "(LScreenRoom$Room;LScreenRoom$Text;III)J"⟩
abbrev cX1_payLaw : ByteArray := prog_3_method_11_code
def yX1_payLaw : MethodName := ⟨RX1, "payLaw", "(LScreenRoom$Room;LScreenRoom$Text;I)J"⟩
abbrev cX1_cutLaw : ByteArray := prog_3_method_12_code
def yX1_cutLaw : MethodName := ⟨RX1, "cutLaw", "(LScreenRoom$Room;LScreenRoom$Text;I)J"⟩
abbrev cX2_init : ByteArray := prog_4_method_1_code
def yX2_init : MethodName := ⟨RX2, "<init>", "()V"⟩
abbrev cX2_findStand : ByteArray := prog_4_method_2_code
def yX2_findStand : MethodName := ⟨RX2, "findStand", "(LScreenRoom$Room;I)V"⟩
abbrev cX2_weighStand : ByteArray := prog_4_method_3_code
def yX2_weighStand : MethodName := ⟨RX2, "weighStand", "(LScreenRoom$Screens;II)V"⟩
abbrev cX2_findRivals : ByteArray := prog_4_method_4_code
def yX2_findRivals : MethodName := ⟨RX2, "findRivals", "(LScreenRoom$Room;I)V"⟩
abbrev cX2_workingBeside : ByteArray := prog_4_method_5_code
def yX2_workingBeside : MethodName := ⟨RX2, "workingBeside", "(LScreenRoom$Room;I)I"⟩
abbrev cX2_listWorkers : ByteArray := prog_4_method_6_code
def yX2_listWorkers : MethodName := ⟨RX2, "listWorkers", "(LScreenRoom$Room;)V"⟩
abbrev cX2_worthOf : ByteArray := prog_4_method_7_code
def yX2_worthOf : MethodName := ⟨RX2, "worthOf", "(II)I"⟩
abbrev cX2_fewestScreens : ByteArray := prog_4_method_8_code
def yX2_fewestScreens : MethodName := ⟨RX2, "fewestScreens", "(I)I"⟩
abbrev cX2_restBits : ByteArray := prog_4_method_9_code
def yX2_restBits : MethodName := ⟨RX2, "restBits", "(LScreenRoom$Screens;II)I"⟩
abbrev cX2_staysInRoom : ByteArray := prog_4_method_10_code
def yX2_staysInRoom : MethodName := ⟨RX2, "staysInRoom", "(LScreenRoom$Screens;I)Z"⟩
abbrev cX2_isRest : ByteArray := prog_4_method_11_code
def yX2_isRest : MethodName := ⟨RX2, "isRest", "(I)Z"⟩
abbrev cX2_sharedDivisor : ByteArray := prog_4_method_12_code
def yX2_sharedDivisor : MethodName := ⟨RX2, "sharedDivisor", "(JJ)J"⟩
abbrev cX3_init : ByteArray := prog_5_method_1_code
def yX3_init : MethodName := ⟨RX3, "<init>", "()V"⟩
abbrev cX3_clear : ByteArray := prog_5_method_2_code
def yX3_clear : MethodName := ⟨RX3, "clear", "()V"⟩
abbrev cX3_isTold : ByteArray := prog_5_method_3_code
def yX3_isTold : MethodName := ⟨RX3, "isTold", "(I)Z"⟩
abbrev cX3_begin : ByteArray := prog_5_method_4_code
def yX3_begin : MethodName := ⟨RX3, "begin", "(I)V"⟩
abbrev cX3_finish : ByteArray := prog_5_method_5_code
def yX3_finish : MethodName := ⟨RX3, "finish", "(I)V"⟩
abbrev cX3_put : ByteArray := prog_5_method_6_code
def yX3_put : MethodName := ⟨RX3, "put", "(II)V"⟩
abbrev cX3_name : ByteArray := prog_5_method_7_code
def yX3_name : MethodName := ⟨RX3, "name", "(IIIIIII)V"⟩
abbrev cX3_workOut : ByteArray := prog_5_method_8_code
def yX3_workOut : MethodName := ⟨RX3, "workOut", "(I)J"⟩
abbrev cX3_join : ByteArray := prog_5_method_9_code
def yX3_join : MethodName := ⟨RX3, "join", "(IJJ)J"⟩
abbrev cX3_bounded : ByteArray := prog_5_method_10_code
def yX3_bounded : MethodName := ⟨RX3, "bounded", "(J)J"⟩
abbrev cX3_product : ByteArray := prog_5_method_11_code
def yX3_product : MethodName := ⟨RX3, "product", "(JJ)J"⟩
abbrev cX4_init : ByteArray := prog_6_method_1_code
def yX4_init : MethodName := ⟨RX4, "<init>", "()V"⟩
abbrev cX4_exchange : ByteArray := prog_6_method_2_code
def yX4_exchange : MethodName := ⟨RX4, "exchange", "(LScreenRoom$Text;)LScreenRoom$Text;"⟩
abbrev cX4_parse : ByteArray := prog_6_method_3_code
def yX4_parse : MethodName := ⟨RX4, "parse", "(I)Z"⟩
abbrev cX4_refuseHere : ByteArray := prog_6_method_4_code
def yX4_refuseHere : MethodName := ⟨RX4, "refuseHere", "(I)Z"⟩
abbrev cX4_takeLine : ByteArray := prog_6_method_5_code
def yX4_takeLine : MethodName := ⟨RX4, "takeLine", "()Z"⟩
abbrev cX4_takeEnd : ByteArray := prog_6_method_6_code
def yX4_takeEnd : MethodName := ⟨RX4, "takeEnd", "()Z"⟩
abbrev cX4_takeNumber : ByteArray := prog_6_method_7_code
def yX4_takeNumber : MethodName := ⟨RX4, "takeNumber", "(II)Z"⟩
abbrev cX4_takeRoom : ByteArray := prog_6_method_8_code
def yX4_takeRoom : MethodName := ⟨RX4, "takeRoom", "()Z"⟩
abbrev cX4_takeScreen : ByteArray := prog_6_method_9_code
def yX4_takeScreen : MethodName := ⟨RX4, "takeScreen", "()Z"⟩
abbrev cX4_takeFolk : ByteArray := prog_6_method_10_code
def yX4_takeFolk : MethodName := ⟨RX4, "takeFolk", "()Z"⟩
abbrev cX4_takeCarry : ByteArray := prog_6_method_11_code
def yX4_takeCarry : MethodName := ⟨RX4, "takeCarry", "()Z"⟩
abbrev cX4_takeStep : ByteArray := prog_6_method_12_code
def yX4_takeStep : MethodName := ⟨RX4, "takeStep", "()Z"⟩
abbrev cX4_takeMoth : ByteArray := prog_6_method_13_code
def yX4_takeMoth : MethodName := ⟨RX4, "takeMoth", "()Z"⟩
abbrev cX4_takeSeed : ByteArray := prog_6_method_14_code
def yX4_takeSeed : MethodName := ⟨RX4, "takeSeed", "()Z"⟩
abbrev cX4_takeLaw : ByteArray := prog_6_method_15_code
def yX4_takeLaw : MethodName := ⟨RX4, "takeLaw", "()Z"⟩
abbrev cX4_takeLawBody : ByteArray := prog_6_method_16_code
def yX4_takeLawBody : MethodName := ⟨RX4, "takeLawBody", "()Z"⟩
abbrev cX4_takeOperand : ByteArray := prog_6_method_17_code
def yX4_takeOperand : MethodName := ⟨RX4, "takeOperand", "()Z"⟩
abbrev cX4_takeOpen : ByteArray := prog_6_method_18_code
def yX4_takeOpen : MethodName := ⟨RX4, "takeOpen", "()Z"⟩
abbrev cX4_takeBehindOperand : ByteArray := prog_6_method_19_code
def yX4_takeBehindOperand : MethodName := ⟨RX4, "takeBehindOperand", "()Z"⟩
abbrev cX4_countKnot : ByteArray := prog_6_method_20_code
def yX4_countKnot : MethodName := ⟨RX4, "countKnot", "()Z"⟩
abbrev cX4_await : ByteArray := prog_6_method_21_code
def yX4_await : MethodName := ⟨RX4, "await", "(I)V"⟩
abbrev cX4_release : ByteArray := prog_6_method_22_code
def yX4_release : MethodName := ⟨RX4, "release", "(I)V"⟩
abbrev cX4_rankOf : ByteArray := prog_6_method_23_code
def yX4_rankOf : MethodName := ⟨RX4, "rankOf", "(I)I"⟩
abbrev cX5_init : ByteArray := prog_7_method_1_code
def yX5_init : MethodName := ⟨RX5, "<init>", "()V"⟩
abbrev cX5_putBytes : ByteArray := prog_7_method_2_code
def yX5_putBytes : MethodName := ⟨RX5, "putBytes", "(I)V"⟩
abbrev cX5_start : ByteArray := prog_7_method_3_code
def yX5_start : MethodName := ⟨RX5, "start", "(I)V"⟩
abbrev cX5_next : ByteArray := prog_7_method_4_code
def yX5_next : MethodName := ⟨RX5, "next", "()V"⟩
abbrev cX5_isLetter : ByteArray := prog_7_method_5_code
def yX5_isLetter : MethodName := ⟨RX5, "isLetter", "(I)Z"⟩
abbrev cX5_letterNumber : ByteArray := prog_7_method_6_code
def yX5_letterNumber : MethodName := ⟨RX5, "letterNumber", "(I)I"⟩
abbrev cX5_isDigit : ByteArray := prog_7_method_7_code
def yX5_isDigit : MethodName := ⟨RX5, "isDigit", "(I)Z"⟩
abbrev cX5_takeWord : ByteArray := prog_7_method_8_code
def yX5_takeWord : MethodName := ⟨RX5, "takeWord", "()V"⟩
abbrev cX5_wordKind : ByteArray := prog_7_method_9_code
def yX5_wordKind : MethodName := ⟨RX5, "wordKind", "(I)I"⟩
abbrev cX5_takeDigits : ByteArray := prog_7_method_10_code
def yX5_takeDigits : MethodName := ⟨RX5, "takeDigits", "()V"⟩
abbrev cX5_takeSign : ByteArray := prog_7_method_11_code
def yX5_takeSign : MethodName := ⟨RX5, "takeSign", "()V"⟩
abbrev cX6_init : ByteArray := prog_8_method_1_code
def yX6_init : MethodName := ⟨RX6, "<init>", "()V"⟩
abbrev cX6_empty : ByteArray := prog_8_method_2_code
def yX6_empty : MethodName := ⟨RX6, "empty", "()V"⟩
abbrev cX6_copyFrom : ByteArray := prog_8_method_3_code
def yX6_copyFrom : MethodName := ⟨RX6, "copyFrom", "(LScreenRoom$Room;)V"⟩
abbrev cX6_isFolk : ByteArray := prog_8_method_4_code
def yX6_isFolk : MethodName := ⟨RX6, "isFolk", "(I)Z"⟩
abbrev cX6_cellUnder : ByteArray := prog_8_method_5_code
def yX6_cellUnder : MethodName := ⟨RX6, "cellUnder", "(I)I"⟩
abbrev cX6_seasonOver : ByteArray := prog_8_method_6_code
def yX6_seasonOver : MethodName := ⟨RX6, "seasonOver", "(I)I"⟩
abbrev cX6_doneByAll : ByteArray := prog_8_method_7_code
def yX6_doneByAll : MethodName := ⟨RX6, "doneByAll", "()I"⟩
abbrev cX6_ageOfAll : ByteArray := prog_8_method_8_code
def yX6_ageOfAll : MethodName := ⟨RX6, "ageOfAll", "()I"⟩
abbrev cX6_atWork : ByteArray := prog_8_method_9_code
def yX6_atWork : MethodName := ⟨RX6, "atWork", "()I"⟩
abbrev cX6_drawNumber : ByteArray := prog_8_method_10_code
def yX6_drawNumber : MethodName := ⟨RX6, "drawNumber", "()I"⟩
abbrev cX7_init : ByteArray := prog_9_method_1_code
def yX7_init : MethodName := ⟨RX7, "<init>", "()V"⟩
abbrev cX7_cellOf : ByteArray := prog_9_method_2_code
def yX7_cellOf : MethodName := ⟨RX7, "cellOf", "(II)I"⟩
abbrev cX7_rowOf : ByteArray := prog_9_method_3_code
def yX7_rowOf : MethodName := ⟨RX7, "rowOf", "(I)I"⟩
abbrev cX7_columnOf : ByteArray := prog_9_method_4_code
def yX7_columnOf : MethodName := ⟨RX7, "columnOf", "(I)I"⟩
abbrev cX7_isAnySeason : ByteArray := prog_9_method_5_code
def yX7_isAnySeason : MethodName := ⟨RX7, "isAnySeason", "(I)Z"⟩
abbrev cX7_empty : ByteArray := prog_9_method_6_code
def yX7_empty : MethodName := ⟨RX7, "empty", "(II)V"⟩
abbrev cX7_copyFrom : ByteArray := prog_9_method_7_code
def yX7_copyFrom : MethodName := ⟨RX7, "copyFrom", "(LScreenRoom$Screens;)V"⟩
abbrev cX7_isScreen : ByteArray := prog_9_method_8_code
def yX7_isScreen : MethodName := ⟨RX7, "isScreen", "(I)Z"⟩
abbrev cX7_isCell : ByteArray := prog_9_method_9_code
def yX7_isCell : MethodName := ⟨RX7, "isCell", "(II)Z"⟩
abbrev cX7_isThere : ByteArray := prog_9_method_10_code
def yX7_isThere : MethodName := ⟨RX7, "isThere", "(I)Z"⟩
abbrev cX7_place : ByteArray := prog_9_method_11_code
def yX7_place : MethodName := ⟨RX7, "place", "(IIII)V"⟩
abbrev cX7_isInRoom : ByteArray := prog_9_method_12_code
def yX7_isInRoom : MethodName := ⟨RX7, "isInRoom", "(IIII)Z"⟩
abbrev cX7_fits : ByteArray := prog_9_method_13_code
def yX7_fits : MethodName := ⟨RX7, "fits", "(IIII)Z"⟩
abbrev cX7_covers : ByteArray := prog_9_method_14_code
def yX7_covers : MethodName := ⟨RX7, "covers", "(III)Z"⟩
abbrev cX7_farFrom : ByteArray := prog_9_method_15_code
def yX7_farFrom : MethodName := ⟨RX7, "farFrom", "(III)I"⟩
abbrev cX7_nearestOf : ByteArray := prog_9_method_16_code
def yX7_nearestOf : MethodName := ⟨RX7, "nearestOf", "(III)I"⟩
abbrev cX7_refresh : ByteArray := prog_9_method_17_code
def yX7_refresh : MethodName := ⟨RX7, "refresh", "()V"⟩
abbrev cX7_beyond : ByteArray := prog_9_method_18_code
def yX7_beyond : MethodName := ⟨RX7, "beyond", "(III)I"⟩
abbrev cX7_firstCut : ByteArray := prog_9_method_19_code
def yX7_firstCut : MethodName := ⟨RX7, "firstCut", "(I)I"⟩
abbrev cX7_cutFirstWhole : ByteArray := prog_9_method_20_code
def yX7_cutFirstWhole : MethodName := ⟨RX7, "cutFirstWhole", "(I)V"⟩
abbrev cX7_makeAllWhole : ByteArray := prog_9_method_21_code
def yX7_makeAllWhole : MethodName := ⟨RX7, "makeAllWhole", "()V"⟩
abbrev cX7_cellsOf : ByteArray := prog_9_method_22_code
def yX7_cellsOf : MethodName := ⟨RX7, "cellsOf", "(I)I"⟩
abbrev cX7_freeCells : ByteArray := prog_9_method_23_code
def yX7_freeCells : MethodName := ⟨RX7, "freeCells", "()I"⟩
abbrev cX8_init : ByteArray := prog_10_method_1_code
def yX8_init : MethodName := ⟨RX8, "<init>", "()V"⟩
abbrev cX8_clear : ByteArray := prog_10_method_2_code
def yX8_clear : MethodName := ⟨RX8, "clear", "()V"⟩
abbrev cX8_byHowMany : ByteArray := prog_10_method_3_code
def yX8_byHowMany : MethodName := ⟨RX8, "byHowMany", "()I"⟩
abbrev cX8_addSight : ByteArray := prog_10_method_4_code
def yX8_addSight : MethodName := ⟨RX8, "addSight", "(IIIZ)I"⟩
abbrev cX8_addStrike : ByteArray := prog_10_method_5_code
def yX8_addStrike : MethodName := ⟨RX8, "addStrike", "(I)I"⟩
abbrev cX8_strikeAll : ByteArray := prog_10_method_6_code
def yX8_strikeAll : MethodName := ⟨RX8, "strikeAll", "()V"⟩
abbrev cX8_isKnown : ByteArray := prog_10_method_7_code
def yX8_isKnown : MethodName := ⟨RX8, "isKnown", "(I)Z"⟩
abbrev cX8_lastHourKnown : ByteArray := prog_10_method_8_code
def yX8_lastHourKnown : MethodName := ⟨RX8, "lastHourKnown", "()I"⟩
abbrev cX8_agree : ByteArray := prog_10_method_9_code
def yX8_agree : MethodName := ⟨RX8, "agree", "(LScreenRoom$Screens;I)Z"⟩
abbrev cX9_init : ByteArray := prog_11_method_1_code
def yX9_init : MethodName := ⟨RX9, "<init>", "()V"⟩
abbrev cX9_clear : ByteArray := prog_11_method_2_code
def yX9_clear : MethodName := ⟨RX9, "clear", "()V"⟩
abbrev cX9_screenNamed : ByteArray := prog_11_method_3_code
def yX9_screenNamed : MethodName := ⟨RX9, "screenNamed", "(I)I"⟩
abbrev cX9_folkNamed : ByteArray := prog_11_method_4_code
def yX9_folkNamed : MethodName := ⟨RX9, "folkNamed", "(I)I"⟩
abbrev cX10_init : ByteArray := prog_12_method_1_code
def yX10_init : MethodName := ⟨RX10, "<init>", "()V"⟩
abbrev cX10_begin : ByteArray := prog_12_method_2_code
def yX10_begin : MethodName := ⟨RX10, "begin", "(I[I)V"⟩
abbrev cX10_walk : ByteArray := prog_12_method_3_code
def yX10_walk : MethodName := ⟨RX10, "walk", "(LScreenRoom$Screens;I[I)V"⟩
abbrev cX10_walkYoung : ByteArray := prog_12_method_4_code
def yX10_walkYoung : MethodName := ⟨RX10, "walkYoung", "(LScreenRoom$Screens;I[I)V"⟩
abbrev cX10_nearestOpen : ByteArray := prog_12_method_5_code
def yX10_nearestOpen : MethodName := ⟨RX10, "nearestOpen", "([I)I"⟩
abbrev cX10_meetingCell : ByteArray := prog_12_method_6_code
def yX10_meetingCell : MethodName := ⟨RX10, "meetingCell", "(LScreenRoom$Screens;)I"⟩
abbrev cX11_init : ByteArray := prog_1_method_1_code
def yX11_init : MethodName := ⟨RX11, "<init>", "()V"⟩
abbrev cX11_feed : ByteArray := prog_1_method_2_code
def yX11_feed : MethodName := ⟨RX11, "feed", "(IIIII)I"⟩
abbrev cX11_text : ByteArray := prog_1_method_3_code
def yX11_text : MethodName := ⟨RX11, "text", "(I)I"⟩
abbrev cX11_fault : ByteArray := prog_1_method_4_code
def yX11_fault : MethodName := ⟨RX11, "fault", "(I)I"⟩
abbrev cX11_named : ByteArray := prog_1_method_5_code
def yX11_named : MethodName := ⟨RX11, "named", "(II)I"⟩
abbrev cX11_folk : ByteArray := prog_1_method_6_code
def yX11_folk : MethodName := ⟨RX11, "folk", "(II)I"⟩
abbrev cX11_screen : ByteArray := prog_1_method_7_code
def yX11_screen : MethodName := ⟨RX11, "screen", "(II)I"⟩
abbrev cX11_season : ByteArray := prog_1_method_8_code
def yX11_season : MethodName := ⟨RX11, "season", "(II)I"⟩
abbrev cX11_leaf : ByteArray := prog_1_method_9_code
def yX11_leaf : MethodName := ⟨RX11, "leaf", "(II)I"⟩
abbrev cX11_law : ByteArray := prog_1_method_10_code
def yX11_law : MethodName := ⟨RX11, "law", "(II)J"⟩
abbrev cX11_carry : ByteArray := prog_1_method_11_code
def yX11_carry : MethodName := ⟨RX11, "carry", "(III)Z"⟩
abbrev cX11_turn : ByteArray := prog_1_method_12_code
def yX11_turn : MethodName := ⟨RX11, "turn", "(I)Z"⟩
abbrev cX11_placed : ByteArray := prog_1_method_13_code
def yX11_placed : MethodName := ⟨RX11, "placed", "(IIII)Z"⟩
abbrev cX11_mend : ByteArray := prog_1_method_14_code
def yX11_mend : MethodName := ⟨RX11, "mend", "(I)I"⟩
abbrev cX11_step : ByteArray := prog_1_method_15_code
def yX11_step : MethodName := ⟨RX11, "step", "(II)I"⟩
abbrev cX11_go : ByteArray := prog_1_method_16_code
def yX11_go : MethodName := ⟨RX11, "go", "(I)I"⟩
abbrev cX11_isSpan : ByteArray := prog_1_method_17_code
def yX11_isSpan : MethodName := ⟨RX11, "isSpan", "(I)Z"⟩
abbrev cX11_ahead : ByteArray := prog_1_method_18_code
def yX11_ahead : MethodName := ⟨RX11, "ahead", "(III)I"⟩
abbrev cX11_isAskedAhead : ByteArray := prog_1_method_19_code
def yX11_isAskedAhead : MethodName := ⟨RX11, "isAskedAhead", "(II)Z"⟩
abbrev cX11_steps : ByteArray := prog_1_method_20_code
def yX11_steps : MethodName := ⟨RX11, "steps", "(III)I"⟩
abbrev cX11_young : ByteArray := prog_1_method_21_code
def yX11_young : MethodName := ⟨RX11, "young", "(III)I"⟩
abbrev cX11_wayTo : ByteArray := prog_1_method_22_code
def yX11_wayTo : MethodName := ⟨RX11, "wayTo", "(II)I"⟩
abbrev cX11_stand : ByteArray := prog_1_method_23_code
def yX11_stand : MethodName := ⟨RX11, "stand", "(II)I"⟩
abbrev cX11_ofSeason : ByteArray := prog_1_method_24_code
def yX11_ofSeason : MethodName := ⟨RX11, "ofSeason", "(I)I"⟩
abbrev cX11_worth : ByteArray := prog_1_method_25_code
def yX11_worth : MethodName := ⟨RX11, "worth", "(I)I"⟩
abbrev cX11_rests : ByteArray := prog_1_method_26_code
def yX11_rests : MethodName := ⟨RX11, "rests", "(II)I"⟩
abbrev cX11_rest : ByteArray := prog_1_method_27_code
def yX11_rest : MethodName := ⟨RX11, "rest", "(III)I"⟩
abbrev cX11_areTwoScreens : ByteArray := prog_1_method_28_code
def yX11_areTwoScreens : MethodName := ⟨RX11, "areTwoScreens", "(II)Z"⟩
abbrev cX11_holds : ByteArray := prog_1_method_29_code
def yX11_holds : MethodName := ⟨RX11, "holds", "(III)J"⟩
abbrev cX11_meet : ByteArray := prog_1_method_30_code
def yX11_meet : MethodName := ⟨RX11, "meet", "(III)I"⟩
abbrev cX11_needed : ByteArray := prog_1_method_31_code
def yX11_needed : MethodName := ⟨RX11, "needed", "()I"⟩
abbrev cX11_nextTo : ByteArray := prog_1_method_32_code
def yX11_nextTo : MethodName := ⟨RX11, "nextTo", "(I)I"⟩
abbrev cX11_see : ByteArray := prog_1_method_33_code
def yX11_see : MethodName := ⟨RX11, "see", "(IIIIZ)I"⟩
abbrev cX11_out : ByteArray := prog_1_method_34_code
def yX11_out : MethodName := ⟨RX11, "out", "(I)I"⟩
abbrev cX11_known : ByteArray := prog_1_method_35_code
def yX11_known : MethodName := ⟨RX11, "known", "(I)Z"⟩
abbrev cX11_painted : ByteArray := prog_1_method_36_code
def yX11_painted : MethodName := ⟨RX11, "painted", "(I)I"⟩
abbrev cX11_chance : ByteArray := prog_1_method_37_code
def yX11_chance : MethodName := ⟨RX11, "chance", "(III)I"⟩
abbrev cX11_tried : ByteArray := prog_1_method_38_code
def yX11_tried : MethodName := ⟨RX11, "tried", "(III)I"⟩
abbrev cX11_undo : ByteArray := prog_1_method_39_code
def yX11_undo : MethodName := ⟨RX11, "undo", "()I"⟩
abbrev cX11_keep : ByteArray := prog_1_method_40_code
def yX11_keep : MethodName := ⟨RX11, "keep", "()I"⟩
abbrev cX11_back : ByteArray := prog_1_method_41_code
def yX11_back : MethodName := ⟨RX11, "back", "()I"⟩
abbrev cX11_count : ByteArray := prog_1_method_42_code
def yX11_count : MethodName := ⟨RX11, "count", "(I)I"⟩
abbrev cX12_init : ByteArray := prog_14_method_1_code
def yX12_init : MethodName := ⟨RX12, "<init>", "()V"⟩
abbrev cX12_thrown : ByteArray := prog_14_method_2_code
def yX12_thrown : MethodName := ⟨RX12, "thrown", "()I"⟩
abbrev cX12_feed : ByteArray := prog_14_method_3_code
def yX12_feed : MethodName := ⟨RX12, "feed", "(IIIII)I"⟩
abbrev cX12_here : ByteArray := prog_14_method_4_code
def yX12_here : MethodName := ⟨RX12, "here", "()I"⟩
abbrev cX12_isSmall : ByteArray := prog_14_method_5_code
def yX12_isSmall : MethodName := ⟨RX12, "isSmall", "(I)Z"⟩
abbrev cX12_isDigit : ByteArray := prog_14_method_6_code
def yX12_isDigit : MethodName := ⟨RX12, "isDigit", "(I)Z"⟩
abbrev cX12_token : ByteArray := prog_14_method_7_code
def yX12_token : MethodName := ⟨RX12, "token", "()V"⟩
abbrev cX12_sign : ByteArray := prog_14_method_8_code
def yX12_sign : MethodName := ⟨RX12, "sign", "(I)V"⟩
abbrev cX12_word : ByteArray := prog_14_method_9_code
def yX12_word : MethodName := ⟨RX12, "word", "()I"⟩
abbrev cX12_name : ByteArray := prog_14_method_10_code
def yX12_name : MethodName := ⟨RX12, "name", "()V"⟩
abbrev cX12_wrong : ByteArray := prog_14_method_11_code
def yX12_wrong : MethodName := ⟨RX12, "wrong", "(I)V"⟩
abbrev cX12_isWord : ByteArray := prog_14_method_12_code
def yX12_isWord : MethodName := ⟨RX12, "isWord", "(I)Z"⟩
abbrev cX12_isSign : ByteArray := prog_14_method_13_code
def yX12_isSign : MethodName := ⟨RX12, "isSign", "(I)Z"⟩
abbrev cX12_goOn : ByteArray := prog_14_method_14_code
def yX12_goOn : MethodName := ⟨RX12, "goOn", "()V"⟩
abbrev cX12_numeral : ByteArray := prog_14_method_15_code
def yX12_numeral : MethodName := ⟨RX12, "numeral", "(II)I"⟩
abbrev cX12_found : ByteArray := prog_14_method_16_code
def yX12_found : MethodName := ⟨RX12, "found", "([IIII)I"⟩
abbrev cX12_fresh : ByteArray := prog_14_method_17_code
def yX12_fresh : MethodName := ⟨RX12, "fresh", "([III)I"⟩
abbrev cX12_fresher : ByteArray := prog_14_method_18_code
def yX12_fresher : MethodName := ⟨RX12, "fresher", "(I)I"⟩
abbrev cX12_reads : ByteArray := prog_14_method_19_code
def yX12_reads : MethodName := ⟨RX12, "reads", "(II)V"⟩
abbrev cX12_toldAhead : ByteArray := prog_14_method_20_code
def yX12_toldAhead : MethodName := ⟨RX12, "toldAhead", "([III)I"⟩
abbrev cX12_isFull : ByteArray := prog_14_method_21_code
def yX12_isFull : MethodName := ⟨RX12, "isFull", "(I)Z"⟩
abbrev cX12_isOnce : ByteArray := prog_14_method_22_code
def yX12_isOnce : MethodName := ⟨RX12, "isOnce", "(I)Z"⟩
abbrev cX12_line : ByteArray := prog_14_method_23_code
def yX12_line : MethodName := ⟨RX12, "line", "()V"⟩
abbrev cX12_isOn : ByteArray := prog_14_method_24_code
def yX12_isOn : MethodName := ⟨RX12, "isOn", "(III)Z"⟩
abbrev cX12_isFitting : ByteArray := prog_14_method_25_code
def yX12_isFitting : MethodName := ⟨RX12, "isFitting", "(I)Z"⟩
abbrev cX12_screenLine : ByteArray := prog_14_method_26_code
def yX12_screenLine : MethodName := ⟨RX12, "screenLine", "(I)V"⟩
abbrev cX12_lawLine : ByteArray := prog_14_method_27_code
def yX12_lawLine : MethodName := ⟨RX12, "lawLine", "()V"⟩
abbrev cX12_puts : ByteArray := prog_14_method_28_code
def yX12_puts : MethodName := ⟨RX12, "puts", "(II)V"⟩
abbrev cX12_knot : ByteArray := prog_14_method_29_code
def yX12_knot : MethodName := ⟨RX12, "knot", "()V"⟩
abbrev cX12_expression : ByteArray := prog_14_method_30_code
def yX12_expression : MethodName := ⟨RX12, "expression", "()V"⟩
abbrev cX12_conjunction : ByteArray := prog_14_method_31_code
def yX12_conjunction : MethodName := ⟨RX12, "conjunction", "()V"⟩
abbrev cX12_negation : ByteArray := prog_14_method_32_code
def yX12_negation : MethodName := ⟨RX12, "negation", "()V"⟩
abbrev cX12_sum : ByteArray := prog_14_method_33_code
def yX12_sum : MethodName := ⟨RX12, "sum", "()V"⟩
abbrev cX12_product : ByteArray := prog_14_method_34_code
def yX12_product : MethodName := ⟨RX12, "product", "()V"⟩
abbrev cX12_primary : ByteArray := prog_14_method_35_code
def yX12_primary : MethodName := ⟨RX12, "primary", "()V"⟩
abbrev cX12_half : ByteArray := prog_14_method_36_code
def yX12_half : MethodName := ⟨RX12, "half", "([I)V"⟩
abbrev cX12_text : ByteArray := prog_14_method_37_code
def yX12_text : MethodName := ⟨RX12, "text", "(I)I"⟩
abbrev cX12_fault : ByteArray := prog_14_method_38_code
def yX12_fault : MethodName := ⟨RX12, "fault", "(I)I"⟩
abbrev cX12_named : ByteArray := prog_14_method_39_code
def yX12_named : MethodName := ⟨RX12, "named", "(II)I"⟩
abbrev cX12_is : ByteArray := prog_14_method_40_code
def yX12_is : MethodName := ⟨RX12, "is", "(Z)J"⟩
abbrev cX12_works : ByteArray := prog_14_method_41_code
def yX12_works : MethodName := ⟨RX12, "works", "(I)Z"⟩
abbrev cX12_goes : ByteArray := prog_14_method_42_code
def yX12_goes : MethodName := ⟨RX12, "goes", "(I)Z"⟩
abbrev cX12_hasLaw : ByteArray := prog_14_method_43_code
def yX12_hasLaw : MethodName := ⟨RX12, "hasLaw", "(I)Z"⟩
abbrev cX12_starts : ByteArray := prog_14_method_44_code
def yX12_starts : MethodName := ⟨RX12, "starts", "(I)V"⟩
abbrev cX12_begins : ByteArray := prog_14_method_45_code
def yX12_begins : MethodName := ⟨RX12, "begins", "()V"⟩
abbrev cX12_copies : ByteArray := prog_14_method_46_code
def yX12_copies : MethodName := ⟨RX12, "copies", "(II)V"⟩
abbrev cX12_isScreen : ByteArray := prog_14_method_47_code
def yX12_isScreen : MethodName := ⟨RX12, "isScreen", "(I)Z"⟩
abbrev cX12_isFolk : ByteArray := prog_14_method_48_code
def yX12_isFolk : MethodName := ⟨RX12, "isFolk", "(I)Z"⟩
abbrev cX12_isCell : ByteArray := prog_14_method_49_code
def yX12_isCell : MethodName := ⟨RX12, "isCell", "(II)Z"⟩
abbrev cX12_bitsOf : ByteArray := prog_14_method_50_code
def yX12_bitsOf : MethodName := ⟨RX12, "bitsOf", "(I)I"⟩
abbrev cX12_isHere : ByteArray := prog_14_method_51_code
def yX12_isHere : MethodName := ⟨RX12, "isHere", "(I)Z"⟩
abbrev cX12_colourOf : ByteArray := prog_14_method_52_code
def yX12_colourOf : MethodName := ⟨RX12, "colourOf", "(I)I"⟩
abbrev cX12_leafRow : ByteArray := prog_14_method_53_code
def yX12_leafRow : MethodName := ⟨RX12, "leafRow", "(III)I"⟩
abbrev cX12_leafColumn : ByteArray := prog_14_method_54_code
def yX12_leafColumn : MethodName := ⟨RX12, "leafColumn", "(III)I"⟩
abbrev cX12_hasLeaf : ByteArray := prog_14_method_55_code
def yX12_hasLeaf : MethodName := ⟨RX12, "hasLeaf", "(IIIIZ)Z"⟩
abbrev cX12_leafAt : ByteArray := prog_14_method_56_code
def yX12_leafAt : MethodName := ⟨RX12, "leafAt", "(III)I"⟩
abbrev cX12_isInRoom : ByteArray := prog_14_method_57_code
def yX12_isInRoom : MethodName := ⟨RX12, "isInRoom", "(II)Z"⟩
abbrev cX12_fitsIn : ByteArray := prog_14_method_58_code
def yX12_fitsIn : MethodName := ⟨RX12, "fitsIn", "(II)Z"⟩
abbrev cX12_farOf : ByteArray := prog_14_method_59_code
def yX12_farOf : MethodName := ⟨RX12, "farOf", "(IIII)I"⟩
abbrev cX12_giverOf : ByteArray := prog_14_method_60_code
def yX12_giverOf : MethodName := ⟨RX12, "giverOf", "(III)I"⟩
abbrev cX12_seasonAt : ByteArray := prog_14_method_61_code
def yX12_seasonAt : MethodName := ⟨RX12, "seasonAt", "(III)I"⟩
abbrev cX12_wholeMany : ByteArray := prog_14_method_62_code
def yX12_wholeMany : MethodName := ⟨RX12, "wholeMany", "(I)I"⟩
abbrev cX12_turnsOf : ByteArray := prog_14_method_63_code
def yX12_turnsOf : MethodName := ⟨RX12, "turnsOf", "(II)I"⟩
abbrev cX12_callsFolk : ByteArray := prog_14_method_64_code
def yX12_callsFolk : MethodName := ⟨RX12, "callsFolk", "(IIIII)V"⟩
abbrev cX12_callsScreen : ByteArray := prog_14_method_65_code
def yX12_callsScreen : MethodName := ⟨RX12, "callsScreen", "(II)V"⟩
abbrev cX12_within : ByteArray := prog_14_method_66_code
def yX12_within : MethodName := ⟨RX12, "within", "(III)I"⟩
abbrev cX12_carries : ByteArray := prog_14_method_67_code
def yX12_carries : MethodName := ⟨RX12, "carries", "(IIII)Z"⟩
abbrev cX12_rowBy : ByteArray := prog_14_method_68_code
def yX12_rowBy : MethodName := ⟨RX12, "rowBy", "(I)I"⟩
abbrev cX12_columnBy : ByteArray := prog_14_method_69_code
def yX12_columnBy : MethodName := ⟨RX12, "columnBy", "(I)I"⟩
abbrev cX12_isOpen : ByteArray := prog_14_method_70_code
def yX12_isOpen : MethodName := ⟨RX12, "isOpen", "(III)Z"⟩
abbrev cX12_canStep : ByteArray := prog_14_method_71_code
def yX12_canStep : MethodName := ⟨RX12, "canStep", "(III)Z"⟩
abbrev cX12_goesBy : ByteArray := prog_14_method_72_code
def yX12_goesBy : MethodName := ⟨RX12, "goesBy", "(III)V"⟩
abbrev cX12_hasWork : ByteArray := prog_14_method_73_code
def yX12_hasWork : MethodName := ⟨RX12, "hasWork", "(II)Z"⟩
abbrev cX12_works_ : ByteArray := prog_14_method_74_code
def yX12_works_ : MethodName := ⟨RX12, "works", "(II)V"⟩
abbrev cX12_isCutNow : ByteArray := prog_14_method_75_code
def yX12_isCutNow : MethodName := ⟨RX12, "isCutNow", "(IIZ)Z"⟩
abbrev cX12_cuts : ByteArray := prog_14_method_76_code
def yX12_cuts : MethodName := ⟨RX12, "cuts", "(IZ)V"⟩
abbrev cX12_passes : ByteArray := prog_14_method_77_code
def yX12_passes : MethodName := ⟨RX12, "passes", "(IZ)V"⟩
abbrev cX12_goesOn : ByteArray := prog_14_method_78_code
def yX12_goesOn : MethodName := ⟨RX12, "goesOn", "(I)V"⟩
abbrev cX12_doneAll : ByteArray := prog_14_method_79_code
def yX12_doneAll : MethodName := ⟨RX12, "doneAll", "(I)I"⟩
abbrev cX12_cellsOf : ByteArray := prog_14_method_80_code
def yX12_cellsOf : MethodName := ⟨RX12, "cellsOf", "(II)I"⟩
abbrev cX12_workers : ByteArray := prog_14_method_81_code
def yX12_workers : MethodName := ⟨RX12, "workers", "(I)I"⟩
abbrev cX12_folk : ByteArray := prog_14_method_82_code
def yX12_folk : MethodName := ⟨RX12, "folk", "(II)I"⟩
abbrev cX12_screen : ByteArray := prog_14_method_83_code
def yX12_screen : MethodName := ⟨RX12, "screen", "(II)I"⟩
abbrev cX12_season : ByteArray := prog_14_method_84_code
def yX12_season : MethodName := ⟨RX12, "season", "(II)I"⟩
abbrev cX12_leaf : ByteArray := prog_14_method_85_code
def yX12_leaf : MethodName := ⟨RX12, "leaf", "(II)I"⟩
abbrev cX12_law : ByteArray := prog_14_method_86_code
def yX12_law : MethodName := ⟨RX12, "law", "(II)J"⟩
abbrev cX12_keepNow : ByteArray := prog_14_method_87_code
def yX12_keepNow : MethodName := ⟨RX12, "keepNow", "()V"⟩
abbrev cX12_carry : ByteArray := prog_14_method_88_code
def yX12_carry : MethodName := ⟨RX12, "carry", "(III)Z"⟩
abbrev cX12_turn : ByteArray := prog_14_method_89_code
def yX12_turn : MethodName := ⟨RX12, "turn", "(I)Z"⟩
abbrev cX12_mend : ByteArray := prog_14_method_90_code
def yX12_mend : MethodName := ⟨RX12, "mend", "(I)I"⟩
abbrev cX12_step : ByteArray := prog_14_method_91_code
def yX12_step : MethodName := ⟨RX12, "step", "(II)I"⟩
abbrev cX12_go : ByteArray := prog_14_method_92_code
def yX12_go : MethodName := ⟨RX12, "go", "(I)I"⟩
abbrev cX12_ahead : ByteArray := prog_14_method_93_code
def yX12_ahead : MethodName := ⟨RX12, "ahead", "(III)I"⟩
abbrev cX12_layWays : ByteArray := prog_14_method_94_code
def yX12_layWays : MethodName := ⟨RX12, "layWays", "(IIIZ)V"⟩
abbrev cX12_isNearer : ByteArray := prog_14_method_95_code
def yX12_isNearer : MethodName := ⟨RX12, "isNearer", "(IIIIZ)Z"⟩
abbrev cX12_wayFor : ByteArray := prog_14_method_96_code
def yX12_wayFor : MethodName := ⟨RX12, "wayFor", "(IIIZ)I"⟩
abbrev cX12_steps : ByteArray := prog_14_method_97_code
def yX12_steps : MethodName := ⟨RX12, "steps", "(III)I"⟩
abbrev cX12_young : ByteArray := prog_14_method_98_code
def yX12_young : MethodName := ⟨RX12, "young", "(III)I"⟩
abbrev cX12_meet : ByteArray := prog_14_method_99_code
def yX12_meet : MethodName := ⟨RX12, "meet", "(III)I"⟩
abbrev cX12_stand : ByteArray := prog_14_method_100_code
def yX12_stand : MethodName := ⟨RX12, "stand", "(II)I"⟩
abbrev cX12_ofSeason : ByteArray := prog_14_method_101_code
def yX12_ofSeason : MethodName := ⟨RX12, "ofSeason", "(I)I"⟩
abbrev cX12_rowsOf : ByteArray := prog_14_method_102_code
def yX12_rowsOf : MethodName := ⟨RX12, "rowsOf", "(I)I"⟩
abbrev cX12_workersBy : ByteArray := prog_14_method_103_code
def yX12_workersBy : MethodName := ⟨RX12, "workersBy", "(I)I"⟩
abbrev cX12_worth : ByteArray := prog_14_method_104_code
def yX12_worth : MethodName := ⟨RX12, "worth", "(I)I"⟩
abbrev cX12_doAllWork : ByteArray := prog_14_method_105_code
def yX12_doAllWork : MethodName := ⟨RX12, "doAllWork", "(I)Z"⟩
abbrev cX12_needed : ByteArray := prog_14_method_106_code
def yX12_needed : MethodName := ⟨RX12, "needed", "()I"⟩
abbrev cX12_canTurn : ByteArray := prog_14_method_107_code
def yX12_canTurn : MethodName := ⟨RX12, "canTurn", "(I)Z"⟩
abbrev cX12_hasOf : ByteArray := prog_14_method_108_code
def yX12_hasOf : MethodName := ⟨RX12, "hasOf", "(IIII)I"⟩
abbrev cX12_isRest : ByteArray := prog_14_method_109_code
def yX12_isRest : MethodName := ⟨RX12, "isRest", "(III)Z"⟩
abbrev cX12_restOf : ByteArray := prog_14_method_110_code
def yX12_restOf : MethodName := ⟨RX12, "restOf", "(III)I"⟩
abbrev cX12_areTwo : ByteArray := prog_14_method_111_code
def yX12_areTwo : MethodName := ⟨RX12, "areTwo", "(II)Z"⟩
abbrev cX12_rests : ByteArray := prog_14_method_112_code
def yX12_rests : MethodName := ⟨RX12, "rests", "(II)I"⟩
abbrev cX12_rest : ByteArray := prog_14_method_113_code
def yX12_rest : MethodName := ⟨RX12, "rest", "(III)I"⟩
abbrev cX12_common : ByteArray := prog_14_method_114_code
def yX12_common : MethodName := ⟨RX12, "common", "(JJ)J"⟩
abbrev cX12_holds : ByteArray := prog_14_method_115_code
def yX12_holds : MethodName := ⟨RX12, "holds", "(III)J"⟩
abbrev cX12_nextTo : ByteArray := prog_14_method_116_code
def yX12_nextTo : MethodName := ⟨RX12, "nextTo", "(I)I"⟩
abbrev cX12_see : ByteArray := prog_14_method_117_code
def yX12_see : MethodName := ⟨RX12, "see", "(IIIIZ)I"⟩
abbrev cX12_out : ByteArray := prog_14_method_118_code
def yX12_out : MethodName := ⟨RX12, "out", "(I)I"⟩
abbrev cX12_known : ByteArray := prog_14_method_119_code
def yX12_known : MethodName := ⟨RX12, "known", "(I)Z"⟩
abbrev cX12_knownMany : ByteArray := prog_14_method_120_code
def yX12_knownMany : MethodName := ⟨RX12, "knownMany", "()I"⟩
abbrev cX12_isSo : ByteArray := prog_14_method_121_code
def yX12_isSo : MethodName := ⟨RX12, "isSo", "(I)Z"⟩
abbrev cX12_fitsPaint : ByteArray := prog_14_method_122_code
def yX12_fitsPaint : MethodName := ⟨RX12, "fitsPaint", "(I)Z"⟩
abbrev cX12_painted : ByteArray := prog_14_method_123_code
def yX12_painted : MethodName := ⟨RX12, "painted", "(I)I"⟩
abbrev cX12_chance : ByteArray := prog_14_method_124_code
def yX12_chance : MethodName := ⟨RX12, "chance", "(III)I"⟩
abbrev cX12_tried : ByteArray := prog_14_method_125_code
def yX12_tried : MethodName := ⟨RX12, "tried", "(III)I"⟩
abbrev cX12_undo : ByteArray := prog_14_method_126_code
def yX12_undo : MethodName := ⟨RX12, "undo", "()I"⟩
abbrev cX12_keep : ByteArray := prog_14_method_127_code
def yX12_keep : MethodName := ⟨RX12, "keep", "()I"⟩
abbrev cX12_back : ByteArray := prog_14_method_128_code
def yX12_back : MethodName := ⟨RX12, "back", "()I"⟩
abbrev cX12_count : ByteArray := prog_14_method_129_code
def yX12_count : MethodName := ⟨RX12, "count", "(I)I"⟩
abbrev cJ6_bitCount_0f7a4 : ByteArray := prog_20_method_49_code
def yJ6_bitCount_0f7a4 : MethodName := ⟨RJ6, "bitCount", "(I)I"⟩
abbrev vwCl : List vw_C := [(RX0, TX0, 2), (RX2, TX2, 10), (RX3, TX3, 8), (RX4, TX4, 12), (RX5, TX5, 8), (RX6, TX6, 10), (RX7, TX7, 14), (RX8, TX8, 8), (RX9, TX9, 18), (RX10, TX10, 4), (RX11, TX11, 10), (RX12, TX12, 68)]
abbrev sr_I : Type := Instr × List Nat
/-- an object's fields, as it is made -/
def sr_df : Nat → List Value
  | 0 => [.int 0, .null]
  | 1 => [.int 0, .int 0, .int 0, .int 0, .null, .null, .null, .null, .null, .null]
  | 2 => [.int 0, .int 0, .null, .null, .null, .null, .null, .null]
  | 3 => [.int 0, .int 0, .null, .null, .int 0, .int 0, .null, .int 0, .int 0, .int 0, .int 0, .int 0]
  | 4 => [.null, .int 0, .null, .int 0, .int 0, .int 0, .int 0, .int 0]
  | 5 => [.null, .int 0, .null, .null, .null, .null, .null, .int 0, .int 0, .long 0]
  | 6 => [.int 0, .int 0, .int 0, .int 0, .int 0, .null, .null, .null, .null, .null, .null, .null, .null, .null]
  | 7 => [.int 0, .int 0, .null, .null, .null, .null, .null, .null]
  | 8 => [.null, .null, .null, .null, .int 0, .int 0, .int 0, .int 0, .int 0, .int 0, .null, .null, .null, .null, .int 0, .null, .null, .null]
  | 9 => [.null, .null, .null, .null]
  | 10 => [.null, .null, .null, .null, .null, .int 0, .null, .null, .null, .null]
  | 11 => [.int 0, .null, .int 0, .null, .null, .null, .null, .null, .null, .null, .null, .null, .null, .null, .null, .null, .null, .null, .null, .null, .null, .null, .null, .null, .null, .null, .int 0, .int 0, .int 0, .int 0, .int 0, .int 0, .int 0, .int 0, .int 0, .int 0, .int 0, .int 0, .int 0, .null, .null, .int 0, .null, .null, .null, .null, .null, .null, .null, .null, .null, .null, .null, .int 0, .int 0, .int 0, .int 0, .int 0, .int 0, .null, .int 0, .int 0, .null, .null, .null, .null, .null, .null]
  | _ => []
/-- 0: X0_init -/
def sr_b0 : List (List sr_I) := [[(.aload 0, []), (.invokespecial 0, [9]), (.aload 0, []), (.sipush 0, [0]), (.putfield 0, [0, 0, 0]), (.aload 0, []), (.sipush 0, [100]), (.newarray .int, []), (.putfield 0, [0, 1, 3]), (.return_, [])]]
def sr_m0 : List (List Bool) := [[true]]
def sr_p0 : List Nat := [0]
/-- 1: X0_clear -/
def sr_b1 : List (List sr_I) := [[(.aload 0, []), (.sipush 0, [0]), (.putfield 0, [0, 0, 0]), (.return_, [])]]
def sr_m1 : List (List Bool) := [[true]]
def sr_p1 : List Nat := [0]
/-- 2: X0_addScreen -/
def sr_b2 : List (List sr_I) := [[(.aload 0, []), (.iload 2, []), (.aload 1, []), (.getfield 0, [6, 6]), (.iload 2, []), (.iaload, []), (.aload 1, []), (.getfield 0, [6, 7]), (.iload 2, []), (.iaload, []), (.aload 1, []), (.getfield 0, [6, 9]), (.iload 2, []), (.iaload, []), (.aload 1, []), (.getfield 0, [6, 10]), (.iload 2, []), (.iaload, []), (.invokevirtual 0, [4, 6, 0]), (.return_, [])]]
def sr_m2 : List (List Bool) := [[true, true, true]]
def sr_p2 : List Nat := [0]
/-- 3: X0_addFolk -/
def sr_b3 : List (List sr_I) := [[(.aload 0, []), (.sipush 0, [8]), (.iload 2, []), (.iadd, []), (.aload 1, []), (.getfield 0, [5, 3]), (.iload 2, []), (.iaload, []), (.aload 1, []), (.getfield 0, [5, 4]), (.iload 2, []), (.iaload, []), (.aload 1, []), (.getfield 0, [5, 2]), (.iload 2, []), (.iaload, []), (.sipush 0, [0]), (.invokevirtual 0, [4, 6, 0]), (.return_, [])]]
def sr_m3 : List (List Bool) := [[true, true, true]]
def sr_p3 : List Nat := [0]
/-- 4: X0_add -/
def sr_b4 : List (List sr_I) := [[(.aload 0, []), (.getfield 0, [0, 0]), (.sipush 0, [20]), (.if_icmp .lt 0, [4001]), (.aload 0, []), (.getfield 0, [0, 1]), (.sipush 0, [5]), (.aload 0, []), (.getfield 0, [0, 1]), (.sipush 0, [0]), (.sipush 0, [95]), (.invokestatic 0, [6]), (.aload 0, []), (.sipush 0, [19]), (.putfield 0, [0, 0, 0]), (.nop, [4001])],
  [(.aload 0, []), (.getfield 0, [0, 0]), (.sipush 0, [5]), (.imul, []), (.istore 6, []), (.aload 0, []), (.getfield 0, [0, 1]), (.iload 6, []), (.iload 1, []), (.iastore, []), (.aload 0, []), (.getfield 0, [0, 1]), (.iload 6, []), (.sipush 0, [1]), (.iadd, []), (.iload 2, []), (.iastore, []), (.aload 0, []), (.getfield 0, [0, 1]), (.iload 6, []), (.sipush 0, [2]), (.iadd, []), (.iload 3, []), (.iastore, []), (.aload 0, []), (.getfield 0, [0, 1]), (.iload 6, []), (.sipush 0, [3]), (.iadd, []), (.iload 4, []), (.iastore, []), (.aload 0, []), (.getfield 0, [0, 1]), (.iload 6, []), (.sipush 0, [4]), (.iadd, []), (.iload 5, []), (.iastore, []), (.aload 0, []), (.dup, []), (.getfield 0, [0, 0]), (.sipush 0, [1]), (.iadd, []), (.putfield 0, [0, 0, 0]), (.return_, [])]]
def sr_m4 : List (List Bool) := [[true, true, true, true, true, true, false], [true, true, true, true, true, true, false]]
def sr_p4 : List Nat := [0, 30]
/-- 5: X0_takeBack -/
def sr_b5 : List (List sr_I) := [[(.aload 0, []), (.getfield 0, [0, 0]), (.ifCond .gt 0, [5001]), (.return_, [])],
  [(.aload 0, []), (.dup, []), (.getfield 0, [0, 0]), (.sipush 0, [1]), (.isub, []), (.putfield 0, [0, 0, 0]), (.aload 0, []), (.getfield 0, [0, 0]), (.sipush 0, [5]), (.imul, []), (.istore 2, []), (.aload 0, []), (.getfield 0, [0, 1]), (.iload 2, []), (.iaload, []), (.istore 3, []), (.iload 3, []), (.sipush 0, [8]), (.isub, []), (.istore 4, []), (.aload 1, []), (.iload 4, []), (.invokevirtual 0, [77, 2, 5]), (.ifCond .eq 0, [5002]), (.aload 1, []), (.getfield 0, [5, 3]), (.iload 4, []), (.aload 0, []), (.getfield 0, [0, 1]), (.iload 2, []), (.sipush 0, [1]), (.iadd, []), (.iaload, []), (.iastore, []), (.aload 1, []), (.getfield 0, [5, 4]), (.iload 4, []), (.aload 0, []), (.getfield 0, [0, 1]), (.iload 2, []), (.sipush 0, [2]), (.iadd, []), (.iaload, []), (.iastore, []), (.aload 1, []), (.getfield 0, [5, 2]), (.iload 4, []), (.aload 0, []), (.getfield 0, [0, 1]), (.iload 2, []), (.sipush 0, [3]), (.iadd, []), (.iaload, []), (.iastore, []), (.goto 0, [5003])],
  [(.aload 1, []), (.getfield 0, [5, 0]), (.iload 3, []), (.invokevirtual 0, [91, 2, 6]), (.ifCond .eq 0, [5003]), (.aload 1, []), (.getfield 0, [5, 0]), (.iload 3, []), (.aload 0, []), (.getfield 0, [0, 1]), (.iload 2, []), (.sipush 0, [1]), (.iadd, []), (.iaload, []), (.aload 0, []), (.getfield 0, [0, 1]), (.iload 2, []), (.sipush 0, [2]), (.iadd, []), (.iaload, []), (.aload 0, []), (.getfield 0, [0, 1]), (.iload 2, []), (.sipush 0, [3]), (.iadd, []), (.iaload, []), (.invokevirtual 0, [94, 5, 6]), (.aload 1, []), (.getfield 0, [5, 0]), (.getfield 0, [6, 10]), (.iload 3, []), (.aload 0, []), (.getfield 0, [0, 1]), (.iload 2, []), (.sipush 0, [4]), (.iadd, []), (.iaload, []), (.iastore, []), (.nop, [5003])],
  [(.return_, [])]]
def sr_m5 : List (List Bool) := [[true, true, false, false, false], [true, true, false, false, false], [true, true, true, true, false], [false, false, false, false, false]]
def sr_p5 : List Nat := [0, 8, 95, 155]
/-- 6: X1_pass -/
def sr_b6 : List (List sr_I) := [[(.sipush 0, [0]), (.istore 4, []), (.nop, [6001])],
  [(.iload 4, []), (.iload 2, []), (.if_icmp .ge 0, [6008]), (.iload 3, []), (.sipush 0, [4]), (.iand, []), (.ifCond .ne 0, [6002]), (.aload 0, []), (.aload 1, []), (.invokestatic 0, [7, 2]), (.nop, [6002])],
  [(.iload 3, []), (.sipush 0, [24]), (.iand, []), (.ifCond .ne 0, [6003]), (.aload 0, []), (.aload 1, []), (.invokestatic 0, [8, 2]), (.nop, [6003])],
  [(.iload 3, []), (.sipush 0, [16]), (.iand, []), (.ifCond .ne 0, [6004]), (.aload 0, []), (.aload 1, []), (.invokestatic 0, [10, 2]), (.nop, [6004])],
  [(.iload 3, []), (.sipush 0, [2]), (.iand, []), (.ifCond .ne 0, [6007]), (.aload 0, []), (.getfield 0, [5, 7]), (.sipush 0, [10]), (.irem, []), (.sipush 0, [9]), (.if_icmp .ne 0, [6007]), (.aload 0, []), (.aload 1, []), (.iload 3, []), (.sipush 0, [1]), (.iand, []), (.ifCond .eq 0, [6005]), (.sipush 0, [1]), (.goto 0, [6006])],
  [(.sipush 0, [0]), (.nop, [6006])],
  [(.invokestatic 0, [11, 3]), (.nop, [6007])],
  [(.aload 0, []), (.dup, []), (.getfield 0, [5, 7]), (.sipush 0, [1]), (.iadd, []), (.putfield 0, [5, 7, 0]), (.iinc 4 0, [1]), (.goto 0, [6001])],
  [(.return_, [])]]
def sr_m6 : List (List Bool) := [[true, true, true, true, false], [true, true, true, true, true], [true, true, true, true, true], [true, true, true, true, true], [true, true, true, true, true], [true, true, true, true, true], [true, true, true, true, true], [true, true, true, true, true], [false, false, false, false, false]]
def sr_p6 : List Nat := [0, 3, 20, 32, 44, 74, 75, 78, 94]
/-- 7: X1_carryAll -/
def sr_b7 : List (List sr_I) := [[(.aload 0, []), (.getfield 0, [5, 0]), (.astore 2, []), (.sipush 0, [0]), (.istore 3, []), (.sipush 0, [0]), (.istore 4, []), (.nop, [7001])],
  [(.iload 4, []), (.aload 1, []), (.getfield 0, [8, 9]), (.if_icmp .ge 0, [7004]), (.aload 1, []), (.getfield 0, [8, 10]), (.iload 4, []), (.iaload, []), (.istore 5, []), (.aload 1, []), (.getfield 0, [8, 11]), (.iload 4, []), (.iaload, []), (.aload 0, []), (.getfield 0, [5, 7]), (.if_icmp .ne 0, [7003]), (.aload 2, []), (.iload 5, []), (.invokevirtual 0, [93, 2, 6]), (.ifCond .eq 0, [7003]), (.aload 2, []), (.getfield 0, [6, 9]), (.iload 5, []), (.iaload, []), (.istore 6, []), (.aload 2, []), (.iload 5, []), (.aload 1, []), (.getfield 0, [8, 12]), (.iload 4, []), (.iaload, []), (.aload 1, []), (.getfield 0, [8, 13]), (.iload 4, []), (.iaload, []), (.iload 6, []), (.invokevirtual 0, [96, 5, 6]), (.ifCond .eq 0, [7002]), (.aload 2, []), (.iload 5, []), (.aload 1, []), (.getfield 0, [8, 12]), (.iload 4, []), (.iaload, []), (.aload 1, []), (.getfield 0, [8, 13]), (.iload 4, []), (.iaload, []), (.iload 6, []), (.invokevirtual 0, [94, 5, 6]), (.sipush 0, [1]), (.istore 3, []), (.goto 0, [7003])],
  [(.aload 0, []), (.dup, []), (.getfield 0, [5, 8]), (.sipush 0, [1]), (.iadd, []), (.putfield 0, [5, 8, 0]), (.nop, [7003])],
  [(.iinc 4 0, [1]), (.goto 0, [7001])],
  [(.iload 3, []), (.ifCond .eq 0, [7005]), (.aload 2, []), (.invokevirtual 0, [100, 1, 6]), (.nop, [7005])],
  [(.return_, [])]]
def sr_m7 : List (List Bool) := [[true, true, false, false, false, false, false], [true, true, true, true, true, false, false], [true, true, true, true, true, false, false], [true, true, true, true, true, false, false], [false, false, true, true, false, false, false], [false, false, false, false, false, false, false]]
def sr_p7 : List Nat := [0, 10, 112, 122, 128, 136]
/-- 8: X1_stepAll -/
def sr_b8 : List (List sr_I) := [[(.sipush 0, [0]), (.istore 2, []), (.nop, [8001])],
  [(.iload 2, []), (.aload 1, []), (.getfield 0, [8, 14]), (.if_icmp .ge 0, [8004]), (.aload 1, []), (.getfield 0, [8, 16]), (.iload 2, []), (.iaload, []), (.aload 0, []), (.getfield 0, [5, 7]), (.if_icmp .ne 0, [8003]), (.aload 1, []), (.getfield 0, [8, 15]), (.iload 2, []), (.iaload, []), (.istore 3, []), (.aload 0, []), (.getfield 0, [5, 0]), (.aload 0, []), (.getfield 0, [5, 3]), (.iload 3, []), (.iaload, []), (.aload 0, []), (.getfield 0, [5, 4]), (.iload 3, []), (.iaload, []), (.aload 1, []), (.getfield 0, [8, 17]), (.iload 2, []), (.iaload, []), (.invokevirtual 0, [101, 4, 6]), (.istore 4, []), (.iload 4, []), (.ifCond .ge 0, [8002]), (.aload 0, []), (.dup, []), (.getfield 0, [5, 8]), (.sipush 0, [1]), (.iadd, []), (.putfield 0, [5, 8, 0]), (.goto 0, [8003])],
  [(.aload 0, []), (.aload 1, []), (.iload 3, []), (.iload 4, []), (.invokestatic 0, [9, 4]), (.nop, [8003])],
  [(.iinc 2 0, [1]), (.goto 0, [8001])],
  [(.return_, [])]]
def sr_m8 : List (List Bool) := [[true, true, false, false, false], [true, true, true, false, false], [true, true, true, true, true], [true, true, true, false, false], [false, false, false, false, false]]
def sr_p8 : List Nat := [0, 2, 75, 83, 89]
/-- 9: X1_enter -/
def sr_b9 : List (List sr_I) := [[(.aload 0, []), (.iload 2, []), (.invokevirtual 0, [79, 2, 5]), (.istore 4, []), (.aload 0, []), (.getfield 0, [5, 0]), (.getfield 0, [6, 11]), (.iload 3, []), (.iaload, []), (.istore 5, []), (.iload 5, []), (.iload 4, []), (.if_icmp .eq 0, [9003]), (.aload 0, []), (.aload 1, []), (.iload 2, []), (.iload 3, []), (.iload 4, []), (.invokestatic 0, [14, 5]), (.lstore 6, []), (.lload 6, []), (.lconst 0, [9223372036854775808, 0]), (.lcmp, []), (.ifCond .ne 0, [9001]), (.iload 5, []), (.iload 4, []), (.isub, []), (.sipush 0, [3]), (.iand, []), (.i2l, []), (.goto 0, [9002])],
  [(.lload 6, []), (.lconst 0, [9]), (.invokestatic 0, [13, 2]), (.nop, [9002])],
  [(.lstore 8, []), (.aload 0, []), (.getfield 0, [5, 2]), (.iload 2, []), (.lconst 0, [999]), (.aload 0, []), (.getfield 0, [5, 2]), (.iload 2, []), (.iaload, []), (.i2l, []), (.lload 8, []), (.ladd, []), (.invokestatic 0, [3]), (.l2i, []), (.iastore, []), (.nop, [9003])],
  [(.aload 0, []), (.getfield 0, [5, 3]), (.iload 2, []), (.iload 3, []), (.invokestatic 0, [86, 1]), (.iastore, []), (.aload 0, []), (.getfield 0, [5, 4]), (.iload 2, []), (.iload 3, []), (.invokestatic 0, [87, 1]), (.iastore, []), (.return_, [])]]
def sr_m9 : List (List Bool) := [[true, true, true, true, false, false, false, false, false, false], [true, false, true, true, false, false, true, false, false, false], [true, false, true, true, false, false, false, false, false, false], [true, false, true, true, false, false, false, false, false, false]]
def sr_p9 : List Nat := [0, 56, 64, 89]
/-- 10: X1_payAll -/
def sr_b10 : List (List sr_I) := [[(.sipush 0, [0]), (.istore 2, []), (.nop, [10001])],
  [(.iload 2, []), (.aload 0, []), (.getfield 0, [5, 1]), (.if_icmp .ge 0, [10005]), (.aload 0, []), (.iload 2, []), (.invokevirtual 0, [79, 2, 5]), (.aload 0, []), (.getfield 0, [5, 5]), (.iload 2, []), (.iaload, []), (.if_icmp .ne 0, [10004]), (.aload 0, []), (.aload 1, []), (.iload 2, []), (.invokestatic 0, [15, 3]), (.lstore 3, []), (.lload 3, []), (.lconst 0, [9223372036854775808, 0]), (.lcmp, []), (.ifCond .ne 0, [10002]), (.lconst 0, [1]), (.goto 0, [10003])],
  [(.lload 3, []), (.lconst 0, [99]), (.invokestatic 0, [13, 2]), (.nop, [10003])],
  [(.lstore 5, []), (.aload 0, []), (.getfield 0, [5, 6]), (.iload 2, []), (.lconst 0, [9999]), (.aload 0, []), (.getfield 0, [5, 6]), (.iload 2, []), (.iaload, []), (.i2l, []), (.lload 5, []), (.ladd, []), (.invokestatic 0, [3]), (.l2i, []), (.iastore, []), (.nop, [10004])],
  [(.iinc 2 0, [1]), (.goto 0, [10001])],
  [(.return_, [])]]
def sr_m10 : List (List Bool) := [[true, true, false, false, false, false, false], [true, true, true, false, false, false, false], [true, true, true, true, false, false, false], [true, true, true, false, false, false, false], [true, true, true, false, false, false, false], [false, false, false, false, false, false, false]]
def sr_p10 : List Nat := [0, 2, 43, 50, 75, 81]
/-- 11: X1_mothsCome -/
def sr_b11 : List (List sr_I) := [[(.aload 0, []), (.getfield 0, [5, 0]), (.astore 3, []), (.sipush 0, [0]), (.istore 4, []), (.sipush 0, [0]), (.istore 5, []), (.nop, [11001])],
  [(.iload 5, []), (.aload 3, []), (.getfield 0, [6, 2]), (.if_icmp .ge 0, [11007]), (.aload 3, []), (.iload 5, []), (.invokevirtual 0, [93, 2, 6]), (.ifCond .eq 0, [11006]), (.aload 3, []), (.getfield 0, [6, 10]), (.iload 5, []), (.iaload, []), (.ifCond .eq 0, [11006]), (.aload 0, []), (.aload 1, []), (.iload 5, []), (.invokestatic 0, [16, 3]), (.lstore 6, []), (.lload 6, []), (.lconst 0, [9223372036854775808, 0]), (.lcmp, []), (.ifCond .ne 0, [11002]), (.aload 1, []), (.getfield 0, [8, 5]), (.i2l, []), (.goto 0, [11003])],
  [(.lload 6, []), (.lconst 0, [100]), (.invokestatic 0, [13, 2]), (.nop, [11003])],
  [(.lstore 8, []), (.iload 2, []), (.ifCond .eq 0, [11004]), (.aload 0, []), (.lload 8, []), (.invokestatic 0, [12, 2]), (.ifCond .eq 0, [11006]), (.goto 0, [11005])],
  [(.lload 8, []), (.lconst 0, [50]), (.lcmp, []), (.ifCond .lt 0, [11006]), (.nop, [11005])],
  [(.aload 3, []), (.iload 5, []), (.invokevirtual 0, [103, 2, 6]), (.sipush 0, [1]), (.istore 4, []), (.nop, [11006])],
  [(.iinc 5 0, [1]), (.goto 0, [11001])],
  [(.iload 4, []), (.ifCond .eq 0, [11008]), (.aload 3, []), (.invokevirtual 0, [100, 1, 6]), (.nop, [11008])],
  [(.return_, [])]]
def sr_m11 : List (List Bool) := [[true, true, true, false, false, false, false, false, false, false], [true, true, true, true, true, true, false, false, false, false], [true, true, true, true, true, true, true, false, false, false], [true, true, true, true, true, true, false, false, false, false], [true, true, true, true, true, true, false, false, true, false], [true, true, true, true, false, true, false, false, false, false], [true, true, true, true, true, true, false, false, false, false], [false, false, false, true, true, false, false, false, false, false], [false, false, false, false, false, false, false, false, false, false]]
def sr_p11 : List Nat := [0, 11, 65, 73, 91, 100, 109, 115, 124]
/-- 12: X1_mothDrawn -/
def sr_b12 : List (List sr_I) := [[(.lload 1, []), (.lconst 0, [0]), (.lcmp, []), (.ifCond .gt 0, [12001]), (.sipush 0, [0]), (.ireturn, [1])],
  [(.lload 1, []), (.lconst 0, [100]), (.lcmp, []), (.ifCond .lt 0, [12002]), (.sipush 0, [1]), (.ireturn, [1])],
  [(.aload 0, []), (.invokevirtual 0, [83, 1, 5]), (.sipush 0, [100]), (.irem, []), (.i2l, []), (.lload 1, []), (.lcmp, []), (.ifCond .ge 0, [12003]), (.sipush 0, [1]), (.goto 0, [12004])],
  [(.sipush 0, [0]), (.nop, [12004])],
  [(.ireturn, [1])]]
def sr_m12 : List (List Bool) := [[true, true, false], [true, true, false], [true, true, false], [false, false, false], [false, false, false]]
def sr_p12 : List Nat := [0, 8, 18, 35, 36]
/-- 13: X1_within -/
def sr_b13 : List (List sr_I) := [[(.lload 0, []), (.lconst 0, [0]), (.lcmp, []), (.ifCond .ge 0, [13001]), (.lconst 0, [0]), (.lreturn, [])],
  [(.lload 0, []), (.lload 2, []), (.lcmp, []), (.ifCond .le 0, [13002]), (.lload 2, []), (.goto 0, [13003])],
  [(.lload 0, []), (.nop, [13003])],
  [(.lreturn, [])]]
def sr_m13 : List (List Bool) := [[true, false, true, false], [true, false, true, false], [true, false, false, false], [false, false, false, false]]
def sr_p13 : List Nat := [0, 8, 18, 19]
/-- 14: X1_ageingLaw -/
def sr_b14 : List (List sr_I) := [[(.aload 0, []), (.getfield 0, [5, 0]), (.astore 5, []), (.aload 1, []), (.getfield 0, [8, 1]), (.aload 5, []), (.getfield 0, [6, 11]), (.iload 3, []), (.iaload, []), (.iload 4, []), (.aload 0, []), (.getfield 0, [5, 2]), (.iload 2, []), (.iaload, []), (.aload 0, []), (.getfield 0, [5, 6]), (.iload 2, []), (.iaload, []), (.aload 5, []), (.getfield 0, [6, 12]), (.iload 3, []), (.iaload, []), (.aload 5, []), (.getfield 0, [6, 4]), (.aload 0, []), (.getfield 0, [5, 7]), (.invokevirtual 0, [35, 8, 2]), (.aload 1, []), (.getfield 0, [8, 1]), (.sipush 0, [0]), (.invokevirtual 0, [36, 2, 2]), (.lreturn, [])]]
def sr_m14 : List (List Bool) := [[true, true, true, true, true, false]]
def sr_p14 : List Nat := [0]
/-- 15: X1_payLaw -/
def sr_b15 : List (List sr_I) := [[(.aload 0, []), (.getfield 0, [5, 0]), (.astore 3, []), (.aload 0, []), (.iload 2, []), (.invokevirtual 0, [78, 2, 5]), (.istore 4, []), (.aload 1, []), (.getfield 0, [8, 1]), (.aload 3, []), (.getfield 0, [6, 11]), (.iload 4, []), (.iaload, []), (.aload 0, []), (.getfield 0, [5, 5]), (.iload 2, []), (.iaload, []), (.aload 0, []), (.getfield 0, [5, 2]), (.iload 2, []), (.iaload, []), (.aload 0, []), (.getfield 0, [5, 6]), (.iload 2, []), (.iaload, []), (.aload 3, []), (.getfield 0, [6, 12]), (.iload 4, []), (.iaload, []), (.aload 3, []), (.getfield 0, [6, 4]), (.aload 0, []), (.getfield 0, [5, 7]), (.invokevirtual 0, [35, 8, 2]), (.aload 1, []), (.getfield 0, [8, 1]), (.sipush 0, [1]), (.invokevirtual 0, [36, 2, 2]), (.lreturn, [])]]
def sr_m15 : List (List Bool) := [[true, true, true, false, false]]
def sr_p15 : List Nat := [0]
/-- 16: X1_cutLaw -/
def sr_b16 : List (List sr_I) := [[(.aload 0, []), (.getfield 0, [5, 0]), (.astore 3, []), (.aload 3, []), (.getfield 0, [6, 10]), (.iload 2, []), (.iaload, []), (.invokestatic 0, [297, 1]), (.istore 4, []), (.aload 1, []), (.getfield 0, [8, 1]), (.aload 3, []), (.getfield 0, [6, 5]), (.iload 2, []), (.iaload, []), (.sipush 0, [0]), (.sipush 0, [0]), (.sipush 0, [0]), (.aload 3, []), (.getfield 0, [6, 8]), (.iload 2, []), (.iaload, []), (.iload 4, []), (.isub, []), (.iload 4, []), (.aload 0, []), (.getfield 0, [5, 7]), (.invokevirtual 0, [35, 8, 2]), (.aload 1, []), (.getfield 0, [8, 1]), (.sipush 0, [2]), (.invokevirtual 0, [36, 2, 2]), (.lreturn, [])]]
def sr_m16 : List (List Bool) := [[true, true, true, false, false]]
def sr_p16 : List Nat := [0]
/-- 17: X2_init -/
def sr_b17 : List (List sr_I) := [[(.aload 0, []), (.invokespecial 0, [9]), (.aload 0, []), (.sipush 0, [0]), (.putfield 0, [1, 0, 0]), (.aload 0, []), (.sipush 0, [0]), (.putfield 0, [1, 1, 0]), (.aload 0, []), (.sipush 0, [0]), (.putfield 0, [1, 2, 0]), (.aload 0, []), (.sipush 0, [0]), (.putfield 0, [1, 3, 0]), (.aload 0, []), (.sipush 0, [6]), (.newarray .int, []), (.putfield 0, [1, 4, 3]), (.aload 0, []), (.sipush 0, [6]), (.newarray .int, []), (.putfield 0, [1, 5, 3]), (.aload 0, []), (.sipush 0, [32]), (.newarray .int, []), (.putfield 0, [1, 6, 3]), (.aload 0, []), (.sipush 0, [4]), (.newarray .boolean, []), (.putfield 0, [1, 7, 3]), (.aload 0, []), (.sipush 0, [4]), (.newarray .int, []), (.putfield 0, [1, 8, 3]), (.aload 0, []), (.sipush 0, [4]), (.newarray .int, []), (.putfield 0, [1, 9, 3]), (.return_, [])]]
def sr_m17 : List (List Bool) := [[true]]
def sr_p17 : List Nat := [0]
/-- 18: X2_findStand -/
def sr_b18 : List (List sr_I) := [[(.aload 1, []), (.getfield 0, [5, 0]), (.astore 3, []), (.aload 3, []), (.getfield 0, [6, 6]), (.iload 2, []), (.iaload, []), (.istore 4, []), (.aload 3, []), (.getfield 0, [6, 7]), (.iload 2, []), (.iaload, []), (.istore 5, []), (.aload 3, []), (.getfield 0, [6, 9]), (.iload 2, []), (.iaload, []), (.istore 6, []), (.aload 0, []), (.aload 1, []), (.iload 2, []), (.invokevirtual 0, [20, 3, 1]), (.aload 0, []), (.sipush 0, [1, 0]), (.putfield 0, [1, 3, 0]), (.sipush 0, [0]), (.istore 7, []), (.nop, [18001])],
  [(.iload 7, []), (.aload 3, []), (.getfield 0, [6, 0]), (.if_icmp .ge 0, [18007]), (.sipush 0, [0]), (.istore 8, []), (.nop, [18002])],
  [(.iload 8, []), (.aload 3, []), (.getfield 0, [6, 1]), (.if_icmp .ge 0, [18006]), (.sipush 0, [0]), (.istore 9, []), (.nop, [18003])],
  [(.iload 9, []), (.sipush 0, [2]), (.if_icmp .ge 0, [18005]), (.aload 3, []), (.iload 2, []), (.iload 7, []), (.iload 8, []), (.iload 9, []), (.invokevirtual 0, [96, 5, 6]), (.ifCond .eq 0, [18004]), (.aload 3, []), (.iload 2, []), (.iload 7, []), (.iload 8, []), (.iload 9, []), (.invokevirtual 0, [94, 5, 6]), (.aload 0, []), (.aload 3, []), (.iload 2, []), (.aload 0, []), (.aload 1, []), (.iload 2, []), (.invokevirtual 0, [21, 3, 1]), (.invokevirtual 0, [19, 4, 1]), (.nop, [18004])],
  [(.iinc 9 0, [1]), (.goto 0, [18003])],
  [(.iinc 8 0, [1]), (.goto 0, [18002])],
  [(.iinc 7 0, [1]), (.goto 0, [18001])],
  [(.aload 3, []), (.iload 2, []), (.iload 4, []), (.iload 5, []), (.iload 6, []), (.invokevirtual 0, [94, 5, 6]), (.return_, [])]]
def sr_m18 : List (List Bool) := [[true, true, true, false, false, false, false, false, false, false], [true, true, true, true, true, true, true, true, false, false], [true, true, true, true, true, true, true, true, true, false], [true, true, true, true, true, true, true, true, true, true], [true, true, true, true, true, true, true, true, true, true], [true, true, true, true, true, true, true, true, true, false], [true, true, true, true, true, true, true, true, false, false], [false, false, true, true, true, true, true, false, false, false]]
def sr_p18 : List Nat := [0, 43, 55, 67, 110, 116, 122, 128]
/-- 19: X2_weighStand -/
def sr_b19 : List (List sr_I) := [[(.iload 3, []), (.aload 0, []), (.getfield 0, [1, 3]), (.if_icmp .gt 0, [19001]), (.return_, [])],
  [(.aload 0, []), (.iload 3, []), (.putfield 0, [1, 3, 0]), (.aload 0, []), (.aload 1, []), (.getfield 0, [6, 6]), (.iload 2, []), (.iaload, []), (.putfield 0, [1, 0, 0]), (.aload 0, []), (.aload 1, []), (.getfield 0, [6, 7]), (.iload 2, []), (.iaload, []), (.putfield 0, [1, 1, 0]), (.aload 0, []), (.aload 1, []), (.getfield 0, [6, 9]), (.iload 2, []), (.iaload, []), (.putfield 0, [1, 2, 0]), (.return_, [])]]
def sr_m19 : List (List Bool) := [[true, true, true, true], [true, true, true, true]]
def sr_p19 : List Nat := [0, 9]
/-- 20: X2_findRivals -/
def sr_b20 : List (List sr_I) := [[(.aload 1, []), (.getfield 0, [5, 0]), (.astore 3, []), (.sipush 0, [0]), (.istore 4, []), (.nop, [20001])],
  [(.iload 4, []), (.aload 1, []), (.getfield 0, [5, 1]), (.if_icmp .ge 0, [20004]), (.aload 3, []), (.aload 3, []), (.getfield 0, [6, 3]), (.sipush 0, [1]), (.iload 2, []), (.ishl, []), (.sipush 0, [1, 0]), (.ixor, []), (.iand, []), (.aload 1, []), (.getfield 0, [5, 3]), (.iload 4, []), (.iaload, []), (.aload 1, []), (.getfield 0, [5, 4]), (.iload 4, []), (.iaload, []), (.invokevirtual 0, [99, 4, 6]), (.istore 5, []), (.aload 0, []), (.getfield 0, [1, 4]), (.iload 4, []), (.iload 5, []), (.iastore, []), (.aload 0, []), (.getfield 0, [1, 5]), (.iload 4, []), (.iload 5, []), (.ifCond .ge 0, [20002]), (.sipush 0, [1000]), (.goto 0, [20003])],
  [(.aload 3, []), (.iload 5, []), (.aload 1, []), (.getfield 0, [5, 3]), (.iload 4, []), (.iaload, []), (.aload 1, []), (.getfield 0, [5, 4]), (.iload 4, []), (.iaload, []), (.invokevirtual 0, [98, 4, 6]), (.nop, [20003])],
  [(.iastore, []), (.iinc 4 0, [1]), (.goto 0, [20001])],
  [(.return_, [])]]
def sr_m20 : List (List Bool) := [[true, true, true, false, false, false], [true, true, true, true, true, false], [true, true, true, true, true, true], [true, true, true, true, true, false], [false, false, false, false, false, false]]
def sr_p20 : List Nat := [0, 8, 73, 93, 100]
/-- 21: X2_workingBeside -/
def sr_b21 : List (List sr_I) := [[(.aload 1, []), (.getfield 0, [5, 0]), (.astore 3, []), (.sipush 0, [0]), (.istore 4, []), (.sipush 0, [0]), (.istore 5, []), (.nop, [21001])],
  [(.iload 5, []), (.aload 1, []), (.getfield 0, [5, 1]), (.if_icmp .ge 0, [21008]), (.aload 3, []), (.iload 2, []), (.aload 1, []), (.getfield 0, [5, 3]), (.iload 5, []), (.iaload, []), (.aload 1, []), (.getfield 0, [5, 4]), (.iload 5, []), (.iaload, []), (.invokevirtual 0, [98, 4, 6]), (.istore 6, []), (.iload 6, []), (.aload 0, []), (.getfield 0, [1, 5]), (.iload 5, []), (.iaload, []), (.if_icmp .lt 0, [21002]), (.iload 6, []), (.aload 0, []), (.getfield 0, [1, 5]), (.iload 5, []), (.iaload, []), (.if_icmp .ne 0, [21003]), (.iload 2, []), (.aload 0, []), (.getfield 0, [1, 4]), (.iload 5, []), (.iaload, []), (.if_icmp .ge 0, [21003]), (.nop, [21002])],
  [(.sipush 0, [1]), (.goto 0, [21004])],
  [(.sipush 0, [0]), (.nop, [21004])],
  [(.istore 7, []), (.iload 7, []), (.ifCond .eq 0, [21005]), (.iload 2, []), (.goto 0, [21006])],
  [(.aload 0, []), (.getfield 0, [1, 4]), (.iload 5, []), (.iaload, []), (.nop, [21006])],
  [(.istore 8, []), (.iload 8, []), (.ifCond .lt 0, [21007]), (.aload 3, []), (.getfield 0, [6, 5]), (.iload 8, []), (.iaload, []), (.aload 1, []), (.getfield 0, [5, 5]), (.iload 5, []), (.iaload, []), (.if_icmp .ne 0, [21007]), (.iinc 4 0, [1]), (.nop, [21007])],
  [(.iinc 5 0, [1]), (.goto 0, [21001])],
  [(.iload 4, []), (.ireturn, [])]]
def sr_m21 : List (List Bool) := [[true, true, true, false, false, false, false, false, false], [true, true, true, true, true, true, false, false, false], [true, true, true, true, true, true, false, false, false], [true, true, true, true, true, true, false, false, false], [true, true, true, true, true, true, false, false, false], [true, true, true, true, true, true, false, false, false], [true, true, true, true, true, true, false, false, false], [true, true, true, true, true, true, false, false, false], [false, false, false, false, true, false, false, false, false]]
def sr_p21 : List Nat := [0, 11, 76, 80, 81, 92, 99, 126, 132]
/-- 22: X2_listWorkers -/
def sr_b22 : List (List sr_I) := [[(.aload 1, []), (.getfield 0, [5, 0]), (.astore 2, []), (.sipush 0, [0]), (.istore 3, []), (.nop, [22001])],
  [(.iload 3, []), (.sipush 0, [1]), (.aload 2, []), (.getfield 0, [6, 2]), (.ishl, []), (.if_icmp .ge 0, [22005]), (.sipush 0, [0]), (.istore 4, []), (.sipush 0, [0]), (.istore 5, []), (.nop, [22002])],
  [(.iload 5, []), (.aload 1, []), (.getfield 0, [5, 1]), (.if_icmp .ge 0, [22004]), (.aload 2, []), (.iload 3, []), (.aload 1, []), (.getfield 0, [5, 3]), (.iload 5, []), (.iaload, []), (.aload 1, []), (.getfield 0, [5, 4]), (.iload 5, []), (.iaload, []), (.invokevirtual 0, [99, 4, 6]), (.istore 6, []), (.iload 6, []), (.ifCond .lt 0, [22003]), (.aload 2, []), (.getfield 0, [6, 5]), (.iload 6, []), (.iaload, []), (.aload 1, []), (.getfield 0, [5, 5]), (.iload 5, []), (.iaload, []), (.if_icmp .ne 0, [22003]), (.iload 4, []), (.sipush 0, [1]), (.iload 5, []), (.ishl, []), (.ior, []), (.istore 4, []), (.nop, [22003])],
  [(.iinc 5 0, [1]), (.goto 0, [22002])],
  [(.aload 0, []), (.getfield 0, [1, 6]), (.iload 3, []), (.iload 4, []), (.iastore, []), (.iinc 3 0, [1]), (.goto 0, [22001])],
  [(.return_, [])]]
def sr_m22 : List (List Bool) := [[true, true, false, false, false, false, false], [true, true, true, true, false, false, false], [true, true, true, true, true, true, false], [true, true, true, true, true, true, false], [true, true, true, true, true, false, false], [false, false, false, false, false, false, false]]
def sr_p22 : List Nat := [0, 7, 23, 84, 90, 104]
/-- 23: X2_worthOf -/
def sr_b23 : List (List sr_I) := [[(.sipush 0, [0]), (.istore 3, []), (.sipush 0, [0]), (.istore 4, []), (.nop, [23001])],
  [(.iload 4, []), (.sipush 0, [1]), (.iload 2, []), (.ishl, []), (.if_icmp .ge 0, [23003]), (.iload 4, []), (.iload 1, []), (.ishr, []), (.sipush 0, [1]), (.iand, []), (.ifCond .ne 0, [23002]), (.iload 4, []), (.invokestatic 0, [297, 1]), (.istore 5, []), (.aload 0, []), (.getfield 0, [1, 6]), (.iload 4, []), (.sipush 0, [1]), (.iload 1, []), (.ishl, []), (.ior, []), (.iaload, []), (.invokestatic 0, [297, 1]), (.aload 0, []), (.getfield 0, [1, 6]), (.iload 4, []), (.iaload, []), (.invokestatic 0, [297, 1]), (.isub, []), (.istore 6, []), (.iload 3, []), (.getstatic 0, [2]), (.iload 5, []), (.iaload, []), (.getstatic 0, [2]), (.iload 2, []), (.sipush 0, [1]), (.isub, []), (.iload 5, []), (.isub, []), (.iaload, []), (.imul, []), (.iload 6, []), (.imul, []), (.iadd, []), (.istore 3, []), (.nop, [23002])],
  [(.iinc 4 0, [1]), (.goto 0, [23001])],
  [(.iload 3, []), (.ireturn, [])]]
def sr_m23 : List (List Bool) := [[true, true, true, false, false, false, false], [true, true, true, true, true, false, false], [true, true, true, true, true, false, false], [false, false, false, true, false, false, false]]
def sr_p23 : List Nat := [0, 5, 79, 85]
/-- 24: X2_fewestScreens -/
def sr_b24 : List (List sr_I) := [[(.sipush 0, [1]), (.iload 1, []), (.ishl, []), (.sipush 0, [1]), (.isub, []), (.istore 2, []), (.aload 0, []), (.getfield 0, [1, 6]), (.iload 2, []), (.iaload, []), (.istore 3, []), (.iload 2, []), (.istore 4, []), (.sipush 0, [0]), (.istore 5, []), (.nop, [24001])],
  [(.iload 5, []), (.iload 2, []), (.if_icmp .ge 0, [24005]), (.aload 0, []), (.getfield 0, [1, 6]), (.iload 5, []), (.iaload, []), (.iload 3, []), (.iand, []), (.iload 3, []), (.if_icmp .ne 0, [24002]), (.sipush 0, [1]), (.goto 0, [24003])],
  [(.sipush 0, [0]), (.nop, [24003])],
  [(.istore 6, []), (.iload 6, []), (.ifCond .eq 0, [24004]), (.iload 5, []), (.invokestatic 0, [297, 1]), (.iload 4, []), (.invokestatic 0, [297, 1]), (.if_icmp .ge 0, [24004]), (.iload 5, []), (.istore 4, []), (.nop, [24004])],
  [(.iinc 5 0, [1]), (.goto 0, [24001])],
  [(.iload 4, []), (.ireturn, [])]]
def sr_m24 : List (List Bool) := [[true, true, false, false, false, false, false], [true, false, true, true, true, true, false], [true, false, true, true, true, true, false], [true, false, true, true, true, true, false], [true, false, true, true, true, true, false], [false, false, false, false, true, false, false]]
def sr_p24 : List Nat := [0, 19, 42, 43, 67, 73]
/-- 25: X2_restBits -/
def sr_b25 : List (List sr_I) := [[(.aload 1, []), (.getfield 0, [6, 9]), (.iload 2, []), (.iaload, []), (.istore 4, []), (.aload 1, []), (.getfield 0, [6, 9]), (.iload 3, []), (.iaload, []), (.istore 5, []), (.sipush 0, [0]), (.istore 6, []), (.nop, [25001])],
  [(.iload 6, []), (.sipush 0, [4]), (.if_icmp .ge 0, [25008]), (.aload 1, []), (.getfield 0, [6, 9]), (.iload 2, []), (.iload 6, []), (.sipush 0, [2]), (.if_icmp .ge 0, [25002]), (.iload 4, []), (.goto 0, [25003])],
  [(.sipush 0, [1]), (.iload 4, []), (.isub, []), (.nop, [25003])],
  [(.iastore, []), (.aload 1, []), (.getfield 0, [6, 9]), (.iload 3, []), (.iload 6, []), (.sipush 0, [2]), (.irem, []), (.ifCond .ne 0, [25004]), (.iload 5, []), (.goto 0, [25005])],
  [(.sipush 0, [1]), (.iload 5, []), (.isub, []), (.nop, [25005])],
  [(.iastore, []), (.aload 0, []), (.getfield 0, [1, 7]), (.iload 6, []), (.aload 1, []), (.iload 2, []), (.invokestatic 0, [26, 2]), (.ifCond .eq 0, [25006]), (.aload 1, []), (.iload 3, []), (.invokestatic 0, [26, 2]), (.ifCond .eq 0, [25006]), (.sipush 0, [1]), (.goto 0, [25007])],
  [(.sipush 0, [0]), (.nop, [25007])],
  [(.bastore, []), (.aload 1, []), (.invokevirtual 0, [100, 1, 6]), (.aload 0, []), (.getfield 0, [1, 8]), (.iload 6, []), (.aload 1, []), (.aload 1, []), (.getfield 0, [6, 5]), (.iload 2, []), (.iaload, []), (.invokevirtual 0, [105, 2, 6]), (.iastore, []), (.aload 0, []), (.getfield 0, [1, 9]), (.iload 6, []), (.aload 1, []), (.aload 1, []), (.getfield 0, [6, 5]), (.iload 3, []), (.iaload, []), (.invokevirtual 0, [105, 2, 6]), (.iastore, []), (.iinc 6 0, [1]), (.goto 0, [25001])],
  [(.sipush 0, [0]), (.istore 6, []), (.sipush 0, [0]), (.istore 7, []), (.nop, [25009])],
  [(.iload 7, []), (.sipush 0, [4]), (.if_icmp .ge 0, [25011]), (.aload 0, []), (.iload 7, []), (.invokevirtual 0, [27, 2, 1]), (.ifCond .eq 0, [25010]), (.iload 6, []), (.sipush 0, [1]), (.iload 7, []), (.ishl, []), (.ior, []), (.istore 6, []), (.nop, [25010])],
  [(.iinc 7 0, [1]), (.goto 0, [25009])],
  [(.iload 6, []), (.ireturn, [])]]
def sr_m25 : List (List Bool) := [[true, true, true, true, false, false, false, false], [true, true, true, true, true, true, true, false], [true, true, true, true, true, true, true, false], [true, true, true, true, true, true, true, false], [true, true, true, true, true, true, true, false], [true, true, true, true, true, true, true, false], [true, true, true, true, true, true, true, false], [true, true, true, true, true, true, true, false], [true, false, false, false, false, false, false, false], [true, false, false, false, false, false, true, true], [true, false, false, false, false, false, true, true], [false, false, false, false, false, false, true, false]]
def sr_p25 : List Nat := [0, 19, 41, 45, 63, 67, 94, 95, 140, 146, 170, 176]
/-- 26: X2_staysInRoom -/
def sr_b26 : List (List sr_I) := [[(.aload 0, []), (.iload 1, []), (.aload 0, []), (.getfield 0, [6, 6]), (.iload 1, []), (.iaload, []), (.aload 0, []), (.getfield 0, [6, 7]), (.iload 1, []), (.iaload, []), (.aload 0, []), (.getfield 0, [6, 9]), (.iload 1, []), (.iaload, []), (.invokevirtual 0, [95, 5, 6]), (.ireturn, [1])]]
def sr_m26 : List (List Bool) := [[true, true]]
def sr_p26 : List Nat := [0]
/-- 27: X2_isRest -/
def sr_b27 : List (List sr_I) := [[(.iload 1, []), (.sipush 0, [2]), (.ixor, []), (.istore 2, []), (.iload 1, []), (.sipush 0, [1]), (.ixor, []), (.istore 3, []), (.aload 0, []), (.getfield 0, [1, 7]), (.iload 1, []), (.baload, []), (.ifCond .ne 0, [27001]), (.sipush 0, [0]), (.ireturn, [1])],
  [(.aload 0, []), (.getfield 0, [1, 7]), (.iload 2, []), (.baload, []), (.ifCond .eq 0, [27002]), (.aload 0, []), (.getfield 0, [1, 8]), (.iload 2, []), (.iaload, []), (.aload 0, []), (.getfield 0, [1, 8]), (.iload 1, []), (.iaload, []), (.if_icmp .le 0, [27002]), (.sipush 0, [0]), (.ireturn, [1])],
  [(.aload 0, []), (.getfield 0, [1, 7]), (.iload 3, []), (.baload, []), (.ifCond .eq 0, [27003]), (.aload 0, []), (.getfield 0, [1, 9]), (.iload 3, []), (.iaload, []), (.aload 0, []), (.getfield 0, [1, 9]), (.iload 1, []), (.iaload, []), (.if_icmp .gt 0, [27004]), (.nop, [27003])],
  [(.sipush 0, [1]), (.goto 0, [27005])],
  [(.sipush 0, [0]), (.nop, [27005])],
  [(.ireturn, [1])]]
def sr_m27 : List (List Bool) := [[true, true, false, false], [true, true, true, true], [true, true, false, true], [false, false, false, false], [false, false, false, false], [false, false, false, false]]
def sr_p27 : List Nat := [0, 19, 45, 69, 73, 74]
/-- 28: X2_sharedDivisor -/
def sr_b28 : List (List sr_I) := [[(.lload 0, []), (.lstore 4, []), (.lload 2, []), (.lstore 6, []), (.sipush 0, [0]), (.istore 8, []), (.nop, [28001])],
  [(.iload 8, []), (.sipush 0, [200]), (.if_icmp .ge 0, [28002]), (.lload 6, []), (.lconst 0, [0]), (.lcmp, []), (.ifCond .eq 0, [28002]), (.lload 4, []), (.lload 6, []), (.lrem, []), (.lstore 9, []), (.lload 6, []), (.lstore 4, []), (.lload 9, []), (.lstore 6, []), (.iinc 8 0, [1]), (.goto 0, [28001])],
  [(.lload 4, []), (.lreturn, [])]]
def sr_m28 : List (List Bool) := [[true, false, true, false, false, false, false, false, false, false, false], [false, false, false, false, true, false, true, false, true, false, false], [false, false, false, false, true, false, false, false, false, false, false]]
def sr_p28 : List Nat := [0, 9, 45]
/-- 29: X3_init -/
def sr_b29 : List (List sr_I) := [[(.aload 0, []), (.invokespecial 0, [9]), (.aload 0, []), (.sipush 0, [64]), (.newarray .int, []), (.putfield 0, [2, 2, 3]), (.aload 0, []), (.sipush 0, [64]), (.newarray .int, []), (.putfield 0, [2, 3, 3]), (.aload 0, []), (.sipush 0, [3]), (.newarray .int, []), (.putfield 0, [2, 4, 3]), (.aload 0, []), (.sipush 0, [3]), (.newarray .int, []), (.putfield 0, [2, 5, 3]), (.aload 0, []), (.sipush 0, [7]), (.newarray .long, []), (.putfield 0, [2, 6, 3]), (.aload 0, []), (.sipush 0, [64]), (.newarray .long, []), (.putfield 0, [2, 7, 3]), (.return_, [])]]
def sr_m29 : List (List Bool) := [[true]]
def sr_p29 : List Nat := [0]
/-- 30: X3_clear -/
def sr_b30 : List (List sr_I) := [[(.aload 0, []), (.sipush 0, [0]), (.putfield 0, [2, 0, 0]), (.aload 0, []), (.sipush 0, [0]), (.putfield 0, [2, 1, 0]), (.sipush 0, [0]), (.istore 1, []), (.nop, [30001])],
  [(.iload 1, []), (.sipush 0, [3]), (.if_icmp .ge 0, [30002]), (.aload 0, []), (.getfield 0, [2, 4]), (.iload 1, []), (.sipush 0, [0]), (.iastore, []), (.aload 0, []), (.getfield 0, [2, 5]), (.iload 1, []), (.sipush 0, [0]), (.iastore, []), (.iinc 1 0, [1]), (.goto 0, [30001])],
  [(.return_, [])]]
def sr_m30 : List (List Bool) := [[true, false], [true, true], [false, false]]
def sr_p30 : List Nat := [0, 12, 37]
/-- 31: X3_isTold -/
def sr_b31 : List (List sr_I) := [[(.aload 0, []), (.getfield 0, [2, 5]), (.iload 1, []), (.iaload, []), (.aload 0, []), (.getfield 0, [2, 4]), (.iload 1, []), (.iaload, []), (.if_icmp .le 0, [31001]), (.sipush 0, [1]), (.goto 0, [31002])],
  [(.sipush 0, [0]), (.nop, [31002])],
  [(.ireturn, [1])]]
def sr_m31 : List (List Bool) := [[true, true], [false, false], [false, false]]
def sr_p31 : List Nat := [0, 19, 20]
/-- 32: X3_begin -/
def sr_b32 : List (List sr_I) := [[(.aload 0, []), (.getfield 0, [2, 4]), (.iload 1, []), (.aload 0, []), (.getfield 0, [2, 1]), (.iastore, []), (.return_, [])]]
def sr_m32 : List (List Bool) := [[true, true]]
def sr_p32 : List Nat := [0]
/-- 33: X3_finish -/
def sr_b33 : List (List sr_I) := [[(.aload 0, []), (.getfield 0, [2, 5]), (.iload 1, []), (.aload 0, []), (.getfield 0, [2, 1]), (.iastore, []), (.return_, [])]]
def sr_m33 : List (List Bool) := [[true, true]]
def sr_p33 : List Nat := [0]
/-- 34: X3_put -/
def sr_b34 : List (List sr_I) := [[(.aload 0, []), (.getfield 0, [2, 1]), (.sipush 0, [64]), (.if_icmp .lt 0, [34001]), (.return_, [])],
  [(.aload 0, []), (.getfield 0, [2, 2]), (.aload 0, []), (.getfield 0, [2, 1]), (.iload 1, []), (.iastore, []), (.aload 0, []), (.getfield 0, [2, 3]), (.aload 0, []), (.getfield 0, [2, 1]), (.iload 2, []), (.iastore, []), (.aload 0, []), (.dup, []), (.getfield 0, [2, 1]), (.sipush 0, [1]), (.iadd, []), (.putfield 0, [2, 1, 0]), (.return_, [])]]
def sr_m34 : List (List Bool) := [[true, true, true], [true, true, true]]
def sr_p34 : List Nat := [0, 10]
/-- 35: X3_name -/
def sr_b35 : List (List sr_I) := [[(.aload 0, []), (.getfield 0, [2, 6]), (.sipush 0, [0]), (.iload 1, []), (.i2l, []), (.lastore, []), (.aload 0, []), (.getfield 0, [2, 6]), (.sipush 0, [1]), (.iload 2, []), (.i2l, []), (.lastore, []), (.aload 0, []), (.getfield 0, [2, 6]), (.sipush 0, [2]), (.iload 3, []), (.i2l, []), (.lastore, []), (.aload 0, []), (.getfield 0, [2, 6]), (.sipush 0, [3]), (.iload 4, []), (.i2l, []), (.lastore, []), (.aload 0, []), (.getfield 0, [2, 6]), (.sipush 0, [4]), (.iload 5, []), (.i2l, []), (.lastore, []), (.aload 0, []), (.getfield 0, [2, 6]), (.sipush 0, [5]), (.iload 6, []), (.i2l, []), (.lastore, []), (.aload 0, []), (.getfield 0, [2, 6]), (.sipush 0, [6]), (.iload 7, []), (.i2l, []), (.lastore, []), (.return_, [])]]
def sr_m35 : List (List Bool) := [[true, true, true, true, true, true, true, true]]
def sr_p35 : List Nat := [0]
/-- 36: X3_workOut -/
def sr_b36 : List (List sr_I) := [[(.aload 0, []), (.iload 1, []), (.invokevirtual 0, [31, 2, 2]), (.ifCond .ne 0, [36001]), (.lconst 0, [9223372036854775808, 0]), (.lreturn, [])],
  [(.sipush 0, [0]), (.istore 2, []), (.aload 0, []), (.getfield 0, [2, 4]), (.iload 1, []), (.iaload, []), (.istore 3, []), (.nop, [36002])],
  [(.iload 3, []), (.aload 0, []), (.getfield 0, [2, 5]), (.iload 1, []), (.iaload, []), (.if_icmp .ge 0, [36015]), (.aload 0, []), (.getfield 0, [2, 2]), (.iload 3, []), (.iaload, []), (.sipush 0, [2]), (.if_icmp .eq 0, [36003]), (.aload 0, []), (.getfield 0, [2, 2]), (.iload 3, []), (.iaload, []), (.sipush 0, [34]), (.if_icmp .ne 0, [36007]), (.nop, [36003])],
  [(.iload 2, []), (.sipush 0, [64]), (.if_icmp .lt 0, [36004]), (.lconst 0, [9223372036854775808, 0]), (.lreturn, [])],
  [(.aload 0, []), (.getfield 0, [2, 7]), (.iload 2, []), (.aload 0, []), (.getfield 0, [2, 2]), (.iload 3, []), (.iaload, []), (.sipush 0, [2]), (.if_icmp .ne 0, [36005]), (.aload 0, []), (.getfield 0, [2, 3]), (.iload 3, []), (.iaload, []), (.i2l, []), (.goto 0, [36006])],
  [(.aload 0, []), (.getfield 0, [2, 6]), (.aload 0, []), (.getfield 0, [2, 3]), (.iload 3, []), (.iaload, []), (.laload, []), (.nop, [36006])],
  [(.lastore, []), (.iinc 2 0, [1]), (.goto 0, [36014])],
  [(.aload 0, []), (.getfield 0, [2, 2]), (.iload 3, []), (.iaload, []), (.sipush 0, [33]), (.if_icmp .ne 0, [36011]), (.iload 2, []), (.sipush 0, [1]), (.if_icmp .ge 0, [36008]), (.lconst 0, [9223372036854775808, 0]), (.lreturn, [])],
  [(.aload 0, []), (.getfield 0, [2, 7]), (.iload 2, []), (.sipush 0, [1]), (.isub, []), (.aload 0, []), (.getfield 0, [2, 7]), (.iload 2, []), (.sipush 0, [1]), (.isub, []), (.laload, []), (.lconst 0, [0]), (.lcmp, []), (.ifCond .ne 0, [36009]), (.lconst 0, [1]), (.goto 0, [36010])],
  [(.lconst 0, [0]), (.nop, [36010])],
  [(.lastore, []), (.goto 0, [36014])],
  [(.iload 2, []), (.sipush 0, [2]), (.if_icmp .ge 0, [36012]), (.lconst 0, [9223372036854775808, 0]), (.lreturn, [])],
  [(.iinc 2 0, [1, 0]), (.aload 0, []), (.getfield 0, [2, 2]), (.iload 3, []), (.iaload, []), (.aload 0, []), (.getfield 0, [2, 7]), (.iload 2, []), (.sipush 0, [1]), (.isub, []), (.laload, []), (.aload 0, []), (.getfield 0, [2, 7]), (.iload 2, []), (.laload, []), (.invokestatic 0, [37, 3]), (.lstore 4, []), (.lload 4, []), (.lconst 0, [9223372036854775808, 0]), (.lcmp, []), (.ifCond .ne 0, [36013]), (.lconst 0, [9223372036854775808, 0]), (.lreturn, [])],
  [(.aload 0, []), (.getfield 0, [2, 7]), (.iload 2, []), (.sipush 0, [1]), (.isub, []), (.lload 4, []), (.lastore, []), (.nop, [36014])],
  [(.iinc 3 0, [1]), (.goto 0, [36002])],
  [(.iload 2, []), (.sipush 0, [1]), (.if_icmp .ne 0, [36016]), (.aload 0, []), (.getfield 0, [2, 7]), (.sipush 0, [0]), (.laload, []), (.goto 0, [36017])],
  [(.lconst 0, [9223372036854775808, 0]), (.nop, [36017])],
  [(.lreturn, [])]]
def sr_m36 : List (List Bool) := [[true, true, false, false, false, false], [true, true, false, false, false, false], [true, true, true, true, false, false], [true, true, true, true, false, false], [true, true, true, true, false, false], [true, true, true, true, false, false], [true, true, true, true, false, false], [true, true, true, true, false, false], [true, true, true, true, false, false], [true, true, true, true, false, false], [true, true, true, true, false, false], [true, true, true, true, false, false], [true, true, true, true, false, false], [true, true, true, true, true, false], [true, true, true, true, false, false], [true, false, true, false, false, false], [false, false, false, false, false, false], [false, false, false, false, false, false]]
def sr_p36 : List Nat := [0, 12, 21, 52, 62, 87, 98, 105, 125, 149, 150, 154, 163, 204, 214, 220, 234, 237]
/-- 37: X3_join -/
def sr_b37 : List (List sr_I) := [[(.iload 0, []), (.tableswitch 0 7 32 #[], [37032, 37001, 37002, 37003, 37004, 37007, 37010, 37013, 37016, 37019, 37022, 37032, 37032, 37032, 37032, 37032, 37032, 37032, 37032, 37032, 37032, 37032, 37032, 37032, 37032, 37028, 37025])],
  [(.lload 1, []), (.lload 3, []), (.ladd, []), (.invokestatic 0, [38, 1]), (.lreturn, [])],
  [(.lload 1, []), (.lload 3, []), (.lsub, []), (.invokestatic 0, [38, 1]), (.lreturn, [])],
  [(.lload 1, []), (.lload 3, []), (.invokestatic 0, [39, 2]), (.lreturn, [])],
  [(.lload 3, []), (.lconst 0, [0]), (.lcmp, []), (.ifCond .ne 0, [37005]), (.lconst 0, [9223372036854775808, 0]), (.goto 0, [37006])],
  [(.lload 1, []), (.lload 3, []), (.ldiv, []), (.nop, [37006])],
  [(.lreturn, [])],
  [(.lload 1, []), (.lload 3, []), (.lcmp, []), (.ifCond .ge 0, [37008]), (.lconst 0, [1]), (.goto 0, [37009])],
  [(.lconst 0, [0]), (.nop, [37009])],
  [(.lreturn, [])],
  [(.lload 1, []), (.lload 3, []), (.lcmp, []), (.ifCond .gt 0, [37011]), (.lconst 0, [1]), (.goto 0, [37012])],
  [(.lconst 0, [0]), (.nop, [37012])],
  [(.lreturn, [])],
  [(.lload 1, []), (.lload 3, []), (.lcmp, []), (.ifCond .ne 0, [37014]), (.lconst 0, [1]), (.goto 0, [37015])],
  [(.lconst 0, [0]), (.nop, [37015])],
  [(.lreturn, [])],
  [(.lload 1, []), (.lload 3, []), (.lcmp, []), (.ifCond .eq 0, [37017]), (.lconst 0, [1]), (.goto 0, [37018])],
  [(.lconst 0, [0]), (.nop, [37018])],
  [(.lreturn, [])],
  [(.lload 1, []), (.lload 3, []), (.lcmp, []), (.ifCond .lt 0, [37020]), (.lconst 0, [1]), (.goto 0, [37021])],
  [(.lconst 0, [0]), (.nop, [37021])],
  [(.lreturn, [])],
  [(.lload 1, []), (.lload 3, []), (.lcmp, []), (.ifCond .le 0, [37023]), (.lconst 0, [1]), (.goto 0, [37024])],
  [(.lconst 0, [0]), (.nop, [37024])],
  [(.lreturn, [])],
  [(.lload 1, []), (.lconst 0, [0]), (.lcmp, []), (.ifCond .eq 0, [37026]), (.lload 3, []), (.lconst 0, [0]), (.lcmp, []), (.ifCond .eq 0, [37026]), (.lconst 0, [1]), (.goto 0, [37027])],
  [(.lconst 0, [0]), (.nop, [37027])],
  [(.lreturn, [])],
  [(.lload 1, []), (.lconst 0, [0]), (.lcmp, []), (.ifCond .ne 0, [37029]), (.lload 3, []), (.lconst 0, [0]), (.lcmp, []), (.ifCond .eq 0, [37030]), (.nop, [37029])],
  [(.lconst 0, [1]), (.goto 0, [37031])],
  [(.lconst 0, [0]), (.nop, [37031])],
  [(.lreturn, [])],
  [(.lconst 0, [9223372036854775808, 0]), (.lreturn, [])]]
def sr_m37 : List (List Bool) := [[true, true, false, true, false], [false, true, false, true, false], [false, true, false, true, false], [false, true, false, true, false], [false, true, false, true, false], [false, true, false, true, false], [false, false, false, false, false], [false, true, false, true, false], [false, false, false, false, false], [false, false, false, false, false], [false, true, false, true, false], [false, false, false, false, false], [false, false, false, false, false], [false, true, false, true, false], [false, false, false, false, false], [false, false, false, false, false], [false, true, false, true, false], [false, false, false, false, false], [false, false, false, false, false], [false, true, false, true, false], [false, false, false, false, false], [false, false, false, false, false], [false, true, false, true, false], [false, false, false, false, false], [false, false, false, false, false], [false, true, false, true, false], [false, false, false, false, false], [false, false, false, false, false], [false, true, false, true, false], [false, false, false, false, false], [false, false, false, false, false], [false, false, false, false, false], [false, false, false, false, false]]
def sr_p37 : List Nat := [0, 120, 127, 134, 140, 152, 155, 156, 166, 167, 168, 178, 179, 180, 190, 191, 192, 202, 203, 204, 214, 215, 216, 226, 227, 228, 244, 245, 246, 258, 262, 263, 264]
/-- 38: X3_bounded -/
def sr_b38 : List (List sr_I) := [[(.lload 0, []), (.lconst 0, [1000000000000]), (.lcmp, []), (.ifCond .gt 0, [38001]), (.lload 0, []), (.lconst 0, [1000000000000, 0]), (.lcmp, []), (.ifCond .ge 0, [38002]), (.nop, [38001])],
  [(.lconst 0, [9223372036854775808, 0]), (.goto 0, [38003])],
  [(.lload 0, []), (.nop, [38003])],
  [(.lreturn, [])]]
def sr_m38 : List (List Bool) := [[true, false], [false, false], [true, false], [false, false]]
def sr_p38 : List Nat := [0, 16, 22, 23]
/-- 39: X3_product -/
def sr_b39 : List (List sr_I) := [[(.lload 0, []), (.lconst 0, [0]), (.lcmp, []), (.ifCond .eq 0, [39001]), (.lload 2, []), (.lconst 0, [0]), (.lcmp, []), (.ifCond .ne 0, [39002]), (.nop, [39001])],
  [(.lconst 0, [0]), (.lreturn, [])],
  [(.lload 0, []), (.lconst 0, [0]), (.lcmp, []), (.ifCond .ge 0, [39003]), (.lload 0, []), (.lneg, []), (.goto 0, [39004])],
  [(.lload 0, []), (.nop, [39004])],
  [(.lstore 4, []), (.lload 2, []), (.lconst 0, [0]), (.lcmp, []), (.ifCond .ge 0, [39005]), (.lload 2, []), (.lneg, []), (.goto 0, [39006])],
  [(.lload 2, []), (.nop, [39006])],
  [(.lstore 6, []), (.lload 6, []), (.lconst 0, [1000000000000]), (.lload 4, []), (.ldiv, []), (.lcmp, []), (.ifCond .le 0, [39007]), (.lconst 0, [9223372036854775808, 0]), (.goto 0, [39008])],
  [(.lload 0, []), (.lload 2, []), (.lmul, []), (.nop, [39008])],
  [(.lreturn, [])]]
def sr_m39 : List (List Bool) := [[true, false, true, false, false, false, false, false], [false, false, false, false, false, false, false, false], [true, false, true, false, false, false, false, false], [true, false, true, false, false, false, false, false], [true, false, true, false, false, false, false, false], [true, false, true, false, true, false, false, false], [true, false, true, false, true, false, false, false], [true, false, true, false, false, false, false, false], [false, false, false, false, false, false, false, false]]
def sr_p39 : List Nat := [0, 12, 14, 25, 26, 39, 40, 60, 63]
/-- 40: X4_init -/
def sr_b40 : List (List sr_I) := [[(.aload 0, []), (.invokespecial 0, [9]), (.aload 0, []), (.sipush 0, [0]), (.putfield 0, [3, 0, 0]), (.aload 0, []), (.sipush 0, [1, 0]), (.putfield 0, [3, 1, 0]), (.aload 0, []), (.new 0, [4]), (.dup, []), (.invokespecial 0, [63, 1, 4]), (.putfield 0, [3, 2, 3]), (.aload 0, []), (.new 0, [8]), (.dup, []), (.invokespecial 0, [116, 1, 8]), (.putfield 0, [3, 3, 3]), (.aload 0, []), (.sipush 0, [0]), (.putfield 0, [3, 4, 0]), (.aload 0, []), (.sipush 0, [0]), (.putfield 0, [3, 5, 0]), (.aload 0, []), (.sipush 0, [72]), (.newarray .int, []), (.putfield 0, [3, 6, 3]), (.aload 0, []), (.sipush 0, [0]), (.putfield 0, [3, 7, 0]), (.aload 0, []), (.sipush 0, [0]), (.putfield 0, [3, 8, 0]), (.aload 0, []), (.sipush 0, [0]), (.putfield 0, [3, 9, 0]), (.aload 0, []), (.sipush 0, [1]), (.putfield 0, [3, 10, 1]), (.aload 0, []), (.sipush 0, [1]), (.putfield 0, [3, 11, 1]), (.return_, [])]]
def sr_m40 : List (List Bool) := [[true]]
def sr_p40 : List Nat := [0]
/-- 41: X4_exchange -/
def sr_b41 : List (List sr_I) := [[(.aload 0, []), (.getfield 0, [3, 3]), (.astore 2, []), (.aload 0, []), (.aload 1, []), (.putfield 0, [3, 3, 3]), (.aload 2, []), (.areturn, [])]]
def sr_m41 : List (List Bool) := [[true, true, false]]
def sr_p41 : List Nat := [0]
/-- 42: X4_parse -/
def sr_b42 : List (List sr_I) := [[(.aload 0, []), (.getfield 0, [3, 3]), (.invokevirtual 0, [117, 1, 8]), (.aload 0, []), (.sipush 0, [0]), (.putfield 0, [3, 0, 0]), (.aload 0, []), (.sipush 0, [1, 0]), (.putfield 0, [3, 1, 0]), (.aload 0, []), (.getfield 0, [3, 2]), (.iload 1, []), (.invokevirtual 0, [65, 2, 4]), (.sipush 0, [0]), (.istore 2, []), (.nop, [42001])],
  [(.iload 2, []), (.sipush 0, [700]), (.if_icmp .ge 0, [42003]), (.aload 0, []), (.getfield 0, [3, 2]), (.getfield 0, [4, 5]), (.ifCond .eq 0, [42003]), (.aload 0, []), (.invokevirtual 0, [44, 1, 3]), (.ifCond .ne 0, [42002]), (.sipush 0, [0]), (.ireturn, [1])],
  [(.aload 0, []), (.getfield 0, [3, 3]), (.dup, []), (.getfield 0, [8, 4]), (.sipush 0, [1]), (.iadd, []), (.putfield 0, [8, 4, 0]), (.iinc 2 0, [1]), (.goto 0, [42001])],
  [(.aload 0, []), (.getfield 0, [3, 3]), (.getfield 0, [8, 0]), (.getfield 0, [5, 0]), (.invokevirtual 0, [100, 1, 6]), (.sipush 0, [1]), (.ireturn, [1])]]
def sr_m42 : List (List Bool) := [[true, true, false], [true, false, true], [true, false, true], [true, false, false]]
def sr_p42 : List Nat := [0, 27, 53, 72]
/-- 43: X4_refuseHere -/
def sr_b43 : List (List sr_I) := [[(.aload 0, []), (.iload 1, []), (.putfield 0, [3, 0, 0]), (.aload 0, []), (.aload 0, []), (.getfield 0, [3, 2]), (.getfield 0, [4, 7]), (.putfield 0, [3, 1, 0]), (.sipush 0, [0]), (.ireturn, [1])]]
def sr_m43 : List (List Bool) := [[true, true]]
def sr_p43 : List Nat := [0]
/-- 44: X4_takeLine -/
def sr_b44 : List (List sr_I) := [[(.aload 0, []), (.getfield 0, [3, 2]), (.getfield 0, [4, 5]), (.tableswitch 0 20 27 #[], [44009, 44001, 44002, 44003, 44004, 44005, 44006, 44007, 44008])],
  [(.aload 0, []), (.invokevirtual 0, [47, 1, 3]), (.ireturn, [1])],
  [(.aload 0, []), (.invokevirtual 0, [48, 1, 3]), (.ireturn, [1])],
  [(.aload 0, []), (.invokevirtual 0, [49, 1, 3]), (.ireturn, [1])],
  [(.aload 0, []), (.invokevirtual 0, [50, 1, 3]), (.ireturn, [1])],
  [(.aload 0, []), (.invokevirtual 0, [51, 1, 3]), (.ireturn, [1])],
  [(.aload 0, []), (.invokevirtual 0, [52, 1, 3]), (.ireturn, [1])],
  [(.aload 0, []), (.invokevirtual 0, [53, 1, 3]), (.ireturn, [1])],
  [(.aload 0, []), (.invokevirtual 0, [54, 1, 3]), (.ireturn, [1])],
  [(.aload 0, []), (.sipush 0, [1]), (.invokevirtual 0, [43, 2, 3]), (.ireturn, [1])]]
def sr_m44 : List (List Bool) := [[true], [true], [true], [true], [true], [true], [true], [true], [true], [true]]
def sr_p44 : List Nat := [0, 52, 57, 62, 67, 72, 77, 82, 87, 92]
/-- 45: X4_takeEnd -/
def sr_b45 : List (List sr_I) := [[(.aload 0, []), (.getfield 0, [3, 2]), (.getfield 0, [4, 5]), (.sipush 0, [4]), (.if_icmp .eq 0, [45001]), (.aload 0, []), (.sipush 0, [1]), (.invokevirtual 0, [43, 2, 3]), (.ireturn, [1])],
  [(.aload 0, []), (.getfield 0, [3, 2]), (.invokevirtual 0, [66, 1, 4]), (.sipush 0, [1]), (.ireturn, [1])]]
def sr_m45 : List (List Bool) := [[true], [true]]
def sr_p45 : List Nat := [0, 17]
/-- 46: X4_takeNumber -/
def sr_b46 : List (List sr_I) := [[(.aload 0, []), (.getfield 0, [3, 2]), (.getfield 0, [4, 5]), (.sipush 0, [2]), (.if_icmp .eq 0, [46001]), (.aload 0, []), (.sipush 0, [1]), (.invokevirtual 0, [43, 2, 3]), (.ireturn, [1])],
  [(.aload 0, []), (.getfield 0, [3, 2]), (.getfield 0, [4, 6]), (.iload 1, []), (.if_icmp .lt 0, [46002]), (.aload 0, []), (.getfield 0, [3, 2]), (.getfield 0, [4, 6]), (.iload 2, []), (.if_icmp .le 0, [46003]), (.nop, [46002])],
  [(.aload 0, []), (.sipush 0, [2]), (.invokevirtual 0, [43, 2, 3]), (.ireturn, [1])],
  [(.aload 0, []), (.aload 0, []), (.getfield 0, [3, 2]), (.getfield 0, [4, 6]), (.putfield 0, [3, 4, 0]), (.aload 0, []), (.aload 0, []), (.getfield 0, [3, 2]), (.getfield 0, [4, 7]), (.putfield 0, [3, 5, 0]), (.aload 0, []), (.getfield 0, [3, 2]), (.invokevirtual 0, [66, 1, 4]), (.sipush 0, [1]), (.ireturn, [1])]]
def sr_m46 : List (List Bool) := [[true, true, true], [true, true, true], [true, false, false], [true, false, false]]
def sr_p46 : List Nat := [0, 17, 39, 45]
/-- 47: X4_takeRoom -/
def sr_b47 : List (List sr_I) := [[(.aload 0, []), (.getfield 0, [3, 3]), (.getfield 0, [8, 0]), (.getfield 0, [5, 0]), (.astore 1, []), (.aload 1, []), (.getfield 0, [6, 2]), (.ifCond .gt 0, [47001]), (.aload 0, []), (.getfield 0, [3, 3]), (.getfield 0, [8, 0]), (.getfield 0, [5, 1]), (.ifCond .le 0, [47002]), (.nop, [47001])],
  [(.aload 0, []), (.sipush 0, [1]), (.invokevirtual 0, [43, 2, 3]), (.ireturn, [1])],
  [(.aload 0, []), (.getfield 0, [3, 3]), (.getfield 0, [8, 6]), (.ifCond .eq 0, [47003]), (.aload 0, []), (.sipush 0, [3]), (.invokevirtual 0, [43, 2, 3]), (.ireturn, [1])],
  [(.aload 0, []), (.getfield 0, [3, 3]), (.sipush 0, [1]), (.putfield 0, [8, 6, 1]), (.aload 0, []), (.getfield 0, [3, 2]), (.invokevirtual 0, [66, 1, 4]), (.aload 0, []), (.sipush 0, [1]), (.sipush 0, [8]), (.invokevirtual 0, [46, 3, 3]), (.ifCond .ne 0, [47004]), (.sipush 0, [0]), (.ireturn, [1])],
  [(.aload 1, []), (.aload 0, []), (.getfield 0, [3, 4]), (.putfield 0, [6, 0, 0]), (.aload 0, []), (.sipush 0, [1]), (.sipush 0, [8]), (.invokevirtual 0, [46, 3, 3]), (.ifCond .ne 0, [47005]), (.sipush 0, [0]), (.ireturn, [1])],
  [(.aload 1, []), (.aload 0, []), (.getfield 0, [3, 4]), (.putfield 0, [6, 1, 0]), (.aload 0, []), (.invokevirtual 0, [45, 1, 3]), (.ireturn, [1])]]
def sr_m47 : List (List Bool) := [[true, false], [true, false], [true, true], [true, true], [true, true], [true, true]]
def sr_p47 : List Nat := [0, 31, 37, 53, 80, 100]
/-- 48: X4_takeScreen -/
def sr_b48 : List (List sr_I) := [[(.aload 0, []), (.getfield 0, [3, 3]), (.getfield 0, [8, 0]), (.getfield 0, [5, 0]), (.astore 1, []), (.aload 1, []), (.getfield 0, [6, 2]), (.istore 2, []), (.iload 2, []), (.sipush 0, [5]), (.if_icmp .lt 0, [48001]), (.aload 0, []), (.sipush 0, [2]), (.invokevirtual 0, [43, 2, 3]), (.ireturn, [1])],
  [(.aload 0, []), (.getfield 0, [3, 2]), (.invokevirtual 0, [66, 1, 4]), (.aload 0, []), (.getfield 0, [3, 2]), (.getfield 0, [4, 5]), (.sipush 0, [3]), (.if_icmp .eq 0, [48002]), (.aload 0, []), (.sipush 0, [1]), (.invokevirtual 0, [43, 2, 3]), (.ireturn, [1])],
  [(.aload 0, []), (.getfield 0, [3, 3]), (.aload 0, []), (.getfield 0, [3, 2]), (.getfield 0, [4, 6]), (.invokevirtual 0, [118, 2, 8]), (.ifCond .lt 0, [48003]), (.aload 0, []), (.sipush 0, [3]), (.invokevirtual 0, [43, 2, 3]), (.ireturn, [1])],
  [(.aload 0, []), (.getfield 0, [3, 3]), (.getfield 0, [8, 2]), (.iload 2, []), (.aload 0, []), (.getfield 0, [3, 2]), (.getfield 0, [4, 6]), (.iastore, []), (.aload 0, []), (.getfield 0, [3, 2]), (.invokevirtual 0, [66, 1, 4]), (.aload 0, []), (.sipush 0, [0]), (.sipush 0, [3]), (.invokevirtual 0, [46, 3, 3]), (.ifCond .ne 0, [48004]), (.sipush 0, [0]), (.ireturn, [1])],
  [(.aload 1, []), (.getfield 0, [6, 5]), (.iload 2, []), (.aload 0, []), (.getfield 0, [3, 4]), (.iastore, []), (.aload 0, []), (.sipush 0, [0]), (.aload 1, []), (.getfield 0, [6, 0]), (.sipush 0, [1]), (.isub, []), (.invokevirtual 0, [46, 3, 3]), (.ifCond .ne 0, [48005]), (.sipush 0, [0]), (.ireturn, [1])],
  [(.aload 1, []), (.getfield 0, [6, 6]), (.iload 2, []), (.aload 0, []), (.getfield 0, [3, 4]), (.iastore, []), (.aload 0, []), (.sipush 0, [0]), (.aload 1, []), (.getfield 0, [6, 1]), (.sipush 0, [1]), (.isub, []), (.invokevirtual 0, [46, 3, 3]), (.ifCond .ne 0, [48006]), (.sipush 0, [0]), (.ireturn, [1])],
  [(.aload 1, []), (.getfield 0, [6, 7]), (.iload 2, []), (.aload 0, []), (.getfield 0, [3, 4]), (.iastore, []), (.aload 0, []), (.sipush 0, [1]), (.sipush 0, [4]), (.invokevirtual 0, [46, 3, 3]), (.ifCond .ne 0, [48007]), (.sipush 0, [0]), (.ireturn, [1])],
  [(.aload 1, []), (.getfield 0, [6, 8]), (.iload 2, []), (.aload 0, []), (.getfield 0, [3, 4]), (.iastore, []), (.aload 1, []), (.getfield 0, [6, 10]), (.iload 2, []), (.sipush 0, [1]), (.aload 0, []), (.getfield 0, [3, 4]), (.ishl, []), (.sipush 0, [1]), (.isub, []), (.iastore, []), (.aload 0, []), (.sipush 0, [0]), (.sipush 0, [1]), (.invokevirtual 0, [46, 3, 3]), (.ifCond .ne 0, [48008]), (.sipush 0, [0]), (.ireturn, [1])],
  [(.aload 1, []), (.getfield 0, [6, 9]), (.iload 2, []), (.aload 0, []), (.getfield 0, [3, 4]), (.iastore, []), (.aload 1, []), (.iload 2, []), (.aload 1, []), (.getfield 0, [6, 6]), (.iload 2, []), (.iaload, []), (.aload 1, []), (.getfield 0, [6, 7]), (.iload 2, []), (.iaload, []), (.aload 0, []), (.getfield 0, [3, 4]), (.invokevirtual 0, [96, 5, 6]), (.ifCond .ne 0, [48009]), (.aload 0, []), (.sipush 0, [5]), (.invokevirtual 0, [43, 2, 3]), (.pop, []), (.aload 0, []), (.aload 0, []), (.getfield 0, [3, 5]), (.putfield 0, [3, 1, 0]), (.sipush 0, [0]), (.ireturn, [1])],
  [(.aload 1, []), (.dup, []), (.getfield 0, [6, 3]), (.sipush 0, [1]), (.iload 2, []), (.ishl, []), (.ior, []), (.putfield 0, [6, 3, 0]), (.aload 1, []), (.dup, []), (.getfield 0, [6, 2]), (.sipush 0, [1]), (.iadd, []), (.putfield 0, [6, 2, 0]), (.aload 0, []), (.invokevirtual 0, [45, 1, 3]), (.ireturn, [1])]]
def sr_m48 : List (List Bool) := [[true, false, false], [true, true, true], [true, true, true], [true, true, true], [true, true, true], [true, true, true], [true, true, true], [true, true, true], [true, true, true], [true, true, true]]
def sr_p48 : List Nat := [0, 27, 51, 74, 108, 134, 160, 181, 216, 266]
/-- 49: X4_takeFolk -/
def sr_b49 : List (List sr_I) := [[(.aload 0, []), (.getfield 0, [3, 3]), (.getfield 0, [8, 0]), (.astore 1, []), (.aload 1, []), (.getfield 0, [5, 1]), (.istore 2, []), (.iload 2, []), (.sipush 0, [6]), (.if_icmp .lt 0, [49001]), (.aload 0, []), (.sipush 0, [2]), (.invokevirtual 0, [43, 2, 3]), (.ireturn, [1])],
  [(.aload 0, []), (.getfield 0, [3, 2]), (.invokevirtual 0, [66, 1, 4]), (.aload 0, []), (.getfield 0, [3, 2]), (.getfield 0, [4, 5]), (.sipush 0, [3]), (.if_icmp .eq 0, [49002]), (.aload 0, []), (.sipush 0, [1]), (.invokevirtual 0, [43, 2, 3]), (.ireturn, [1])],
  [(.aload 0, []), (.getfield 0, [3, 3]), (.aload 0, []), (.getfield 0, [3, 2]), (.getfield 0, [4, 6]), (.invokevirtual 0, [119, 2, 8]), (.ifCond .lt 0, [49003]), (.aload 0, []), (.sipush 0, [3]), (.invokevirtual 0, [43, 2, 3]), (.ireturn, [1])],
  [(.aload 0, []), (.getfield 0, [3, 3]), (.getfield 0, [8, 3]), (.iload 2, []), (.aload 0, []), (.getfield 0, [3, 2]), (.getfield 0, [4, 6]), (.iastore, []), (.aload 0, []), (.getfield 0, [3, 2]), (.invokevirtual 0, [66, 1, 4]), (.aload 0, []), (.sipush 0, [0]), (.sipush 0, [99]), (.invokevirtual 0, [46, 3, 3]), (.ifCond .ne 0, [49004]), (.sipush 0, [0]), (.ireturn, [1])],
  [(.aload 1, []), (.getfield 0, [5, 2]), (.iload 2, []), (.aload 0, []), (.getfield 0, [3, 4]), (.iastore, []), (.aload 0, []), (.sipush 0, [0]), (.aload 1, []), (.getfield 0, [5, 0]), (.getfield 0, [6, 0]), (.sipush 0, [1]), (.isub, []), (.invokevirtual 0, [46, 3, 3]), (.ifCond .ne 0, [49005]), (.sipush 0, [0]), (.ireturn, [1])],
  [(.aload 1, []), (.getfield 0, [5, 3]), (.iload 2, []), (.aload 0, []), (.getfield 0, [3, 4]), (.iastore, []), (.aload 0, []), (.sipush 0, [0]), (.aload 1, []), (.getfield 0, [5, 0]), (.getfield 0, [6, 1]), (.sipush 0, [1]), (.isub, []), (.invokevirtual 0, [46, 3, 3]), (.ifCond .ne 0, [49006]), (.sipush 0, [0]), (.ireturn, [1])],
  [(.aload 1, []), (.getfield 0, [5, 4]), (.iload 2, []), (.aload 0, []), (.getfield 0, [3, 4]), (.iastore, []), (.aload 0, []), (.sipush 0, [0]), (.sipush 0, [3]), (.invokevirtual 0, [46, 3, 3]), (.ifCond .ne 0, [49007]), (.sipush 0, [0]), (.ireturn, [1])],
  [(.aload 1, []), (.getfield 0, [5, 5]), (.iload 2, []), (.aload 0, []), (.getfield 0, [3, 4]), (.iastore, []), (.aload 1, []), (.getfield 0, [5, 6]), (.iload 2, []), (.sipush 0, [0]), (.iastore, []), (.aload 1, []), (.dup, []), (.getfield 0, [5, 1]), (.sipush 0, [1]), (.iadd, []), (.putfield 0, [5, 1, 0]), (.aload 0, []), (.invokevirtual 0, [45, 1, 3]), (.ireturn, [1])]]
def sr_m49 : List (List Bool) := [[true, false, false], [true, true, true], [true, true, true], [true, true, true], [true, true, true], [true, true, true], [true, true, true], [true, true, true]]
def sr_p49 : List Nat := [0, 25, 49, 72, 107, 136, 165, 186]
/-- 50: X4_takeCarry -/
def sr_b50 : List (List sr_I) := [[(.aload 0, []), (.getfield 0, [3, 3]), (.getfield 0, [8, 9]), (.istore 1, []), (.iload 1, []), (.sipush 0, [10]), (.if_icmp .lt 0, [50001]), (.aload 0, []), (.sipush 0, [2]), (.invokevirtual 0, [43, 2, 3]), (.ireturn, [1])],
  [(.aload 0, []), (.getfield 0, [3, 2]), (.invokevirtual 0, [66, 1, 4]), (.aload 0, []), (.getfield 0, [3, 2]), (.getfield 0, [4, 5]), (.sipush 0, [3]), (.if_icmp .eq 0, [50002]), (.aload 0, []), (.sipush 0, [1]), (.invokevirtual 0, [43, 2, 3]), (.ireturn, [1])],
  [(.aload 0, []), (.getfield 0, [3, 3]), (.aload 0, []), (.getfield 0, [3, 2]), (.getfield 0, [4, 6]), (.invokevirtual 0, [118, 2, 8]), (.istore 2, []), (.iload 2, []), (.ifCond .ge 0, [50003]), (.aload 0, []), (.sipush 0, [4]), (.invokevirtual 0, [43, 2, 3]), (.ireturn, [1])],
  [(.aload 0, []), (.getfield 0, [3, 3]), (.getfield 0, [8, 10]), (.iload 1, []), (.iload 2, []), (.iastore, []), (.aload 0, []), (.getfield 0, [3, 2]), (.invokevirtual 0, [66, 1, 4]), (.aload 0, []), (.sipush 0, [0]), (.sipush 0, [99]), (.invokevirtual 0, [46, 3, 3]), (.ifCond .ne 0, [50004]), (.sipush 0, [0]), (.ireturn, [1])],
  [(.aload 0, []), (.getfield 0, [3, 3]), (.getfield 0, [8, 11]), (.iload 1, []), (.aload 0, []), (.getfield 0, [3, 4]), (.iastore, []), (.aload 0, []), (.sipush 0, [0]), (.sipush 0, [7]), (.invokevirtual 0, [46, 3, 3]), (.ifCond .ne 0, [50005]), (.sipush 0, [0]), (.ireturn, [1])],
  [(.aload 0, []), (.getfield 0, [3, 3]), (.getfield 0, [8, 12]), (.iload 1, []), (.aload 0, []), (.getfield 0, [3, 4]), (.iastore, []), (.aload 0, []), (.sipush 0, [0]), (.sipush 0, [7]), (.invokevirtual 0, [46, 3, 3]), (.ifCond .ne 0, [50006]), (.sipush 0, [0]), (.ireturn, [1])],
  [(.aload 0, []), (.getfield 0, [3, 3]), (.getfield 0, [8, 13]), (.iload 1, []), (.aload 0, []), (.getfield 0, [3, 4]), (.iastore, []), (.aload 0, []), (.getfield 0, [3, 3]), (.dup, []), (.getfield 0, [8, 9]), (.sipush 0, [1]), (.iadd, []), (.putfield 0, [8, 9, 0]), (.aload 0, []), (.invokevirtual 0, [45, 1, 3]), (.ireturn, [1])]]
def sr_m50 : List (List Bool) := [[true, false, false], [true, true, false], [true, true, false], [true, true, true], [true, true, false], [true, true, false], [true, true, false]]
def sr_p50 : List Nat := [0, 20, 44, 69, 98, 123, 148]
/-- 51: X4_takeStep -/
def sr_b51 : List (List sr_I) := [[(.aload 0, []), (.getfield 0, [3, 3]), (.getfield 0, [8, 14]), (.istore 1, []), (.iload 1, []), (.sipush 0, [12]), (.if_icmp .lt 0, [51001]), (.aload 0, []), (.sipush 0, [2]), (.invokevirtual 0, [43, 2, 3]), (.ireturn, [1])],
  [(.aload 0, []), (.getfield 0, [3, 2]), (.invokevirtual 0, [66, 1, 4]), (.aload 0, []), (.getfield 0, [3, 2]), (.getfield 0, [4, 5]), (.sipush 0, [3]), (.if_icmp .eq 0, [51002]), (.aload 0, []), (.sipush 0, [1]), (.invokevirtual 0, [43, 2, 3]), (.ireturn, [1])],
  [(.aload 0, []), (.getfield 0, [3, 3]), (.aload 0, []), (.getfield 0, [3, 2]), (.getfield 0, [4, 6]), (.invokevirtual 0, [119, 2, 8]), (.istore 2, []), (.iload 2, []), (.ifCond .ge 0, [51003]), (.aload 0, []), (.sipush 0, [4]), (.invokevirtual 0, [43, 2, 3]), (.ireturn, [1])],
  [(.aload 0, []), (.getfield 0, [3, 3]), (.getfield 0, [8, 15]), (.iload 1, []), (.iload 2, []), (.iastore, []), (.aload 0, []), (.getfield 0, [3, 2]), (.invokevirtual 0, [66, 1, 4]), (.aload 0, []), (.sipush 0, [0]), (.sipush 0, [99]), (.invokevirtual 0, [46, 3, 3]), (.ifCond .ne 0, [51004]), (.sipush 0, [0]), (.ireturn, [1])],
  [(.aload 0, []), (.getfield 0, [3, 3]), (.getfield 0, [8, 16]), (.iload 1, []), (.aload 0, []), (.getfield 0, [3, 4]), (.iastore, []), (.aload 0, []), (.sipush 0, [0]), (.sipush 0, [3]), (.invokevirtual 0, [46, 3, 3]), (.ifCond .ne 0, [51005]), (.sipush 0, [0]), (.ireturn, [1])],
  [(.aload 0, []), (.getfield 0, [3, 3]), (.getfield 0, [8, 17]), (.iload 1, []), (.aload 0, []), (.getfield 0, [3, 4]), (.iastore, []), (.aload 0, []), (.getfield 0, [3, 3]), (.dup, []), (.getfield 0, [8, 14]), (.sipush 0, [1]), (.iadd, []), (.putfield 0, [8, 14, 0]), (.aload 0, []), (.invokevirtual 0, [45, 1, 3]), (.ireturn, [1])]]
def sr_m51 : List (List Bool) := [[true, false, false], [true, true, false], [true, true, false], [true, true, true], [true, true, false], [true, true, false]]
def sr_p51 : List Nat := [0, 20, 44, 69, 98, 122]
/-- 52: X4_takeMoth -/
def sr_b52 : List (List sr_I) := [[(.aload 0, []), (.getfield 0, [3, 3]), (.getfield 0, [8, 7]), (.ifCond .eq 0, [52001]), (.aload 0, []), (.sipush 0, [3]), (.invokevirtual 0, [43, 2, 3]), (.ireturn, [1])],
  [(.aload 0, []), (.getfield 0, [3, 3]), (.sipush 0, [1]), (.putfield 0, [8, 7, 1]), (.aload 0, []), (.getfield 0, [3, 2]), (.invokevirtual 0, [66, 1, 4]), (.aload 0, []), (.sipush 0, [0]), (.sipush 0, [100]), (.invokevirtual 0, [46, 3, 3]), (.ifCond .ne 0, [52002]), (.sipush 0, [0]), (.ireturn, [1])],
  [(.aload 0, []), (.getfield 0, [3, 3]), (.aload 0, []), (.getfield 0, [3, 4]), (.putfield 0, [8, 5, 0]), (.aload 0, []), (.invokevirtual 0, [45, 1, 3]), (.ireturn, [1])]]
def sr_m52 : List (List Bool) := [[true], [true], [true]]
def sr_p52 : List Nat := [0, 16, 43]
/-- 53: X4_takeSeed -/
def sr_b53 : List (List sr_I) := [[(.aload 0, []), (.getfield 0, [3, 3]), (.getfield 0, [8, 8]), (.ifCond .eq 0, [53001]), (.aload 0, []), (.sipush 0, [3]), (.invokevirtual 0, [43, 2, 3]), (.ireturn, [1])],
  [(.aload 0, []), (.getfield 0, [3, 3]), (.sipush 0, [1]), (.putfield 0, [8, 8, 1]), (.aload 0, []), (.getfield 0, [3, 2]), (.invokevirtual 0, [66, 1, 4]), (.aload 0, []), (.sipush 0, [0]), (.sipush 0, [99999]), (.invokevirtual 0, [46, 3, 3]), (.ifCond .ne 0, [53002]), (.sipush 0, [0]), (.ireturn, [1])],
  [(.aload 0, []), (.getfield 0, [3, 3]), (.getfield 0, [8, 0]), (.aload 0, []), (.getfield 0, [3, 4]), (.i2l, []), (.putfield 0, [5, 9, 2]), (.aload 0, []), (.invokevirtual 0, [45, 1, 3]), (.ireturn, [1])]]
def sr_m53 : List (List Bool) := [[true], [true], [true]]
def sr_p53 : List Nat := [0, 16, 43]
/-- 54: X4_takeLaw -/
def sr_b54 : List (List sr_I) := [[(.aload 0, []), (.getfield 0, [3, 2]), (.invokevirtual 0, [66, 1, 4]), (.aload 0, []), (.getfield 0, [3, 2]), (.getfield 0, [4, 5]), (.sipush 0, [28]), (.isub, []), (.istore 1, []), (.iload 1, []), (.ifCond .lt 0, [54001]), (.iload 1, []), (.sipush 0, [3]), (.if_icmp .lt 0, [54002]), (.nop, [54001])],
  [(.aload 0, []), (.sipush 0, [1]), (.invokevirtual 0, [43, 2, 3]), (.ireturn, [1])],
  [(.aload 0, []), (.getfield 0, [3, 3]), (.getfield 0, [8, 1]), (.iload 1, []), (.invokevirtual 0, [31, 2, 2]), (.ifCond .eq 0, [54003]), (.aload 0, []), (.sipush 0, [3]), (.invokevirtual 0, [43, 2, 3]), (.ireturn, [1])],
  [(.aload 0, []), (.getfield 0, [3, 2]), (.invokevirtual 0, [66, 1, 4]), (.aload 0, []), (.getfield 0, [3, 3]), (.getfield 0, [8, 1]), (.iload 1, []), (.invokevirtual 0, [32, 2, 2]), (.aload 0, []), (.invokevirtual 0, [55, 1, 3]), (.ifCond .ne 0, [54004]), (.sipush 0, [0]), (.ireturn, [1])],
  [(.aload 0, []), (.getfield 0, [3, 3]), (.getfield 0, [8, 1]), (.iload 1, []), (.invokevirtual 0, [33, 2, 2]), (.aload 0, []), (.invokevirtual 0, [45, 1, 3]), (.ireturn, [1])]]
def sr_m54 : List (List Bool) := [[true, false], [true, false], [true, true], [true, true], [true, true]]
def sr_p54 : List Nat := [0, 27, 33, 53, 80]
/-- 55: X4_takeLawBody -/
def sr_b55 : List (List sr_I) := [[(.aload 0, []), (.sipush 0, [0]), (.putfield 0, [3, 7, 0]), (.aload 0, []), (.sipush 0, [0]), (.putfield 0, [3, 8, 0]), (.aload 0, []), (.sipush 0, [0]), (.putfield 0, [3, 9, 0]), (.aload 0, []), (.sipush 0, [1]), (.putfield 0, [3, 10, 1]), (.aload 0, []), (.sipush 0, [1]), (.putfield 0, [3, 11, 1]), (.sipush 0, [0]), (.istore 1, []), (.nop, [55001])],
  [(.iload 1, []), (.sipush 0, [700]), (.if_icmp .gt 0, [55006]), (.aload 0, []), (.getfield 0, [3, 10]), (.ifCond .ne 0, [55002]), (.aload 0, []), (.getfield 0, [3, 8]), (.ifCond .ne 0, [55002]), (.aload 0, []), (.getfield 0, [3, 2]), (.getfield 0, [4, 5]), (.sipush 0, [4]), (.if_icmp .ne 0, [55002]), (.aload 0, []), (.sipush 0, [1]), (.invokevirtual 0, [61, 2, 3]), (.sipush 0, [1]), (.ireturn, [1])],
  [(.aload 0, []), (.getfield 0, [3, 10]), (.ifCond .eq 0, [55003]), (.aload 0, []), (.invokevirtual 0, [56, 1, 3]), (.goto 0, [55004])],
  [(.aload 0, []), (.invokevirtual 0, [58, 1, 3]), (.nop, [55004])],
  [(.istore 2, []), (.iload 2, []), (.ifCond .ne 0, [55005]), (.sipush 0, [0]), (.ireturn, [1])],
  [(.aload 0, []), (.getfield 0, [3, 2]), (.invokevirtual 0, [66, 1, 4]), (.iinc 1 0, [1]), (.goto 0, [55001])],
  [(.aload 0, []), (.sipush 0, [1]), (.invokevirtual 0, [43, 2, 3]), (.ireturn, [1])]]
def sr_m55 : List (List Bool) := [[true, false, false], [true, true, false], [true, true, false], [true, true, false], [true, true, false], [true, true, false], [true, false, false]]
def sr_p55 : List Nat := [0, 27, 66, 80, 84, 91, 104]
/-- 56: X4_takeOperand -/
def sr_b56 : List (List sr_I) := [[(.aload 0, []), (.getfield 0, [3, 2]), (.getfield 0, [4, 5]), (.istore 1, []), (.iload 1, []), (.sipush 0, [5]), (.if_icmp .ne 0, [56001]), (.aload 0, []), (.invokevirtual 0, [57, 1, 3]), (.ireturn, [1])],
  [(.iload 1, []), (.sipush 0, [2]), (.if_icmp .ne 0, [56002]), (.sipush 0, [1]), (.goto 0, [56003])],
  [(.sipush 0, [0]), (.nop, [56003])],
  [(.istore 2, []), (.iload 1, []), (.sipush 0, [33]), (.if_icmp .ne 0, [56004]), (.aload 0, []), (.getfield 0, [3, 11]), (.ifCond .eq 0, [56004]), (.sipush 0, [1]), (.goto 0, [56005])],
  [(.sipush 0, [0]), (.nop, [56005])],
  [(.istore 3, []), (.iload 1, []), (.sipush 0, [34]), (.if_icmp .lt 0, [56006]), (.iload 1, []), (.sipush 0, [40]), (.if_icmp .gt 0, [56006]), (.sipush 0, [1]), (.goto 0, [56007])],
  [(.sipush 0, [0]), (.nop, [56007])],
  [(.istore 4, []), (.iload 2, []), (.ifCond .ne 0, [56008]), (.iload 3, []), (.ifCond .ne 0, [56008]), (.iload 4, []), (.ifCond .ne 0, [56008]), (.aload 0, []), (.sipush 0, [1]), (.invokevirtual 0, [43, 2, 3]), (.ireturn, [1])],
  [(.iload 2, []), (.ifCond .eq 0, [56009]), (.aload 0, []), (.getfield 0, [3, 2]), (.getfield 0, [4, 6]), (.sipush 0, [9999]), (.if_icmp .le 0, [56009]), (.aload 0, []), (.sipush 0, [2]), (.invokevirtual 0, [43, 2, 3]), (.ireturn, [1])],
  [(.aload 0, []), (.invokevirtual 0, [59, 1, 3]), (.ifCond .ne 0, [56010]), (.sipush 0, [0]), (.ireturn, [1])],
  [(.iload 3, []), (.ifCond .eq 0, [56011]), (.aload 0, []), (.iload 1, []), (.invokevirtual 0, [60, 2, 3]), (.goto 0, [56016])],
  [(.aload 0, []), (.getfield 0, [3, 3]), (.getfield 0, [8, 1]), (.iload 2, []), (.ifCond .eq 0, [56012]), (.iload 1, []), (.goto 0, [56013])],
  [(.sipush 0, [34]), (.nop, [56013])],
  [(.iload 2, []), (.ifCond .eq 0, [56014]), (.aload 0, []), (.getfield 0, [3, 2]), (.getfield 0, [4, 6]), (.goto 0, [56015])],
  [(.iload 1, []), (.sipush 0, [34]), (.isub, []), (.nop, [56015])],
  [(.invokevirtual 0, [34, 3, 2]), (.aload 0, []), (.sipush 0, [0]), (.putfield 0, [3, 10, 1]), (.nop, [56016])],
  [(.sipush 0, [1]), (.ireturn, [1])]]
def sr_m56 : List (List Bool) := [[true, false, false, false, false], [true, true, false, false, false], [true, true, false, false, false], [true, true, false, false, false], [true, true, true, false, false], [true, true, true, false, false], [true, true, true, true, false], [true, true, true, true, false], [true, true, true, true, false], [true, true, true, true, false], [true, true, true, true, false], [true, true, true, false, false], [true, true, true, false, false], [true, true, true, false, false], [true, true, false, false, false], [true, false, false, false, false], [false, false, false, false, false]]
def sr_p56 : List Nat := [0, 18, 27, 28, 46, 47, 64, 65, 86, 109, 118, 130, 145, 147, 161, 165, 173]
/-- 57: X4_takeOpen -/
def sr_b57 : List (List sr_I) := [[(.aload 0, []), (.getfield 0, [3, 8]), (.sipush 0, [8]), (.if_icmp .lt 0, [57001]), (.aload 0, []), (.sipush 0, [2]), (.invokevirtual 0, [43, 2, 3]), (.ireturn, [1])],
  [(.aload 0, []), (.sipush 0, [5]), (.invokevirtual 0, [60, 2, 3]), (.aload 0, []), (.dup, []), (.getfield 0, [3, 8]), (.sipush 0, [1]), (.iadd, []), (.putfield 0, [3, 8, 0]), (.aload 0, []), (.dup, []), (.getfield 0, [3, 9]), (.sipush 0, [1]), (.aload 0, []), (.getfield 0, [3, 8]), (.ishl, []), (.sipush 0, [1, 0]), (.ixor, []), (.iand, []), (.putfield 0, [3, 9, 0]), (.aload 0, []), (.sipush 0, [1]), (.putfield 0, [3, 11, 1]), (.sipush 0, [1]), (.ireturn, [1])]]
def sr_m57 : List (List Bool) := [[true], [true]]
def sr_p57 : List Nat := [0, 15]
/-- 58: X4_takeBehindOperand -/
def sr_b58 : List (List sr_I) := [[(.aload 0, []), (.getfield 0, [3, 2]), (.getfield 0, [4, 5]), (.istore 1, []), (.iload 1, []), (.sipush 0, [6]), (.if_icmp .ne 0, [58001]), (.aload 0, []), (.getfield 0, [3, 8]), (.ifCond .le 0, [58001]), (.aload 0, []), (.sipush 0, [1]), (.invokevirtual 0, [61, 2, 3]), (.aload 0, []), (.sipush 0, [0]), (.aload 0, []), (.getfield 0, [3, 7]), (.sipush 0, [1]), (.isub, []), (.invokestatic 0, [1]), (.putfield 0, [3, 7, 0]), (.aload 0, []), (.dup, []), (.getfield 0, [3, 8]), (.sipush 0, [1]), (.isub, []), (.putfield 0, [3, 8, 0]), (.sipush 0, [1]), (.ireturn, [1])],
  [(.iload 1, []), (.invokestatic 0, [62, 1]), (.istore 2, []), (.iload 2, []), (.sipush 0, [4]), (.if_icmp .ne 0, [58002]), (.sipush 0, [1]), (.goto 0, [58003])],
  [(.sipush 0, [0]), (.nop, [58003])],
  [(.istore 3, []), (.iload 2, []), (.ifCond .eq 0, [58004]), (.iload 1, []), (.sipush 0, [33]), (.if_icmp .ne 0, [58005]), (.nop, [58004])],
  [(.aload 0, []), (.sipush 0, [1]), (.invokevirtual 0, [43, 2, 3]), (.ireturn, [1])],
  [(.iload 3, []), (.ifCond .eq 0, [58006]), (.aload 0, []), (.getfield 0, [3, 9]), (.aload 0, []), (.getfield 0, [3, 8]), (.ishr, []), (.sipush 0, [1]), (.iand, []), (.sipush 0, [1]), (.if_icmp .ne 0, [58006]), (.aload 0, []), (.sipush 0, [1]), (.invokevirtual 0, [43, 2, 3]), (.ireturn, [1])],
  [(.aload 0, []), (.invokevirtual 0, [59, 1, 3]), (.ifCond .ne 0, [58007]), (.sipush 0, [0]), (.ireturn, [1])],
  [(.iload 3, []), (.ifCond .eq 0, [58008]), (.aload 0, []), (.dup, []), (.getfield 0, [3, 9]), (.sipush 0, [1]), (.aload 0, []), (.getfield 0, [3, 8]), (.ishl, []), (.ior, []), (.putfield 0, [3, 9, 0]), (.nop, [58008])],
  [(.iload 2, []), (.sipush 0, [4]), (.if_icmp .ge 0, [58009]), (.aload 0, []), (.dup, []), (.getfield 0, [3, 9]), (.sipush 0, [1]), (.aload 0, []), (.getfield 0, [3, 8]), (.ishl, []), (.sipush 0, [1, 0]), (.ixor, []), (.iand, []), (.putfield 0, [3, 9, 0]), (.nop, [58009])],
  [(.aload 0, []), (.iload 2, []), (.invokevirtual 0, [61, 2, 3]), (.aload 0, []), (.iload 1, []), (.invokevirtual 0, [60, 2, 3]), (.aload 0, []), (.sipush 0, [1]), (.putfield 0, [3, 10, 1]), (.aload 0, []), (.iload 2, []), (.sipush 0, [4]), (.if_icmp .ge 0, [58010]), (.sipush 0, [1]), (.goto 0, [58011])],
  [(.sipush 0, [0]), (.nop, [58011])],
  [(.putfield 0, [3, 11, 1]), (.sipush 0, [1]), (.ireturn, [1])]]
def sr_m58 : List (List Bool) := [[true, false, false, false], [true, true, false, false], [true, true, true, false], [true, true, true, false], [true, false, false, false], [true, true, true, true], [true, true, true, true], [true, true, true, true], [true, true, true, false], [true, true, true, false], [false, false, false, false], [false, false, false, false]]
def sr_p58 : List Nat := [0, 52, 66, 67, 78, 84, 109, 118, 137, 159, 184, 185]
/-- 59: X4_countKnot -/
def sr_b59 : List (List sr_I) := [[(.aload 0, []), (.getfield 0, [3, 3]), (.getfield 0, [8, 1]), (.getfield 0, [2, 0]), (.sipush 0, [64]), (.if_icmp .lt 0, [59001]), (.aload 0, []), (.sipush 0, [2]), (.invokevirtual 0, [43, 2, 3]), (.ireturn, [1])],
  [(.aload 0, []), (.getfield 0, [3, 3]), (.getfield 0, [8, 1]), (.dup, []), (.getfield 0, [2, 0]), (.sipush 0, [1]), (.iadd, []), (.putfield 0, [2, 0, 0]), (.sipush 0, [1]), (.ireturn, [1])]]
def sr_m59 : List (List Bool) := [[true], [true]]
def sr_p59 : List Nat := [0, 21]
/-- 60: X4_await -/
def sr_b60 : List (List sr_I) := [[(.aload 0, []), (.getfield 0, [3, 7]), (.aload 0, []), (.getfield 0, [3, 6]), (.arraylength, []), (.if_icmp .lt 0, [60001]), (.return_, [])],
  [(.aload 0, []), (.getfield 0, [3, 6]), (.aload 0, []), (.getfield 0, [3, 7]), (.iload 1, []), (.iastore, []), (.aload 0, []), (.dup, []), (.getfield 0, [3, 7]), (.sipush 0, [1]), (.iadd, []), (.putfield 0, [3, 7, 0]), (.return_, [])]]
def sr_m60 : List (List Bool) := [[true, true], [true, true]]
def sr_p60 : List Nat := [0, 13]
/-- 61: X4_release -/
def sr_b61 : List (List sr_I) := [[(.aload 0, []), (.getfield 0, [3, 7]), (.ifCond .le 0, [61001]), (.aload 0, []), (.getfield 0, [3, 6]), (.aload 0, []), (.getfield 0, [3, 7]), (.sipush 0, [1]), (.isub, []), (.iaload, []), (.invokestatic 0, [62, 1]), (.iload 1, []), (.if_icmp .lt 0, [61001]), (.aload 0, []), (.dup, []), (.getfield 0, [3, 7]), (.sipush 0, [1]), (.isub, []), (.putfield 0, [3, 7, 0]), (.aload 0, []), (.getfield 0, [3, 3]), (.getfield 0, [8, 1]), (.aload 0, []), (.getfield 0, [3, 6]), (.aload 0, []), (.getfield 0, [3, 7]), (.iaload, []), (.sipush 0, [0]), (.invokevirtual 0, [34, 3, 2]), (.goto 0, [61000])],
  [(.return_, [])]]
def sr_m61 : List (List Bool) := [[true, true], [false, false]]
def sr_p61 : List Nat := [0, 58]
/-- 62: X4_rankOf -/
def sr_b62 : List (List sr_I) := [[(.iload 0, []), (.tableswitch 0 7 33 #[], [62007, 62005, 62005, 62006, 62006, 62004, 62004, 62004, 62004, 62004, 62004, 62007, 62007, 62007, 62007, 62007, 62007, 62007, 62007, 62007, 62007, 62007, 62007, 62007, 62007, 62001, 62002, 62003])],
  [(.sipush 0, [1]), (.ireturn, [])],
  [(.sipush 0, [2]), (.ireturn, [])],
  [(.sipush 0, [3]), (.ireturn, [])],
  [(.sipush 0, [4]), (.ireturn, [])],
  [(.sipush 0, [5]), (.ireturn, [])],
  [(.sipush 0, [6]), (.ireturn, [])],
  [(.sipush 0, [0]), (.ireturn, [])]]
def sr_m62 : List (List Bool) := [[true], [false], [false], [false], [false], [false], [false], [false]]
def sr_p62 : List Nat := [0, 124, 126, 128, 130, 132, 134, 137]
/-- 63: X5_init -/
def sr_b63 : List (List sr_I) := [[(.aload 0, []), (.invokespecial 0, [9]), (.aload 0, []), (.sipush 0, [700]), (.newarray .int, []), (.putfield 0, [4, 0, 3]), (.aload 0, []), (.sipush 0, [0]), (.putfield 0, [4, 1, 0]), (.aload 0, []), (.sipush 0, [21]), (.newarray .int, []), (.putfield 0, [4, 2, 3]), (.aload 0, []), (.sipush 0, [0]), (.putfield 0, [4, 3, 0]), (.aload 0, []), (.sipush 0, [0]), (.putfield 0, [4, 4, 0]), (.aload 0, []), (.sipush 0, [0]), (.putfield 0, [4, 5, 0]), (.aload 0, []), (.sipush 0, [0]), (.putfield 0, [4, 6, 0]), (.aload 0, []), (.sipush 0, [0]), (.putfield 0, [4, 7, 0]), (.sipush 0, [0]), (.istore 1, []), (.nop, [63001])],
  [(.iload 1, []), (.sipush 0, [21]), (.if_icmp .ge 0, [63006]), (.sipush 0, [0]), (.istore 2, []), (.sipush 0, [0]), (.istore 3, []), (.nop, [63002])],
  [(.iload 3, []), (.sipush 0, [6]), (.if_icmp .ge 0, [63005]), (.ldc 0, [0]), (.iload 1, []), (.sipush 0, [6]), (.imul, []), (.iload 3, []), (.iadd, []), (.invokevirtual 0, [7]), (.istore 4, []), (.iload 2, []), (.sipush 0, [32]), (.imul, []), (.iload 4, []), (.sipush 0, [32]), (.if_icmp .ne 0, [63003]), (.sipush 0, [0]), (.goto 0, [63004])],
  [(.iload 4, []), (.invokestatic 0, [68, 1]), (.nop, [63004])],
  [(.iadd, []), (.istore 2, []), (.iinc 3 0, [1]), (.goto 0, [63002])],
  [(.aload 0, []), (.getfield 0, [4, 2]), (.iload 1, []), (.iload 2, []), (.iastore, []), (.iinc 1 0, [1]), (.goto 0, [63001])],
  [(.return_, [])]]
def sr_m63 : List (List Bool) := [[true, false, false, false, false], [true, true, false, false, false], [true, true, true, true, false], [true, true, false, true, true], [true, true, false, true, false], [true, true, true, false, false], [false, false, false, false, false]]
def sr_p63 : List Nat := [0, 53, 63, 97, 102, 110, 123]
/-- 64: X5_putBytes -/
def sr_b64 : List (List sr_I) := [[(.sipush 0, [24]), (.istore 2, []), (.nop, [64001])],
  [(.iload 2, []), (.ifCond .lt 0, [64003]), (.aload 0, []), (.getfield 0, [4, 1]), (.sipush 0, [700]), (.if_icmp .ge 0, [64002]), (.aload 0, []), (.getfield 0, [4, 0]), (.aload 0, []), (.getfield 0, [4, 1]), (.iload 1, []), (.iload 2, []), (.ishr, []), (.sipush 0, [255]), (.iand, []), (.iastore, []), (.aload 0, []), (.dup, []), (.getfield 0, [4, 1]), (.sipush 0, [1]), (.iadd, []), (.putfield 0, [4, 1, 0]), (.nop, [64002])],
  [(.iinc 2 0, [8, 0]), (.goto 0, [64001])],
  [(.return_, [])]]
def sr_m64 : List (List Bool) := [[true, true, false], [true, true, true], [true, true, true], [false, false, false]]
def sr_p64 : List Nat := [0, 3, 43, 49]
/-- 65: X5_start -/
def sr_b65 : List (List sr_I) := [[(.aload 0, []), (.iload 1, []), (.aload 0, []), (.getfield 0, [4, 1]), (.invokestatic 0, [0]), (.putfield 0, [4, 3, 0]), (.aload 0, []), (.sipush 0, [0]), (.putfield 0, [4, 4, 0]), (.aload 0, []), (.invokevirtual 0, [66, 1, 4]), (.return_, [])]]
def sr_m65 : List (List Bool) := [[true, true]]
def sr_p65 : List Nat := [0]
/-- 66: X5_next -/
def sr_b66 : List (List sr_I) := [[(.aload 0, []), (.getfield 0, [4, 4]), (.aload 0, []), (.getfield 0, [4, 3]), (.if_icmp .ge 0, [66002]), (.aload 0, []), (.getfield 0, [4, 0]), (.aload 0, []), (.getfield 0, [4, 4]), (.iaload, []), (.sipush 0, [10]), (.if_icmp .eq 0, [66001]), (.aload 0, []), (.getfield 0, [4, 0]), (.aload 0, []), (.getfield 0, [4, 4]), (.iaload, []), (.sipush 0, [32]), (.if_icmp .ne 0, [66002]), (.nop, [66001])],
  [(.aload 0, []), (.dup, []), (.getfield 0, [4, 4]), (.sipush 0, [1]), (.iadd, []), (.putfield 0, [4, 4, 0]), (.goto 0, [66000])],
  [(.aload 0, []), (.aload 0, []), (.getfield 0, [4, 4]), (.putfield 0, [4, 7, 0]), (.aload 0, []), (.getfield 0, [4, 4]), (.aload 0, []), (.getfield 0, [4, 3]), (.if_icmp .lt 0, [66003]), (.aload 0, []), (.sipush 0, [0]), (.putfield 0, [4, 5, 0]), (.goto 0, [66006])],
  [(.aload 0, []), (.getfield 0, [4, 0]), (.aload 0, []), (.getfield 0, [4, 4]), (.iaload, []), (.invokestatic 0, [67, 1]), (.ifCond .eq 0, [66004]), (.aload 0, []), (.invokevirtual 0, [70, 1, 4]), (.goto 0, [66006])],
  [(.aload 0, []), (.getfield 0, [4, 0]), (.aload 0, []), (.getfield 0, [4, 4]), (.iaload, []), (.invokestatic 0, [69, 1]), (.ifCond .eq 0, [66005]), (.aload 0, []), (.invokevirtual 0, [72, 1, 4]), (.goto 0, [66006])],
  [(.aload 0, []), (.invokevirtual 0, [73, 1, 4]), (.nop, [66006])],
  [(.return_, [])]]
def sr_m66 : List (List Bool) := [[true], [true], [true], [true], [true], [true], [false]]
def sr_p66 : List Nat := [0, 39, 52, 79, 101, 123, 127]
/-- 67: X5_isLetter -/
def sr_b67 : List (List sr_I) := [[(.iload 0, []), (.sipush 0, [97]), (.if_icmp .lt 0, [67001]), (.iload 0, []), (.sipush 0, [122]), (.if_icmp .gt 0, [67001]), (.sipush 0, [1]), (.goto 0, [67002])],
  [(.sipush 0, [0]), (.nop, [67002])],
  [(.ireturn, [1])]]
def sr_m67 : List (List Bool) := [[true], [false], [false]]
def sr_p67 : List Nat := [0, 16, 17]
/-- 68: X5_letterNumber -/
def sr_b68 : List (List sr_I) := [[(.iload 0, []), (.sipush 0, [97]), (.isub, []), (.sipush 0, [1]), (.iadd, []), (.ireturn, [])]]
def sr_m68 : List (List Bool) := [[true]]
def sr_p68 : List Nat := [0]
/-- 69: X5_isDigit -/
def sr_b69 : List (List sr_I) := [[(.iload 0, []), (.sipush 0, [48]), (.if_icmp .lt 0, [69001]), (.iload 0, []), (.sipush 0, [57]), (.if_icmp .gt 0, [69001]), (.sipush 0, [1]), (.goto 0, [69002])],
  [(.sipush 0, [0]), (.nop, [69002])],
  [(.ireturn, [1])]]
def sr_m69 : List (List Bool) := [[true], [false], [false]]
def sr_p69 : List Nat := [0, 16, 17]
/-- 70: X5_takeWord -/
def sr_b70 : List (List sr_I) := [[(.sipush 0, [0]), (.istore 1, []), (.sipush 0, [0]), (.istore 2, []), (.nop, [70001])],
  [(.aload 0, []), (.getfield 0, [4, 4]), (.aload 0, []), (.getfield 0, [4, 3]), (.if_icmp .ge 0, [70003]), (.aload 0, []), (.getfield 0, [4, 0]), (.aload 0, []), (.getfield 0, [4, 4]), (.iaload, []), (.invokestatic 0, [67, 1]), (.ifCond .eq 0, [70003]), (.iload 2, []), (.sipush 0, [6]), (.if_icmp .ge 0, [70002]), (.iload 1, []), (.sipush 0, [32]), (.imul, []), (.aload 0, []), (.getfield 0, [4, 0]), (.aload 0, []), (.getfield 0, [4, 4]), (.iaload, []), (.invokestatic 0, [68, 1]), (.iadd, []), (.istore 1, []), (.nop, [70002])],
  [(.iinc 2 0, [1]), (.aload 0, []), (.dup, []), (.getfield 0, [4, 4]), (.sipush 0, [1]), (.iadd, []), (.putfield 0, [4, 4, 0]), (.goto 0, [70001])],
  [(.iload 2, []), (.istore 3, []), (.nop, [70004])],
  [(.iload 3, []), (.sipush 0, [6]), (.if_icmp .ge 0, [70005]), (.iload 1, []), (.sipush 0, [32]), (.imul, []), (.istore 1, []), (.iinc 3 0, [1]), (.goto 0, [70004])],
  [(.aload 0, []), (.iload 1, []), (.putfield 0, [4, 6, 0]), (.aload 0, []), (.iload 2, []), (.sipush 0, [6]), (.if_icmp .le 0, [70006]), (.sipush 0, [1]), (.goto 0, [70007])],
  [(.aload 0, []), (.iload 1, []), (.invokevirtual 0, [71, 2, 4]), (.nop, [70007])],
  [(.putfield 0, [4, 5, 0]), (.return_, [])]]
def sr_m70 : List (List Bool) := [[true, false, false, false], [true, true, true, false], [true, true, true, false], [true, true, true, false], [true, true, true, true], [true, true, true, false], [true, true, false, false], [false, false, false, false]]
def sr_p70 : List Nat := [0, 4, 54, 70, 72, 89, 105, 110]
/-- 71: X5_wordKind -/
def sr_b71 : List (List sr_I) := [[(.sipush 0, [0]), (.istore 2, []), (.nop, [71001])],
  [(.iload 2, []), (.sipush 0, [21]), (.if_icmp .ge 0, [71003]), (.aload 0, []), (.getfield 0, [4, 2]), (.iload 2, []), (.iaload, []), (.iload 1, []), (.if_icmp .ne 0, [71002]), (.sipush 0, [20]), (.iload 2, []), (.iadd, []), (.ireturn, [])],
  [(.iinc 2 0, [1]), (.goto 0, [71001])],
  [(.sipush 0, [3]), (.ireturn, [])]]
def sr_m71 : List (List Bool) := [[true, true, false], [true, true, true], [true, true, true], [false, false, false]]
def sr_p71 : List Nat := [0, 2, 23, 29]
/-- 72: X5_takeDigits -/
def sr_b72 : List (List sr_I) := [[(.sipush 0, [0]), (.istore 1, []), (.nop, [72001])],
  [(.aload 0, []), (.getfield 0, [4, 4]), (.aload 0, []), (.getfield 0, [4, 3]), (.if_icmp .ge 0, [72002]), (.aload 0, []), (.getfield 0, [4, 0]), (.aload 0, []), (.getfield 0, [4, 4]), (.iaload, []), (.invokestatic 0, [69, 1]), (.ifCond .eq 0, [72002]), (.sipush 0, [1000000]), (.iload 1, []), (.sipush 0, [10]), (.imul, []), (.aload 0, []), (.getfield 0, [4, 0]), (.aload 0, []), (.getfield 0, [4, 4]), (.iaload, []), (.sipush 0, [48]), (.isub, []), (.iadd, []), (.invokestatic 0, [0]), (.istore 1, []), (.aload 0, []), (.dup, []), (.getfield 0, [4, 4]), (.sipush 0, [1]), (.iadd, []), (.putfield 0, [4, 4, 0]), (.goto 0, [72001])],
  [(.aload 0, []), (.iload 1, []), (.putfield 0, [4, 6, 0]), (.aload 0, []), (.sipush 0, [2]), (.putfield 0, [4, 5, 0]), (.return_, [])]]
def sr_m72 : List (List Bool) := [[true, false], [true, true], [true, true]]
def sr_p72 : List Nat := [0, 2, 64]
/-- 73: X5_takeSign -/
def sr_b73 : List (List sr_I) := [[(.aload 0, []), (.getfield 0, [4, 0]), (.aload 0, []), (.getfield 0, [4, 4]), (.iaload, []), (.istore 1, []), (.aload 0, []), (.getfield 0, [4, 4]), (.sipush 0, [1]), (.iadd, []), (.aload 0, []), (.getfield 0, [4, 3]), (.if_icmp .ge 0, [73001]), (.aload 0, []), (.getfield 0, [4, 0]), (.aload 0, []), (.getfield 0, [4, 4]), (.sipush 0, [1]), (.iadd, []), (.iaload, []), (.goto 0, [73002])],
  [(.sipush 0, [0]), (.nop, [73002])],
  [(.istore 2, []), (.aload 0, []), (.dup, []), (.getfield 0, [4, 4]), (.sipush 0, [1]), (.iadd, []), (.putfield 0, [4, 4, 0]), (.iload 1, []), (.tableswitch 0 40 62 #[], [73018, 73004, 73005, 73008, 73006, 73018, 73007, 73018, 73009, 73018, 73018, 73018, 73018, 73018, 73018, 73018, 73018, 73018, 73018, 73018, 73003, 73011, 73010, 73015])],
  [(.aload 0, []), (.sipush 0, [4]), (.putfield 0, [4, 5, 0]), (.goto 0, [73019])],
  [(.aload 0, []), (.sipush 0, [5]), (.putfield 0, [4, 5, 0]), (.goto 0, [73019])],
  [(.aload 0, []), (.sipush 0, [6]), (.putfield 0, [4, 5, 0]), (.goto 0, [73019])],
  [(.aload 0, []), (.sipush 0, [7]), (.putfield 0, [4, 5, 0]), (.goto 0, [73019])],
  [(.aload 0, []), (.sipush 0, [8]), (.putfield 0, [4, 5, 0]), (.goto 0, [73019])],
  [(.aload 0, []), (.sipush 0, [9]), (.putfield 0, [4, 5, 0]), (.goto 0, [73019])],
  [(.aload 0, []), (.sipush 0, [10]), (.putfield 0, [4, 5, 0]), (.goto 0, [73019])],
  [(.aload 0, []), (.sipush 0, [13]), (.putfield 0, [4, 5, 0]), (.goto 0, [73019])],
  [(.aload 0, []), (.iload 2, []), (.sipush 0, [61]), (.if_icmp .ne 0, [73012]), (.sipush 0, [12]), (.goto 0, [73014])],
  [(.iload 2, []), (.sipush 0, [62]), (.if_icmp .ne 0, [73013]), (.sipush 0, [14]), (.goto 0, [73014])],
  [(.sipush 0, [11]), (.nop, [73014])],
  [(.putfield 0, [4, 5, 0]), (.goto 0, [73019])],
  [(.aload 0, []), (.iload 2, []), (.sipush 0, [61]), (.if_icmp .ne 0, [73016]), (.sipush 0, [15]), (.goto 0, [73017])],
  [(.sipush 0, [16]), (.nop, [73017])],
  [(.putfield 0, [4, 5, 0]), (.goto 0, [73019])],
  [(.aload 0, []), (.sipush 0, [1]), (.putfield 0, [4, 5, 0]), (.nop, [73019])],
  [(.aload 0, []), (.getfield 0, [4, 5]), (.sipush 0, [12]), (.if_icmp .eq 0, [73020]), (.aload 0, []), (.getfield 0, [4, 5]), (.sipush 0, [14]), (.if_icmp .eq 0, [73020]), (.aload 0, []), (.getfield 0, [4, 5]), (.sipush 0, [15]), (.if_icmp .ne 0, [73021]), (.nop, [73020])],
  [(.aload 0, []), (.dup, []), (.getfield 0, [4, 4]), (.sipush 0, [1]), (.iadd, []), (.putfield 0, [4, 4, 0]), (.nop, [73021])],
  [(.return_, [])]]
def sr_m73 : List (List Bool) := [[true, false, false], [true, true, false], [true, true, false], [true, false, false], [true, false, false], [true, false, false], [true, false, false], [true, false, false], [true, false, false], [true, false, false], [true, false, false], [true, false, true], [true, false, true], [true, false, false], [true, false, false], [true, false, true], [true, false, false], [true, false, false], [true, false, false], [true, false, false], [true, false, false], [false, false, false]]
def sr_p73 : List Nat := [0, 37, 38, 156, 164, 172, 181, 190, 199, 208, 217, 226, 238, 249, 251, 257, 269, 271, 277, 282, 309, 319]
/-- 74: X6_init -/
def sr_b74 : List (List sr_I) := [[(.aload 0, []), (.invokespecial 0, [9]), (.aload 0, []), (.new 0, [6]), (.dup, []), (.invokespecial 0, [84, 1, 6]), (.putfield 0, [5, 0, 3]), (.aload 0, []), (.sipush 0, [6]), (.newarray .int, []), (.putfield 0, [5, 2, 3]), (.aload 0, []), (.sipush 0, [6]), (.newarray .int, []), (.putfield 0, [5, 3, 3]), (.aload 0, []), (.sipush 0, [6]), (.newarray .int, []), (.putfield 0, [5, 4, 3]), (.aload 0, []), (.sipush 0, [6]), (.newarray .int, []), (.putfield 0, [5, 5, 3]), (.aload 0, []), (.sipush 0, [6]), (.newarray .int, []), (.putfield 0, [5, 6, 3]), (.return_, [])]]
def sr_m74 : List (List Bool) := [[true]]
def sr_p74 : List Nat := [0]
/-- 75: X6_empty -/
def sr_b75 : List (List sr_I) := [[(.aload 0, []), (.getfield 0, [5, 0]), (.sipush 0, [4]), (.sipush 0, [4]), (.invokevirtual 0, [89, 3, 6]), (.aload 0, []), (.sipush 0, [0]), (.putfield 0, [5, 1, 0]), (.aload 0, []), (.sipush 0, [0]), (.putfield 0, [5, 7, 0]), (.aload 0, []), (.sipush 0, [0]), (.putfield 0, [5, 8, 0]), (.aload 0, []), (.lconst 0, [0]), (.putfield 0, [5, 9, 2]), (.return_, [])]]
def sr_m75 : List (List Bool) := [[true]]
def sr_p75 : List Nat := [0]
/-- 76: X6_copyFrom -/
def sr_b76 : List (List sr_I) := [[(.aload 0, []), (.getfield 0, [5, 0]), (.aload 1, []), (.getfield 0, [5, 0]), (.invokevirtual 0, [90, 2, 6]), (.aload 0, []), (.aload 1, []), (.getfield 0, [5, 1]), (.putfield 0, [5, 1, 0]), (.aload 1, []), (.getfield 0, [5, 2]), (.sipush 0, [0]), (.aload 0, []), (.getfield 0, [5, 2]), (.sipush 0, [0]), (.sipush 0, [6]), (.invokestatic 0, [6]), (.aload 1, []), (.getfield 0, [5, 3]), (.sipush 0, [0]), (.aload 0, []), (.getfield 0, [5, 3]), (.sipush 0, [0]), (.sipush 0, [6]), (.invokestatic 0, [6]), (.aload 1, []), (.getfield 0, [5, 4]), (.sipush 0, [0]), (.aload 0, []), (.getfield 0, [5, 4]), (.sipush 0, [0]), (.sipush 0, [6]), (.invokestatic 0, [6]), (.aload 1, []), (.getfield 0, [5, 5]), (.sipush 0, [0]), (.aload 0, []), (.getfield 0, [5, 5]), (.sipush 0, [0]), (.sipush 0, [6]), (.invokestatic 0, [6]), (.aload 1, []), (.getfield 0, [5, 6]), (.sipush 0, [0]), (.aload 0, []), (.getfield 0, [5, 6]), (.sipush 0, [0]), (.sipush 0, [6]), (.invokestatic 0, [6]), (.aload 0, []), (.aload 1, []), (.getfield 0, [5, 7]), (.putfield 0, [5, 7, 0]), (.aload 0, []), (.aload 1, []), (.getfield 0, [5, 8]), (.putfield 0, [5, 8, 0]), (.aload 0, []), (.aload 1, []), (.getfield 0, [5, 9]), (.putfield 0, [5, 9, 2]), (.return_, [])]]
def sr_m76 : List (List Bool) := [[true, true]]
def sr_p76 : List Nat := [0]
/-- 77: X6_isFolk -/
def sr_b77 : List (List sr_I) := [[(.iload 1, []), (.ifCond .lt 0, [77001]), (.iload 1, []), (.aload 0, []), (.getfield 0, [5, 1]), (.if_icmp .ge 0, [77001]), (.sipush 0, [1]), (.goto 0, [77002])],
  [(.sipush 0, [0]), (.nop, [77002])],
  [(.ireturn, [1])]]
def sr_m77 : List (List Bool) := [[true, true], [false, false], [false, false]]
def sr_p77 : List Nat := [0, 16, 17]
/-- 78: X6_cellUnder -/
def sr_b78 : List (List sr_I) := [[(.aload 0, []), (.getfield 0, [5, 3]), (.iload 1, []), (.iaload, []), (.aload 0, []), (.getfield 0, [5, 4]), (.iload 1, []), (.iaload, []), (.invokestatic 0, [85, 2]), (.ireturn, [])]]
def sr_m78 : List (List Bool) := [[true, true]]
def sr_p78 : List Nat := [0]
/-- 79: X6_seasonOver -/
def sr_b79 : List (List sr_I) := [[(.aload 0, []), (.getfield 0, [5, 0]), (.getfield 0, [6, 11]), (.aload 0, []), (.iload 1, []), (.invokevirtual 0, [78, 2, 5]), (.iaload, []), (.ireturn, [])]]
def sr_m79 : List (List Bool) := [[true, true]]
def sr_p79 : List Nat := [0]
/-- 80: X6_doneByAll -/
def sr_b80 : List (List sr_I) := [[(.sipush 0, [0]), (.istore 1, []), (.sipush 0, [0]), (.istore 2, []), (.nop, [80001])],
  [(.iload 2, []), (.aload 0, []), (.getfield 0, [5, 1]), (.if_icmp .ge 0, [80002]), (.iload 1, []), (.aload 0, []), (.getfield 0, [5, 6]), (.iload 2, []), (.iaload, []), (.iadd, []), (.istore 1, []), (.iinc 2 0, [1]), (.goto 0, [80001])],
  [(.iload 1, []), (.ireturn, [])]]
def sr_m80 : List (List Bool) := [[true, false, false], [true, true, true], [false, true, false]]
def sr_p80 : List Nat := [0, 4, 27]
/-- 81: X6_ageOfAll -/
def sr_b81 : List (List sr_I) := [[(.sipush 0, [0]), (.istore 1, []), (.sipush 0, [0]), (.istore 2, []), (.nop, [81001])],
  [(.iload 2, []), (.aload 0, []), (.getfield 0, [5, 1]), (.if_icmp .ge 0, [81002]), (.iload 1, []), (.aload 0, []), (.getfield 0, [5, 2]), (.iload 2, []), (.iaload, []), (.iadd, []), (.istore 1, []), (.iinc 2 0, [1]), (.goto 0, [81001])],
  [(.iload 1, []), (.ireturn, [])]]
def sr_m81 : List (List Bool) := [[true, false, false], [true, true, true], [false, true, false]]
def sr_p81 : List Nat := [0, 4, 27]
/-- 82: X6_atWork -/
def sr_b82 : List (List sr_I) := [[(.sipush 0, [0]), (.istore 1, []), (.sipush 0, [0]), (.istore 2, []), (.nop, [82001])],
  [(.iload 2, []), (.aload 0, []), (.getfield 0, [5, 1]), (.if_icmp .ge 0, [82003]), (.aload 0, []), (.iload 2, []), (.invokevirtual 0, [79, 2, 5]), (.aload 0, []), (.getfield 0, [5, 5]), (.iload 2, []), (.iaload, []), (.if_icmp .ne 0, [82002]), (.iinc 1 0, [1]), (.nop, [82002])],
  [(.iinc 2 0, [1]), (.goto 0, [82001])],
  [(.iload 1, []), (.ireturn, [])]]
def sr_m82 : List (List Bool) := [[true, false, false], [true, true, true], [true, true, true], [false, true, false]]
def sr_p82 : List Nat := [0, 4, 29, 35]
/-- 83: X6_drawNumber -/
def sr_b83 : List (List sr_I) := [[(.aload 0, []), (.aload 0, []), (.getfield 0, [5, 9]), (.lconst 0, [1103515245]), (.lmul, []), (.lconst 0, [12345]), (.ladd, []), (.lconst 0, [2147483647]), (.land, []), (.putfield 0, [5, 9, 2]), (.aload 0, []), (.getfield 0, [5, 9]), (.lconst 0, [65536]), (.ldiv, []), (.l2i, []), (.ireturn, [])]]
def sr_m83 : List (List Bool) := [[true]]
def sr_p83 : List Nat := [0]
/-- 84: X7_init -/
def sr_b84 : List (List sr_I) := [[(.aload 0, []), (.invokespecial 0, [9]), (.aload 0, []), (.sipush 0, [5]), (.newarray .int, []), (.putfield 0, [6, 5, 3]), (.aload 0, []), (.sipush 0, [5]), (.newarray .int, []), (.putfield 0, [6, 6, 3]), (.aload 0, []), (.sipush 0, [5]), (.newarray .int, []), (.putfield 0, [6, 7, 3]), (.aload 0, []), (.sipush 0, [5]), (.newarray .int, []), (.putfield 0, [6, 8, 3]), (.aload 0, []), (.sipush 0, [5]), (.newarray .int, []), (.putfield 0, [6, 9, 3]), (.aload 0, []), (.sipush 0, [5]), (.newarray .int, []), (.putfield 0, [6, 10, 3]), (.aload 0, []), (.sipush 0, [64]), (.newarray .int, []), (.putfield 0, [6, 11, 3]), (.aload 0, []), (.sipush 0, [64]), (.newarray .int, []), (.putfield 0, [6, 12, 3]), (.aload 0, []), (.sipush 0, [64]), (.newarray .int, []), (.putfield 0, [6, 13, 3]), (.return_, [])]]
def sr_m84 : List (List Bool) := [[true]]
def sr_p84 : List Nat := [0]
/-- 85: X7_cellOf -/
def sr_b85 : List (List sr_I) := [[(.iload 0, []), (.sipush 0, [8]), (.imul, []), (.iload 1, []), (.iadd, []), (.ireturn, [])]]
def sr_m85 : List (List Bool) := [[true, true]]
def sr_p85 : List Nat := [0]
/-- 86: X7_rowOf -/
def sr_b86 : List (List sr_I) := [[(.iload 0, []), (.sipush 0, [8]), (.idiv, []), (.ireturn, [])]]
def sr_m86 : List (List Bool) := [[true]]
def sr_p86 : List Nat := [0]
/-- 87: X7_columnOf -/
def sr_b87 : List (List sr_I) := [[(.iload 0, []), (.sipush 0, [8]), (.irem, []), (.ireturn, [])]]
def sr_m87 : List (List Bool) := [[true]]
def sr_p87 : List Nat := [0]
/-- 88: X7_isAnySeason -/
def sr_b88 : List (List sr_I) := [[(.iload 0, []), (.ifCond .lt 0, [88001]), (.iload 0, []), (.sipush 0, [4]), (.if_icmp .gt 0, [88001]), (.sipush 0, [1]), (.goto 0, [88002])],
  [(.sipush 0, [0]), (.nop, [88002])],
  [(.ireturn, [1])]]
def sr_m88 : List (List Bool) := [[true], [false], [false]]
def sr_p88 : List Nat := [0, 13, 14]
/-- 89: X7_empty -/
def sr_b89 : List (List sr_I) := [[(.aload 0, []), (.iload 1, []), (.putfield 0, [6, 0, 0]), (.aload 0, []), (.iload 2, []), (.putfield 0, [6, 1, 0]), (.aload 0, []), (.sipush 0, [0]), (.putfield 0, [6, 2, 0]), (.aload 0, []), (.sipush 0, [0]), (.putfield 0, [6, 3, 0]), (.return_, [])]]
def sr_m89 : List (List Bool) := [[true, true, true]]
def sr_p89 : List Nat := [0]
/-- 90: X7_copyFrom -/
def sr_b90 : List (List sr_I) := [[(.aload 0, []), (.aload 1, []), (.getfield 0, [6, 0]), (.putfield 0, [6, 0, 0]), (.aload 0, []), (.aload 1, []), (.getfield 0, [6, 1]), (.putfield 0, [6, 1, 0]), (.aload 0, []), (.aload 1, []), (.getfield 0, [6, 2]), (.putfield 0, [6, 2, 0]), (.aload 0, []), (.aload 1, []), (.getfield 0, [6, 3]), (.putfield 0, [6, 3, 0]), (.aload 0, []), (.aload 1, []), (.getfield 0, [6, 4]), (.putfield 0, [6, 4, 0]), (.aload 1, []), (.getfield 0, [6, 5]), (.sipush 0, [0]), (.aload 0, []), (.getfield 0, [6, 5]), (.sipush 0, [0]), (.sipush 0, [5]), (.invokestatic 0, [6]), (.aload 1, []), (.getfield 0, [6, 6]), (.sipush 0, [0]), (.aload 0, []), (.getfield 0, [6, 6]), (.sipush 0, [0]), (.sipush 0, [5]), (.invokestatic 0, [6]), (.aload 1, []), (.getfield 0, [6, 7]), (.sipush 0, [0]), (.aload 0, []), (.getfield 0, [6, 7]), (.sipush 0, [0]), (.sipush 0, [5]), (.invokestatic 0, [6]), (.aload 1, []), (.getfield 0, [6, 8]), (.sipush 0, [0]), (.aload 0, []), (.getfield 0, [6, 8]), (.sipush 0, [0]), (.sipush 0, [5]), (.invokestatic 0, [6]), (.aload 1, []), (.getfield 0, [6, 9]), (.sipush 0, [0]), (.aload 0, []), (.getfield 0, [6, 9]), (.sipush 0, [0]), (.sipush 0, [5]), (.invokestatic 0, [6]), (.aload 1, []), (.getfield 0, [6, 10]), (.sipush 0, [0]), (.aload 0, []), (.getfield 0, [6, 10]), (.sipush 0, [0]), (.sipush 0, [5]), (.invokestatic 0, [6]), (.aload 1, []), (.getfield 0, [6, 11]), (.sipush 0, [0]), (.aload 0, []), (.getfield 0, [6, 11]), (.sipush 0, [0]), (.sipush 0, [64]), (.invokestatic 0, [6]), (.aload 1, []), (.getfield 0, [6, 12]), (.sipush 0, [0]), (.aload 0, []), (.getfield 0, [6, 12]), (.sipush 0, [0]), (.sipush 0, [64]), (.invokestatic 0, [6]), (.aload 1, []), (.getfield 0, [6, 13]), (.sipush 0, [0]), (.aload 0, []), (.getfield 0, [6, 13]), (.sipush 0, [0]), (.sipush 0, [64]), (.invokestatic 0, [6]), (.return_, [])]]
def sr_m90 : List (List Bool) := [[true, true]]
def sr_p90 : List Nat := [0]
/-- 91: X7_isScreen -/
def sr_b91 : List (List sr_I) := [[(.iload 1, []), (.ifCond .lt 0, [91001]), (.iload 1, []), (.aload 0, []), (.getfield 0, [6, 2]), (.if_icmp .ge 0, [91001]), (.sipush 0, [1]), (.goto 0, [91002])],
  [(.sipush 0, [0]), (.nop, [91002])],
  [(.ireturn, [1])]]
def sr_m91 : List (List Bool) := [[true, true], [false, false], [false, false]]
def sr_p91 : List Nat := [0, 16, 17]
/-- 92: X7_isCell -/
def sr_b92 : List (List sr_I) := [[(.iload 1, []), (.ifCond .lt 0, [92001]), (.iload 1, []), (.aload 0, []), (.getfield 0, [6, 0]), (.if_icmp .ge 0, [92001]), (.iload 2, []), (.ifCond .lt 0, [92001]), (.iload 2, []), (.aload 0, []), (.getfield 0, [6, 1]), (.if_icmp .ge 0, [92001]), (.sipush 0, [1]), (.goto 0, [92002])],
  [(.sipush 0, [0]), (.nop, [92002])],
  [(.ireturn, [1])]]
def sr_m92 : List (List Bool) := [[true, true, true], [false, false, false], [false, false, false]]
def sr_p92 : List Nat := [0, 28, 29]
/-- 93: X7_isThere -/
def sr_b93 : List (List sr_I) := [[(.aload 0, []), (.getfield 0, [6, 3]), (.iload 1, []), (.ishr, []), (.sipush 0, [1]), (.iand, []), (.sipush 0, [1]), (.if_icmp .ne 0, [93001]), (.sipush 0, [1]), (.goto 0, [93002])],
  [(.sipush 0, [0]), (.nop, [93002])],
  [(.ireturn, [1])]]
def sr_m93 : List (List Bool) := [[true, true], [false, false], [false, false]]
def sr_p93 : List Nat := [0, 16, 17]
/-- 94: X7_place -/
def sr_b94 : List (List sr_I) := [[(.aload 0, []), (.getfield 0, [6, 6]), (.iload 1, []), (.iload 2, []), (.iastore, []), (.aload 0, []), (.getfield 0, [6, 7]), (.iload 1, []), (.iload 3, []), (.iastore, []), (.aload 0, []), (.getfield 0, [6, 9]), (.iload 1, []), (.iload 4, []), (.iastore, []), (.return_, [])]]
def sr_m94 : List (List Bool) := [[true, true, true, true, true]]
def sr_p94 : List Nat := [0]
/-- 95: X7_isInRoom -/
def sr_b95 : List (List sr_I) := [[(.aload 0, []), (.iload 2, []), (.iload 3, []), (.invokevirtual 0, [92, 3, 6]), (.ifCond .ne 0, [95001]), (.sipush 0, [0]), (.ireturn, [1])],
  [(.aload 0, []), (.getfield 0, [6, 8]), (.iload 1, []), (.iaload, []), (.sipush 0, [1]), (.isub, []), (.istore 5, []), (.iload 4, []), (.sipush 0, [1]), (.if_icmp .ne 0, [95003]), (.iload 2, []), (.iload 5, []), (.iadd, []), (.aload 0, []), (.getfield 0, [6, 0]), (.if_icmp .ge 0, [95002]), (.sipush 0, [1]), (.goto 0, [95005])],
  [(.sipush 0, [0]), (.goto 0, [95005])],
  [(.iload 3, []), (.iload 5, []), (.iadd, []), (.aload 0, []), (.getfield 0, [6, 1]), (.if_icmp .ge 0, [95004]), (.sipush 0, [1]), (.goto 0, [95005])],
  [(.sipush 0, [0]), (.nop, [95005])],
  [(.ireturn, [1])]]
def sr_m95 : List (List Bool) := [[true, true, true, true, true, false], [true, true, true, true, true, false], [false, false, false, false, false, false], [true, false, false, true, false, true], [false, false, false, false, false, false], [false, false, false, false, false, false]]
def sr_p95 : List Nat := [0, 11, 42, 46, 61, 62]
/-- 96: X7_fits -/
def sr_b96 : List (List sr_I) := [[(.aload 0, []), (.iload 1, []), (.iload 2, []), (.iload 3, []), (.iload 4, []), (.invokevirtual 0, [95, 5, 6]), (.ifCond .ne 0, [96001]), (.sipush 0, [0]), (.ireturn, [1])],
  [(.sipush 0, [0]), (.istore 5, []), (.nop, [96002])],
  [(.iload 5, []), (.aload 0, []), (.getfield 0, [6, 8]), (.iload 1, []), (.iaload, []), (.if_icmp .ge 0, [96010]), (.iload 4, []), (.sipush 0, [1]), (.if_icmp .ne 0, [96003]), (.iload 2, []), (.iload 5, []), (.iadd, []), (.goto 0, [96004])],
  [(.iload 2, []), (.nop, [96004])],
  [(.istore 6, []), (.iload 4, []), (.sipush 0, [1]), (.if_icmp .ne 0, [96005]), (.iload 3, []), (.goto 0, [96006])],
  [(.iload 3, []), (.iload 5, []), (.iadd, []), (.nop, [96006])],
  [(.istore 7, []), (.sipush 0, [0]), (.istore 8, []), (.nop, [96007])],
  [(.iload 8, []), (.aload 0, []), (.getfield 0, [6, 2]), (.if_icmp .ge 0, [96009]), (.iload 8, []), (.iload 1, []), (.if_icmp .eq 0, [96008]), (.aload 0, []), (.iload 8, []), (.invokevirtual 0, [93, 2, 6]), (.ifCond .eq 0, [96008]), (.aload 0, []), (.iload 8, []), (.iload 6, []), (.iload 7, []), (.invokevirtual 0, [97, 4, 6]), (.ifCond .eq 0, [96008]), (.sipush 0, [0]), (.ireturn, [1])],
  [(.iinc 8 0, [1]), (.goto 0, [96007])],
  [(.iinc 5 0, [1]), (.goto 0, [96002])],
  [(.sipush 0, [1]), (.ireturn, [1])]]
def sr_m96 : List (List Bool) := [[true, true, true, true, true, false, false, false, false], [true, true, true, true, true, false, false, false, false], [true, true, true, true, true, true, false, false, false], [true, true, true, true, true, true, false, false, false], [true, true, true, true, true, true, false, false, false], [true, true, true, true, true, true, true, false, false], [true, true, true, true, true, true, true, false, false], [true, true, true, true, true, true, true, true, true], [true, true, true, true, true, true, true, true, true], [true, true, true, true, true, true, false, false, false], [false, false, false, false, false, false, false, false, false]]
def sr_p96 : List Nat := [0, 14, 17, 41, 42, 54, 58, 63, 102, 108, 114]
/-- 97: X7_covers -/
def sr_b97 : List (List sr_I) := [[(.iload 2, []), (.aload 0, []), (.getfield 0, [6, 6]), (.iload 1, []), (.iaload, []), (.isub, []), (.istore 4, []), (.iload 3, []), (.aload 0, []), (.getfield 0, [6, 7]), (.iload 1, []), (.iaload, []), (.isub, []), (.istore 5, []), (.aload 0, []), (.getfield 0, [6, 9]), (.iload 1, []), (.iaload, []), (.sipush 0, [1]), (.if_icmp .ne 0, [97001]), (.iload 4, []), (.goto 0, [97002])],
  [(.iload 5, []), (.nop, [97002])],
  [(.istore 6, []), (.aload 0, []), (.getfield 0, [6, 9]), (.iload 1, []), (.iaload, []), (.sipush 0, [1]), (.if_icmp .ne 0, [97003]), (.iload 5, []), (.goto 0, [97004])],
  [(.iload 4, []), (.nop, [97004])],
  [(.istore 7, []), (.iload 7, []), (.ifCond .ne 0, [97005]), (.iload 6, []), (.ifCond .lt 0, [97005]), (.iload 6, []), (.aload 0, []), (.getfield 0, [6, 8]), (.iload 1, []), (.iaload, []), (.if_icmp .ge 0, [97005]), (.sipush 0, [1]), (.goto 0, [97006])],
  [(.sipush 0, [0]), (.nop, [97006])],
  [(.ireturn, [1])]]
def sr_m97 : List (List Bool) := [[true, true, true, true, false, false, false, false], [true, true, false, false, true, true, false, false], [true, true, false, false, true, true, false, false], [true, true, false, false, true, false, true, false], [true, true, false, false, false, false, true, false], [false, false, false, false, false, false, false, false], [false, false, false, false, false, false, false, false]]
def sr_p97 : List Nat := [0, 35, 37, 54, 56, 83, 84]
/-- 98: X7_farFrom -/
def sr_b98 : List (List sr_I) := [[(.sipush 0, [1000]), (.istore 4, []), (.sipush 0, [0]), (.istore 5, []), (.nop, [98001])],
  [(.iload 5, []), (.aload 0, []), (.getfield 0, [6, 8]), (.iload 1, []), (.iaload, []), (.if_icmp .ge 0, [98009]), (.aload 0, []), (.getfield 0, [6, 10]), (.iload 1, []), (.iaload, []), (.iload 5, []), (.ishr, []), (.sipush 0, [1]), (.iand, []), (.sipush 0, [1]), (.if_icmp .ne 0, [98008]), (.iload 2, []), (.aload 0, []), (.getfield 0, [6, 6]), (.iload 1, []), (.iaload, []), (.isub, []), (.istore 6, []), (.iload 3, []), (.aload 0, []), (.getfield 0, [6, 7]), (.iload 1, []), (.iaload, []), (.isub, []), (.istore 7, []), (.aload 0, []), (.getfield 0, [6, 9]), (.iload 1, []), (.iaload, []), (.sipush 0, [1]), (.if_icmp .ne 0, [98002]), (.iload 6, []), (.iload 5, []), (.isub, []), (.istore 6, []), (.goto 0, [98003])],
  [(.iload 7, []), (.iload 5, []), (.isub, []), (.istore 7, []), (.nop, [98003])],
  [(.iload 6, []), (.ifCond .ge 0, [98004]), (.iload 6, []), (.ineg, []), (.goto 0, [98005])],
  [(.iload 6, []), (.nop, [98005])],
  [(.iload 7, []), (.ifCond .ge 0, [98006]), (.iload 7, []), (.ineg, []), (.goto 0, [98007])],
  [(.iload 7, []), (.nop, [98007])],
  [(.iadd, []), (.istore 8, []), (.iload 8, []), (.iload 4, []), (.if_icmp .ge 0, [98008]), (.iload 8, []), (.istore 4, []), (.nop, [98008])],
  [(.iinc 5 0, [1]), (.goto 0, [98001])],
  [(.iload 4, []), (.ireturn, [])]]
def sr_m98 : List (List Bool) := [[true, true, true, true, false, false, false, false, false], [true, true, true, true, true, true, false, false, false], [true, true, true, true, true, true, true, true, false], [true, true, true, true, true, true, true, true, false], [true, true, true, true, true, true, true, true, false], [true, true, true, true, true, true, false, true, false], [true, true, true, true, true, true, false, true, false], [true, true, true, true, true, true, false, false, false], [true, true, true, true, true, true, false, false, false], [false, false, false, false, true, false, false, false, false]]
def sr_p98 : List Nat := [0, 8, 74, 81, 92, 94, 105, 107, 121, 127]
/-- 99: X7_nearestOf -/
def sr_b99 : List (List sr_I) := [[(.sipush 0, [1, 0]), (.istore 4, []), (.sipush 0, [1000]), (.istore 5, []), (.sipush 0, [0]), (.istore 6, []), (.nop, [99001])],
  [(.iload 6, []), (.aload 0, []), (.getfield 0, [6, 2]), (.if_icmp .ge 0, [99003]), (.iload 1, []), (.iload 6, []), (.ishr, []), (.sipush 0, [1]), (.iand, []), (.sipush 0, [1]), (.if_icmp .ne 0, [99002]), (.aload 0, []), (.iload 6, []), (.iload 2, []), (.iload 3, []), (.invokevirtual 0, [98, 4, 6]), (.istore 7, []), (.iload 7, []), (.iload 5, []), (.if_icmp .ge 0, [99002]), (.iload 7, []), (.istore 5, []), (.iload 6, []), (.istore 4, []), (.nop, [99002])],
  [(.iinc 6 0, [1]), (.goto 0, [99001])],
  [(.iload 4, []), (.ireturn, [])]]
def sr_m99 : List (List Bool) := [[true, true, true, true, false, false, false, false], [true, true, true, true, true, true, true, false], [true, true, true, true, true, true, true, false], [false, false, false, false, true, false, false, false]]
def sr_p99 : List Nat := [0, 11, 55, 61]
/-- 100: X7_refresh -/
def sr_b100 : List (List sr_I) := [[(.aload 0, []), (.sipush 0, [0]), (.putfield 0, [6, 4, 0]), (.sipush 0, [0]), (.istore 1, []), (.nop, [100001])],
  [(.iload 1, []), (.aload 0, []), (.getfield 0, [6, 2]), (.if_icmp .ge 0, [100003]), (.aload 0, []), (.iload 1, []), (.invokevirtual 0, [93, 2, 6]), (.ifCond .eq 0, [100002]), (.aload 0, []), (.dup, []), (.getfield 0, [6, 4]), (.aload 0, []), (.getfield 0, [6, 10]), (.iload 1, []), (.iaload, []), (.invokestatic 0, [297, 1]), (.iadd, []), (.putfield 0, [6, 4, 0]), (.nop, [100002])],
  [(.iinc 1 0, [1]), (.goto 0, [100001])],
  [(.sipush 0, [0]), (.istore 1, []), (.nop, [100004])],
  [(.iload 1, []), (.aload 0, []), (.getfield 0, [6, 0]), (.if_icmp .ge 0, [100013]), (.sipush 0, [0]), (.istore 2, []), (.nop, [100005])],
  [(.iload 2, []), (.aload 0, []), (.getfield 0, [6, 1]), (.if_icmp .ge 0, [100012]), (.aload 0, []), (.aload 0, []), (.getfield 0, [6, 3]), (.iload 1, []), (.iload 2, []), (.invokevirtual 0, [99, 4, 6]), (.istore 3, []), (.iload 3, []), (.ifCond .ge 0, [100006]), (.sipush 0, [0]), (.goto 0, [100007])],
  [(.aload 0, []), (.iload 3, []), (.iload 1, []), (.iload 2, []), (.invokevirtual 0, [98, 4, 6]), (.nop, [100007])],
  [(.istore 4, []), (.iload 1, []), (.iload 2, []), (.invokestatic 0, [85, 2]), (.istore 5, []), (.aload 0, []), (.getfield 0, [6, 11]), (.iload 5, []), (.iload 3, []), (.ifCond .ge 0, [100008]), (.sipush 0, [4]), (.goto 0, [100009])],
  [(.aload 0, []), (.getfield 0, [6, 5]), (.iload 3, []), (.iaload, []), (.nop, [100009])],
  [(.iastore, []), (.aload 0, []), (.getfield 0, [6, 12]), (.iload 5, []), (.iload 4, []), (.iastore, []), (.aload 0, []), (.getfield 0, [6, 13]), (.iload 5, []), (.iload 4, []), (.ifCond .ne 0, [100010]), (.iload 3, []), (.goto 0, [100011])],
  [(.sipush 0, [1, 0]), (.nop, [100011])],
  [(.iastore, []), (.iinc 2 0, [1]), (.goto 0, [100005])],
  [(.iinc 1 0, [1]), (.goto 0, [100004])],
  [(.return_, [])]]
def sr_m100 : List (List Bool) := [[true, false, false, false, false, false], [true, true, false, false, false, false], [true, true, false, false, false, false], [true, false, false, false, false, false], [true, true, false, false, false, false], [true, true, true, false, false, false], [true, true, true, true, false, false], [true, true, true, true, false, false], [true, true, true, true, true, true], [true, true, true, true, true, true], [true, true, true, false, false, false], [true, true, true, false, false, false], [true, true, false, false, false, false], [false, false, false, false, false, false]]
def sr_p100 : List Nat := [0, 7, 41, 47, 49, 59, 86, 93, 116, 122, 147, 148, 155, 161]
/-- 101: X7_beyond -/
def sr_b101 : List (List sr_I) := [[(.iload 3, []), (.ifCond .lt 0, [101001]), (.iload 3, []), (.sipush 0, [3]), (.if_icmp .le 0, [101002]), (.nop, [101001])],
  [(.sipush 0, [1, 0]), (.ireturn, [])],
  [(.iload 1, []), (.getstatic 0, [0]), (.iload 3, []), (.iaload, []), (.iadd, []), (.istore 4, []), (.iload 2, []), (.getstatic 0, [1]), (.iload 3, []), (.iaload, []), (.iadd, []), (.istore 5, []), (.aload 0, []), (.iload 4, []), (.iload 5, []), (.invokevirtual 0, [92, 3, 6]), (.ifCond .ne 0, [101003]), (.sipush 0, [1, 0]), (.ireturn, [])],
  [(.iload 4, []), (.iload 5, []), (.invokestatic 0, [85, 2]), (.istore 6, []), (.aload 0, []), (.getfield 0, [6, 13]), (.iload 6, []), (.iaload, []), (.ifCond .ge 0, [101004]), (.iload 6, []), (.goto 0, [101005])],
  [(.sipush 0, [1, 0]), (.nop, [101005])],
  [(.ireturn, [])]]
def sr_m101 : List (List Bool) := [[true, true, true, true, false, false, false], [false, false, false, false, false, false, false], [true, true, true, true, false, false, false], [true, false, false, false, true, true, false], [false, false, false, false, false, false, false], [false, false, false, false, false, false, false]]
def sr_p101 : List Nat := [0, 9, 11, 42, 66, 67]
/-- 102: X7_firstCut -/
def sr_b102 : List (List sr_I) := [[(.sipush 0, [0]), (.istore 2, []), (.nop, [102001])],
  [(.iload 2, []), (.aload 0, []), (.getfield 0, [6, 8]), (.iload 1, []), (.iaload, []), (.if_icmp .ge 0, [102003]), (.aload 0, []), (.getfield 0, [6, 10]), (.iload 1, []), (.iaload, []), (.iload 2, []), (.ishr, []), (.sipush 0, [1]), (.iand, []), (.ifCond .ne 0, [102002]), (.iload 2, []), (.ireturn, [])],
  [(.iinc 2 0, [1]), (.goto 0, [102001])],
  [(.sipush 0, [1, 0]), (.ireturn, [])]]
def sr_m102 : List (List Bool) := [[true, true, false], [true, true, true], [true, true, true], [false, false, false]]
def sr_p102 : List Nat := [0, 2, 27, 33]
/-- 103: X7_cutFirstWhole -/
def sr_b103 : List (List sr_I) := [[(.aload 0, []), (.getfield 0, [6, 10]), (.iload 1, []), (.dup2, []), (.iaload, []), (.aload 0, []), (.getfield 0, [6, 10]), (.iload 1, []), (.iaload, []), (.sipush 0, [1]), (.isub, []), (.iand, []), (.iastore, []), (.return_, [])]]
def sr_m103 : List (List Bool) := [[true, true]]
def sr_p103 : List Nat := [0]
/-- 104: X7_makeAllWhole -/
def sr_b104 : List (List sr_I) := [[(.sipush 0, [0]), (.istore 1, []), (.nop, [104001])],
  [(.iload 1, []), (.aload 0, []), (.getfield 0, [6, 2]), (.if_icmp .ge 0, [104002]), (.aload 0, []), (.getfield 0, [6, 10]), (.iload 1, []), (.sipush 0, [1]), (.aload 0, []), (.getfield 0, [6, 8]), (.iload 1, []), (.iaload, []), (.ishl, []), (.sipush 0, [1]), (.isub, []), (.iastore, []), (.iinc 1 0, [1]), (.goto 0, [104001])],
  [(.return_, [])]]
def sr_m104 : List (List Bool) := [[true, false], [true, true], [false, false]]
def sr_p104 : List Nat := [0, 2, 32]
/-- 105: X7_cellsOf -/
def sr_b105 : List (List sr_I) := [[(.sipush 0, [0]), (.istore 2, []), (.sipush 0, [0]), (.istore 3, []), (.nop, [105001])],
  [(.iload 3, []), (.aload 0, []), (.getfield 0, [6, 0]), (.if_icmp .ge 0, [105005]), (.sipush 0, [0]), (.istore 4, []), (.nop, [105002])],
  [(.iload 4, []), (.aload 0, []), (.getfield 0, [6, 1]), (.if_icmp .ge 0, [105004]), (.aload 0, []), (.getfield 0, [6, 11]), (.iload 3, []), (.iload 4, []), (.invokestatic 0, [85, 2]), (.iaload, []), (.iload 1, []), (.if_icmp .ne 0, [105003]), (.iinc 2 0, [1]), (.nop, [105003])],
  [(.iinc 4 0, [1]), (.goto 0, [105002])],
  [(.iinc 3 0, [1]), (.goto 0, [105001])],
  [(.iload 2, []), (.ireturn, [])]]
def sr_m105 : List (List Bool) := [[true, true, false, false, false], [true, true, true, true, false], [true, true, true, true, true], [true, true, true, true, true], [true, true, true, true, false], [false, false, true, false, false]]
def sr_p105 : List Nat := [0, 4, 15, 42, 48, 54]
/-- 106: X7_freeCells -/
def sr_b106 : List (List sr_I) := [[(.sipush 0, [0]), (.istore 1, []), (.sipush 0, [0]), (.istore 2, []), (.nop, [106001])],
  [(.iload 2, []), (.aload 0, []), (.getfield 0, [6, 0]), (.if_icmp .ge 0, [106005]), (.sipush 0, [0]), (.istore 3, []), (.nop, [106002])],
  [(.iload 3, []), (.aload 0, []), (.getfield 0, [6, 1]), (.if_icmp .ge 0, [106004]), (.aload 0, []), (.getfield 0, [6, 13]), (.iload 2, []), (.iload 3, []), (.invokestatic 0, [85, 2]), (.iaload, []), (.ifCond .ge 0, [106003]), (.iinc 1 0, [1]), (.nop, [106003])],
  [(.iinc 3 0, [1]), (.goto 0, [106002])],
  [(.iinc 2 0, [1]), (.goto 0, [106001])],
  [(.iload 1, []), (.ireturn, [])]]
def sr_m106 : List (List Bool) := [[true, false, false, false], [true, true, true, false], [true, true, true, true], [true, true, true, true], [true, true, true, false], [false, true, false, false]]
def sr_p106 : List Nat := [0, 4, 14, 38, 44, 50]
/-- 107: X8_init -/
def sr_b107 : List (List sr_I) := [[(.aload 0, []), (.invokespecial 0, [9]), (.aload 0, []), (.sipush 0, [0]), (.putfield 0, [7, 0, 0]), (.aload 0, []), (.sipush 0, [1, 0]), (.putfield 0, [7, 1, 0]), (.aload 0, []), (.sipush 0, [24]), (.newarray .int, []), (.putfield 0, [7, 2, 3]), (.aload 0, []), (.sipush 0, [24]), (.newarray .int, []), (.putfield 0, [7, 3, 3]), (.aload 0, []), (.sipush 0, [24]), (.newarray .int, []), (.putfield 0, [7, 4, 3]), (.aload 0, []), (.sipush 0, [24]), (.newarray .boolean, []), (.putfield 0, [7, 5, 3]), (.aload 0, []), (.sipush 0, [24]), (.newarray .int, []), (.putfield 0, [7, 6, 3]), (.aload 0, []), (.sipush 0, [24]), (.newarray .boolean, []), (.putfield 0, [7, 7, 3]), (.return_, [])]]
def sr_m107 : List (List Bool) := [[true]]
def sr_p107 : List Nat := [0]
/-- 108: X8_clear -/
def sr_b108 : List (List sr_I) := [[(.aload 0, []), (.sipush 0, [0]), (.putfield 0, [7, 0, 0]), (.aload 0, []), (.sipush 0, [1, 0]), (.putfield 0, [7, 1, 0]), (.return_, [])]]
def sr_m108 : List (List Bool) := [[true]]
def sr_p108 : List Nat := [0]
/-- 109: X8_byHowMany -/
def sr_b109 : List (List sr_I) := [[(.aload 0, []), (.getfield 0, [7, 1]), (.ifCond .ge 0, [109001]), (.aload 0, []), (.getfield 0, [7, 0]), (.goto 0, [109002])],
  [(.aload 0, []), (.getfield 0, [7, 1]), (.aload 0, []), (.getfield 0, [7, 0]), (.invokestatic 0, [0]), (.nop, [109002])],
  [(.ireturn, [])]]
def sr_m109 : List (List Bool) := [[true], [true], [false]]
def sr_p109 : List Nat := [0, 14, 25]
/-- 110: X8_addSight -/
def sr_b110 : List (List sr_I) := [[(.aload 0, []), (.getfield 0, [7, 0]), (.sipush 0, [24]), (.if_icmp .lt 0, [110001]), (.sipush 0, [1, 0]), (.ireturn, [])],
  [(.aload 0, []), (.getfield 0, [7, 2]), (.aload 0, []), (.getfield 0, [7, 0]), (.iload 1, []), (.iastore, []), (.aload 0, []), (.getfield 0, [7, 3]), (.aload 0, []), (.getfield 0, [7, 0]), (.iload 2, []), (.iastore, []), (.aload 0, []), (.getfield 0, [7, 4]), (.aload 0, []), (.getfield 0, [7, 0]), (.iload 3, []), (.iastore, []), (.aload 0, []), (.getfield 0, [7, 5]), (.aload 0, []), (.getfield 0, [7, 0]), (.iload 4, []), (.bastore, []), (.aload 0, []), (.getfield 0, [7, 6]), (.aload 0, []), (.getfield 0, [7, 0]), (.sipush 0, [1, 0]), (.iastore, []), (.aload 0, []), (.dup, []), (.getfield 0, [7, 0]), (.sipush 0, [1]), (.iadd, []), (.putfield 0, [7, 0, 0]), (.aload 0, []), (.getfield 0, [7, 0]), (.sipush 0, [1]), (.isub, []), (.ireturn, [])]]
def sr_m110 : List (List Bool) := [[true, true, true, true, true], [true, true, true, true, true]]
def sr_p110 : List Nat := [0, 11]
/-- 111: X8_addStrike -/
def sr_b111 : List (List sr_I) := [[(.aload 0, []), (.getfield 0, [7, 0]), (.sipush 0, [24]), (.if_icmp .ge 0, [111001]), (.iload 1, []), (.ifCond .lt 0, [111001]), (.iload 1, []), (.aload 0, []), (.getfield 0, [7, 0]), (.if_icmp .lt 0, [111002]), (.nop, [111001])],
  [(.sipush 0, [1, 0]), (.ireturn, [])],
  [(.aload 0, []), (.getfield 0, [7, 6]), (.aload 0, []), (.getfield 0, [7, 0]), (.iload 1, []), (.iastore, []), (.aload 0, []), (.dup, []), (.getfield 0, [7, 0]), (.sipush 0, [1]), (.iadd, []), (.putfield 0, [7, 0, 0]), (.aload 0, []), (.getfield 0, [7, 0]), (.sipush 0, [1]), (.isub, []), (.ireturn, [])]]
def sr_m111 : List (List Bool) := [[true, true], [false, false], [true, true]]
def sr_p111 : List Nat := [0, 21, 23]
/-- 112: X8_strikeAll -/
def sr_b112 : List (List sr_I) := [[(.aload 0, []), (.invokevirtual 0, [109, 1, 7]), (.istore 1, []), (.sipush 0, [0]), (.istore 2, []), (.nop, [112001])],
  [(.iload 2, []), (.iload 1, []), (.if_icmp .ge 0, [112002]), (.aload 0, []), (.getfield 0, [7, 7]), (.iload 2, []), (.sipush 0, [0]), (.bastore, []), (.iinc 2 0, [1]), (.goto 0, [112001])],
  [(.iload 1, []), (.sipush 0, [1]), (.isub, []), (.istore 2, []), (.nop, [112003])],
  [(.iload 2, []), (.ifCond .lt 0, [112005]), (.aload 0, []), (.getfield 0, [7, 7]), (.iload 2, []), (.baload, []), (.ifCond .ne 0, [112004]), (.aload 0, []), (.getfield 0, [7, 6]), (.iload 2, []), (.iaload, []), (.ifCond .lt 0, [112004]), (.aload 0, []), (.getfield 0, [7, 7]), (.aload 0, []), (.getfield 0, [7, 6]), (.iload 2, []), (.iaload, []), (.sipush 0, [1]), (.bastore, []), (.nop, [112004])],
  [(.iinc 2 0, [1, 0]), (.goto 0, [112003])],
  [(.return_, [])]]
def sr_m112 : List (List Bool) := [[true, false, false], [true, true, true], [true, true, false], [true, false, true], [true, false, true], [false, false, false]]
def sr_p112 : List Nat := [0, 7, 25, 29, 63, 69]
/-- 113: X8_isKnown -/
def sr_b113 : List (List sr_I) := [[(.aload 0, []), (.getfield 0, [7, 6]), (.iload 1, []), (.iaload, []), (.ifCond .ge 0, [113001]), (.aload 0, []), (.getfield 0, [7, 7]), (.iload 1, []), (.baload, []), (.ifCond .ne 0, [113001]), (.sipush 0, [1]), (.goto 0, [113002])],
  [(.sipush 0, [0]), (.nop, [113002])],
  [(.ireturn, [1])]]
def sr_m113 : List (List Bool) := [[true, true], [false, false], [false, false]]
def sr_p113 : List Nat := [0, 22, 23]
/-- 114: X8_lastHourKnown -/
def sr_b114 : List (List sr_I) := [[(.sipush 0, [0]), (.istore 1, []), (.sipush 0, [0]), (.istore 2, []), (.nop, [114001])],
  [(.iload 2, []), (.aload 0, []), (.invokevirtual 0, [109, 1, 7]), (.if_icmp .ge 0, [114003]), (.aload 0, []), (.iload 2, []), (.invokevirtual 0, [113, 2, 7]), (.ifCond .eq 0, [114002]), (.aload 0, []), (.getfield 0, [7, 2]), (.iload 2, []), (.iaload, []), (.iload 1, []), (.if_icmp .le 0, [114002]), (.aload 0, []), (.getfield 0, [7, 2]), (.iload 2, []), (.iaload, []), (.istore 1, []), (.nop, [114002])],
  [(.iinc 2 0, [1]), (.goto 0, [114001])],
  [(.iload 1, []), (.ireturn, [])]]
def sr_m114 : List (List Bool) := [[true, false, false], [true, true, true], [true, true, true], [false, true, false]]
def sr_p114 : List Nat := [0, 4, 37, 43]
/-- 115: X8_agree -/
def sr_b115 : List (List sr_I) := [[(.sipush 0, [0]), (.istore 3, []), (.nop, [115001])],
  [(.iload 3, []), (.aload 0, []), (.invokevirtual 0, [109, 1, 7]), (.if_icmp .ge 0, [115005]), (.aload 0, []), (.iload 3, []), (.invokevirtual 0, [113, 2, 7]), (.ifCond .eq 0, [115004]), (.aload 0, []), (.getfield 0, [7, 2]), (.iload 3, []), (.iaload, []), (.iload 2, []), (.if_icmp .ne 0, [115004]), (.aload 1, []), (.getfield 0, [6, 11]), (.aload 0, []), (.getfield 0, [7, 3]), (.iload 3, []), (.iaload, []), (.iaload, []), (.aload 0, []), (.getfield 0, [7, 4]), (.iload 3, []), (.iaload, []), (.if_icmp .ne 0, [115002]), (.sipush 0, [1]), (.goto 0, [115003])],
  [(.sipush 0, [0]), (.nop, [115003])],
  [(.aload 0, []), (.getfield 0, [7, 5]), (.iload 3, []), (.baload, []), (.if_icmp .eq 0, [115004]), (.sipush 0, [0]), (.ireturn, [1])],
  [(.iinc 3 0, [1]), (.goto 0, [115001])],
  [(.sipush 0, [1]), (.ireturn, [1])]]
def sr_m115 : List (List Bool) := [[true, true, true, false], [true, true, true, true], [true, true, true, true], [true, true, true, true], [true, true, true, true], [false, false, false, false]]
def sr_p115 : List Nat := [0, 2, 52, 53, 64, 70]
/-- 116: X9_init -/
def sr_b116 : List (List sr_I) := [[(.aload 0, []), (.invokespecial 0, [9]), (.aload 0, []), (.new 0, [5]), (.dup, []), (.invokespecial 0, [74, 1, 5]), (.putfield 0, [8, 0, 3]), (.aload 0, []), (.new 0, [2]), (.dup, []), (.invokespecial 0, [29, 1, 2]), (.putfield 0, [8, 1, 3]), (.aload 0, []), (.sipush 0, [5]), (.newarray .int, []), (.putfield 0, [8, 2, 3]), (.aload 0, []), (.sipush 0, [6]), (.newarray .int, []), (.putfield 0, [8, 3, 3]), (.aload 0, []), (.sipush 0, [10]), (.newarray .int, []), (.putfield 0, [8, 10, 3]), (.aload 0, []), (.sipush 0, [10]), (.newarray .int, []), (.putfield 0, [8, 11, 3]), (.aload 0, []), (.sipush 0, [10]), (.newarray .int, []), (.putfield 0, [8, 12, 3]), (.aload 0, []), (.sipush 0, [10]), (.newarray .int, []), (.putfield 0, [8, 13, 3]), (.aload 0, []), (.sipush 0, [12]), (.newarray .int, []), (.putfield 0, [8, 15, 3]), (.aload 0, []), (.sipush 0, [12]), (.newarray .int, []), (.putfield 0, [8, 16, 3]), (.aload 0, []), (.sipush 0, [12]), (.newarray .int, []), (.putfield 0, [8, 17, 3]), (.return_, [])]]
def sr_m116 : List (List Bool) := [[true]]
def sr_p116 : List Nat := [0]
/-- 117: X9_clear -/
def sr_b117 : List (List sr_I) := [[(.aload 0, []), (.getfield 0, [8, 0]), (.invokevirtual 0, [75, 1, 5]), (.aload 0, []), (.getfield 0, [8, 1]), (.invokevirtual 0, [30, 1, 2]), (.aload 0, []), (.sipush 0, [0]), (.putfield 0, [8, 4, 0]), (.aload 0, []), (.sipush 0, [0]), (.putfield 0, [8, 5, 0]), (.aload 0, []), (.sipush 0, [0]), (.putfield 0, [8, 6, 1]), (.aload 0, []), (.sipush 0, [0]), (.putfield 0, [8, 7, 1]), (.aload 0, []), (.sipush 0, [0]), (.putfield 0, [8, 8, 1]), (.aload 0, []), (.sipush 0, [0]), (.putfield 0, [8, 9, 0]), (.aload 0, []), (.sipush 0, [0]), (.putfield 0, [8, 14, 0]), (.return_, [])]]
def sr_m117 : List (List Bool) := [[true]]
def sr_p117 : List Nat := [0]
/-- 118: X9_screenNamed -/
def sr_b118 : List (List sr_I) := [[(.sipush 0, [0]), (.istore 2, []), (.nop, [118001])],
  [(.iload 2, []), (.aload 0, []), (.getfield 0, [8, 0]), (.getfield 0, [5, 0]), (.getfield 0, [6, 2]), (.if_icmp .ge 0, [118003]), (.aload 0, []), (.getfield 0, [8, 2]), (.iload 2, []), (.iaload, []), (.iload 1, []), (.if_icmp .ne 0, [118002]), (.iload 2, []), (.ireturn, [])],
  [(.iinc 2 0, [1]), (.goto 0, [118001])],
  [(.sipush 0, [1, 0]), (.ireturn, [])]]
def sr_m118 : List (List Bool) := [[true, true, false], [true, true, true], [true, true, true], [false, false, false]]
def sr_p118 : List Nat := [0, 2, 28, 34]
/-- 119: X9_folkNamed -/
def sr_b119 : List (List sr_I) := [[(.sipush 0, [0]), (.istore 2, []), (.nop, [119001])],
  [(.iload 2, []), (.aload 0, []), (.getfield 0, [8, 0]), (.getfield 0, [5, 1]), (.if_icmp .ge 0, [119003]), (.aload 0, []), (.getfield 0, [8, 3]), (.iload 2, []), (.iaload, []), (.iload 1, []), (.if_icmp .ne 0, [119002]), (.iload 2, []), (.ireturn, [])],
  [(.iinc 2 0, [1]), (.goto 0, [119001])],
  [(.sipush 0, [1, 0]), (.ireturn, [])]]
def sr_m119 : List (List Bool) := [[true, true, false], [true, true, true], [true, true, true], [false, false, false]]
def sr_p119 : List Nat := [0, 2, 25, 31]
/-- 120: X10_init -/
def sr_b120 : List (List sr_I) := [[(.aload 0, []), (.invokespecial 0, [9]), (.aload 0, []), (.sipush 0, [64]), (.newarray .int, []), (.putfield 0, [9, 0, 3]), (.aload 0, []), (.sipush 0, [64]), (.newarray .int, []), (.putfield 0, [9, 1, 3]), (.aload 0, []), (.sipush 0, [64]), (.newarray .int, []), (.putfield 0, [9, 2, 3]), (.aload 0, []), (.sipush 0, [64]), (.newarray .int, []), (.putfield 0, [9, 3, 3]), (.return_, [])]]
def sr_m120 : List (List Bool) := [[true]]
def sr_p120 : List Nat := [0]
/-- 121: X10_begin -/
def sr_b121 : List (List sr_I) := [[(.sipush 0, [0]), (.istore 3, []), (.nop, [121001])],
  [(.iload 3, []), (.sipush 0, [64]), (.if_icmp .ge 0, [121002]), (.aload 2, []), (.iload 3, []), (.sipush 0, [1000000]), (.iastore, []), (.aload 0, []), (.getfield 0, [9, 3]), (.iload 3, []), (.sipush 0, [0]), (.iastore, []), (.iinc 3 0, [1]), (.goto 0, [121001])],
  [(.aload 2, []), (.iload 1, []), (.sipush 0, [0]), (.iastore, []), (.return_, [])]]
def sr_m121 : List (List Bool) := [[true, true, true, false], [true, true, true, true], [false, true, true, false]]
def sr_p121 : List Nat := [0, 2, 26]
/-- 122: X10_walk -/
def sr_b122 : List (List sr_I) := [[(.aload 0, []), (.iload 2, []), (.aload 3, []), (.invokevirtual 0, [121, 3, 9]), (.aload 0, []), (.getfield 0, [9, 2]), (.sipush 0, [0]), (.iload 2, []), (.iastore, []), (.sipush 0, [1]), (.istore 4, []), (.sipush 0, [0]), (.istore 5, []), (.nop, [122001])],
  [(.iload 5, []), (.iload 4, []), (.if_icmp .ge 0, [122005]), (.aload 0, []), (.getfield 0, [9, 2]), (.iload 5, []), (.iaload, []), (.istore 6, []), (.sipush 0, [0]), (.istore 7, []), (.nop, [122002])],
  [(.iload 7, []), (.sipush 0, [4]), (.if_icmp .ge 0, [122004]), (.aload 1, []), (.iload 6, []), (.invokestatic 0, [86, 1]), (.iload 6, []), (.invokestatic 0, [87, 1]), (.iload 7, []), (.invokevirtual 0, [101, 4, 6]), (.istore 8, []), (.iload 8, []), (.ifCond .lt 0, [122003]), (.aload 3, []), (.iload 8, []), (.iaload, []), (.sipush 0, [1000000]), (.if_icmp .ne 0, [122003]), (.iload 4, []), (.sipush 0, [64]), (.if_icmp .ge 0, [122003]), (.aload 3, []), (.iload 8, []), (.aload 3, []), (.iload 6, []), (.iaload, []), (.sipush 0, [1]), (.iadd, []), (.iastore, []), (.aload 0, []), (.getfield 0, [9, 2]), (.iload 4, []), (.iload 8, []), (.iastore, []), (.iinc 4 0, [1]), (.nop, [122003])],
  [(.iinc 7 0, [1]), (.goto 0, [122002])],
  [(.iinc 5 0, [1]), (.goto 0, [122001])],
  [(.return_, [])]]
def sr_m122 : List (List Bool) := [[true, true, true, true, false, false, false, false, false], [true, true, false, true, true, true, false, false, false], [true, true, false, true, true, true, true, true, false], [true, true, false, true, true, true, true, true, false], [true, true, false, true, true, true, false, false, false], [false, false, false, false, false, false, false, false, false]]
def sr_p122 : List Nat := [0, 19, 38, 105, 111, 117]
/-- 123: X10_walkYoung -/
def sr_b123 : List (List sr_I) := [[(.aload 0, []), (.iload 2, []), (.aload 3, []), (.invokevirtual 0, [121, 3, 9]), (.sipush 0, [0]), (.istore 4, []), (.nop, [123001])],
  [(.iload 4, []), (.sipush 0, [64]), (.if_icmp .ge 0, [123006]), (.aload 0, []), (.aload 3, []), (.invokevirtual 0, [124, 2, 9]), (.istore 5, []), (.iload 5, []), (.ifCond .ge 0, [123002]), (.return_, [])],
  [(.aload 0, []), (.getfield 0, [9, 3]), (.iload 5, []), (.sipush 0, [1]), (.iastore, []), (.sipush 0, [0]), (.istore 6, []), (.nop, [123003])],
  [(.iload 6, []), (.sipush 0, [4]), (.if_icmp .ge 0, [123005]), (.aload 1, []), (.iload 5, []), (.invokestatic 0, [86, 1]), (.iload 5, []), (.invokestatic 0, [87, 1]), (.iload 6, []), (.invokevirtual 0, [101, 4, 6]), (.istore 7, []), (.iload 7, []), (.ifCond .lt 0, [123004]), (.aload 1, []), (.getfield 0, [6, 11]), (.iload 7, []), (.iaload, []), (.aload 1, []), (.getfield 0, [6, 11]), (.iload 5, []), (.iaload, []), (.isub, []), (.sipush 0, [3]), (.iand, []), (.istore 8, []), (.aload 3, []), (.iload 7, []), (.aload 3, []), (.iload 7, []), (.iaload, []), (.aload 3, []), (.iload 5, []), (.iaload, []), (.iload 8, []), (.iadd, []), (.invokestatic 0, [0]), (.iastore, []), (.nop, [123004])],
  [(.iinc 6 0, [1]), (.goto 0, [123003])],
  [(.iinc 4 0, [1]), (.goto 0, [123001])],
  [(.return_, [])]]
def sr_m123 : List (List Bool) := [[true, true, true, true, false, false, false, false, false], [true, true, false, true, true, false, false, false, false], [true, true, false, true, true, true, false, false, false], [true, true, false, true, true, true, true, false, false], [true, true, false, true, true, true, true, false, false], [true, true, false, true, true, false, false, false, false], [false, false, false, false, false, false, false, false, false]]
def sr_p123 : List Nat := [0, 9, 29, 40, 106, 112, 118]
/-- 124: X10_nearestOpen -/
def sr_b124 : List (List sr_I) := [[(.sipush 0, [1, 0]), (.istore 2, []), (.sipush 0, [1000000]), (.istore 3, []), (.sipush 0, [0]), (.istore 4, []), (.nop, [124001])],
  [(.iload 4, []), (.sipush 0, [64]), (.if_icmp .ge 0, [124003]), (.aload 0, []), (.getfield 0, [9, 3]), (.iload 4, []), (.iaload, []), (.ifCond .ne 0, [124002]), (.aload 1, []), (.iload 4, []), (.iaload, []), (.iload 3, []), (.if_icmp .ge 0, [124002]), (.aload 1, []), (.iload 4, []), (.iaload, []), (.istore 3, []), (.iload 4, []), (.istore 2, []), (.nop, [124002])],
  [(.iinc 4 0, [1]), (.goto 0, [124001])],
  [(.iload 2, []), (.ireturn, [])]]
def sr_m124 : List (List Bool) := [[true, true, false, false, false], [true, true, true, true, true], [true, true, true, true, true], [false, false, true, false, false]]
def sr_p124 : List Nat := [0, 8, 41, 47]
/-- 125: X10_meetingCell -/
def sr_b125 : List (List sr_I) := [[(.sipush 0, [1, 0]), (.istore 2, []), (.sipush 0, [1000000]), (.istore 3, []), (.sipush 0, [0]), (.istore 4, []), (.nop, [125001])],
  [(.iload 4, []), (.aload 1, []), (.getfield 0, [6, 0]), (.if_icmp .ge 0, [125005]), (.sipush 0, [0]), (.istore 5, []), (.nop, [125002])],
  [(.iload 5, []), (.aload 1, []), (.getfield 0, [6, 1]), (.if_icmp .ge 0, [125004]), (.iload 4, []), (.iload 5, []), (.invokestatic 0, [85, 2]), (.istore 6, []), (.aload 0, []), (.getfield 0, [9, 0]), (.iload 6, []), (.iaload, []), (.aload 0, []), (.getfield 0, [9, 1]), (.iload 6, []), (.iaload, []), (.iadd, []), (.istore 7, []), (.iload 7, []), (.iload 3, []), (.if_icmp .ge 0, [125003]), (.iload 7, []), (.istore 3, []), (.iload 6, []), (.istore 2, []), (.nop, [125003])],
  [(.iinc 5 0, [1]), (.goto 0, [125002])],
  [(.iinc 4 0, [1]), (.goto 0, [125001])],
  [(.iload 2, []), (.ireturn, [])]]
def sr_m125 : List (List Bool) := [[true, true, false, false, false, false, false, false], [true, true, true, true, true, false, false, false], [true, true, true, true, true, true, false, false], [true, true, true, true, true, true, false, false], [true, true, true, true, true, false, false, false], [false, false, true, false, false, false, false, false]]
def sr_p125 : List Nat := [0, 8, 20, 67, 73, 79]
/-- 126: X11_init -/
def sr_b126 : List (List sr_I) := [[(.aload 0, []), (.invokespecial 0, [9]), (.aload 0, []), (.new 0, [3]), (.dup, []), (.invokespecial 0, [40, 1, 3]), (.putfield 0, [10, 0, 3]), (.aload 0, []), (.new 0, [8]), (.dup, []), (.invokespecial 0, [116, 1, 8]), (.putfield 0, [10, 1, 3]), (.aload 0, []), (.new 0, [5]), (.dup, []), (.invokespecial 0, [74, 1, 5]), (.putfield 0, [10, 2, 3]), (.aload 0, []), (.new 0, [5]), (.dup, []), (.invokespecial 0, [74, 1, 5]), (.putfield 0, [10, 3, 3]), (.aload 0, []), (.new 0, [5]), (.dup, []), (.invokespecial 0, [74, 1, 5]), (.putfield 0, [10, 4, 3]), (.aload 0, []), (.sipush 0, [0]), (.putfield 0, [10, 5, 1]), (.aload 0, []), (.new 0, [0]), (.dup, []), (.invokespecial 0, [0, 1, 0]), (.putfield 0, [10, 6, 3]), (.aload 0, []), (.new 0, [7]), (.dup, []), (.invokespecial 0, [107, 1, 7]), (.putfield 0, [10, 7, 3]), (.aload 0, []), (.new 0, [9]), (.dup, []), (.invokespecial 0, [120, 1, 9]), (.putfield 0, [10, 8, 3]), (.aload 0, []), (.new 0, [1]), (.dup, []), (.invokespecial 0, [17, 1, 1]), (.putfield 0, [10, 9, 3]), (.aload 0, []), (.getfield 0, [10, 1]), (.invokevirtual 0, [117, 1, 8]), (.aload 0, []), (.getfield 0, [10, 1]), (.getfield 0, [8, 0]), (.getfield 0, [5, 0]), (.invokevirtual 0, [100, 1, 6]), (.aload 0, []), (.getfield 0, [10, 2]), (.aload 0, []), (.getfield 0, [10, 1]), (.getfield 0, [8, 0]), (.invokevirtual 0, [76, 2, 5]), (.return_, [])]]
def sr_m126 : List (List Bool) := [[true]]
def sr_p126 : List Nat := [0]
/-- 127: X11_feed -/
def sr_b127 : List (List sr_I) := [[(.aload 0, []), (.getfield 0, [10, 0]), (.getfield 0, [3, 2]), (.astore 6, []), (.aload 6, []), (.getfield 0, [4, 1]), (.sipush 0, [20]), (.iadd, []), (.sipush 0, [700]), (.if_icmp .le 0, [127001]), (.sipush 0, [1, 0]), (.ireturn, [])],
  [(.aload 6, []), (.iload 1, []), (.invokevirtual 0, [64, 2, 4]), (.aload 6, []), (.iload 2, []), (.invokevirtual 0, [64, 2, 4]), (.aload 6, []), (.iload 3, []), (.invokevirtual 0, [64, 2, 4]), (.aload 6, []), (.iload 4, []), (.invokevirtual 0, [64, 2, 4]), (.aload 6, []), (.iload 5, []), (.invokevirtual 0, [64, 2, 4]), (.aload 6, []), (.getfield 0, [4, 1]), (.ireturn, [])]]
def sr_m127 : List (List Bool) := [[true, true, true, true, true, true, false], [false, true, true, true, true, true, true]]
def sr_p127 : List Nat := [0, 25]
/-- 128: X11_text -/
def sr_b128 : List (List sr_I) := [[(.iload 1, []), (.ifCond .lt 0, [128001]), (.iload 1, []), (.aload 0, []), (.getfield 0, [10, 0]), (.getfield 0, [3, 2]), (.getfield 0, [4, 1]), (.if_icmp .le 0, [128002]), (.nop, [128001])],
  [(.sipush 0, [2, 0]), (.ireturn, [])],
  [(.aload 0, []), (.getfield 0, [10, 0]), (.iload 1, []), (.invokevirtual 0, [42, 2, 3]), (.istore 2, []), (.aload 0, []), (.getfield 0, [10, 0]), (.getfield 0, [3, 2]), (.sipush 0, [0]), (.putfield 0, [4, 1, 0]), (.iload 2, []), (.ifCond .ne 0, [128003]), (.sipush 0, [1, 0]), (.ireturn, [])],
  [(.aload 0, []), (.aload 0, []), (.getfield 0, [10, 0]), (.aload 0, []), (.getfield 0, [10, 1]), (.invokevirtual 0, [41, 2, 3]), (.putfield 0, [10, 1, 3]), (.aload 0, []), (.getfield 0, [10, 2]), (.aload 0, []), (.getfield 0, [10, 1]), (.getfield 0, [8, 0]), (.invokevirtual 0, [76, 2, 5]), (.aload 0, []), (.sipush 0, [0]), (.putfield 0, [10, 5, 1]), (.aload 0, []), (.getfield 0, [10, 6]), (.invokevirtual 0, [1, 1, 0]), (.aload 0, []), (.getfield 0, [10, 7]), (.invokevirtual 0, [108, 1, 7]), (.aload 0, []), (.getfield 0, [10, 1]), (.getfield 0, [8, 4]), (.ireturn, [])]]
def sr_m128 : List (List Bool) := [[true, true, false], [false, false, false], [true, true, false], [true, false, false]]
def sr_p128 : List Nat := [0, 18, 21, 47]
/-- 129: X11_fault -/
def sr_b129 : List (List sr_I) := [[(.iload 1, []), (.ifCond .ne 0, [129001]), (.aload 0, []), (.getfield 0, [10, 0]), (.getfield 0, [3, 0]), (.ireturn, [])],
  [(.iload 1, []), (.sipush 0, [1]), (.if_icmp .ne 0, [129002]), (.aload 0, []), (.getfield 0, [10, 0]), (.getfield 0, [3, 1]), (.ireturn, [])],
  [(.sipush 0, [1, 0]), (.ireturn, [])]]
def sr_m129 : List (List Bool) := [[true, true], [true, true], [false, false]]
def sr_p129 : List Nat := [0, 12, 25]
/-- 130: X11_named -/
def sr_b130 : List (List sr_I) := [[(.iload 1, []), (.ifCond .ne 0, [130001]), (.aload 0, []), (.getfield 0, [10, 1]), (.iload 2, []), (.invokevirtual 0, [118, 2, 8]), (.ireturn, [])],
  [(.iload 1, []), (.sipush 0, [1]), (.if_icmp .ne 0, [130002]), (.aload 0, []), (.getfield 0, [10, 1]), (.iload 2, []), (.invokevirtual 0, [119, 2, 8]), (.ireturn, [])],
  [(.sipush 0, [1, 0]), (.ireturn, [])]]
def sr_m130 : List (List Bool) := [[true, true, true], [true, true, true], [false, false, false]]
def sr_p130 : List Nat := [0, 13, 27]
/-- 131: X11_folk -/
def sr_b131 : List (List sr_I) := [[(.aload 0, []), (.getfield 0, [10, 2]), (.iload 1, []), (.invokevirtual 0, [77, 2, 5]), (.ifCond .ne 0, [131001]), (.athrow, []), (.dup, []), (.ldc 0, [1]), (.athrow, []), (.athrow, [])],
  [(.iload 2, []), (.tableswitch 0 0 5 #[], [131008, 131002, 131003, 131004, 131005, 131006, 131007])],
  [(.aload 0, []), (.getfield 0, [10, 2]), (.getfield 0, [5, 2]), (.iload 1, []), (.iaload, []), (.ireturn, [])],
  [(.aload 0, []), (.getfield 0, [10, 2]), (.getfield 0, [5, 3]), (.iload 1, []), (.iaload, []), (.ireturn, [])],
  [(.aload 0, []), (.getfield 0, [10, 2]), (.getfield 0, [5, 4]), (.iload 1, []), (.iaload, []), (.ireturn, [])],
  [(.aload 0, []), (.getfield 0, [10, 2]), (.getfield 0, [5, 5]), (.iload 1, []), (.iaload, []), (.ireturn, [])],
  [(.aload 0, []), (.getfield 0, [10, 2]), (.getfield 0, [5, 6]), (.iload 1, []), (.iaload, []), (.ireturn, [])],
  [(.aload 0, []), (.getfield 0, [10, 2]), (.iload 1, []), (.invokevirtual 0, [79, 2, 5]), (.ireturn, [])],
  [(.athrow, []), (.dup, []), (.ldc 0, [2]), (.athrow, []), (.athrow, [])]]
def sr_m131 : List (List Bool) := [[true, true, true], [true, true, true], [true, true, false], [true, true, false], [true, true, false], [true, true, false], [true, true, false], [true, true, false], [false, false, false]]
def sr_p131 : List Nat := [0, 21, 60, 70, 80, 90, 100, 110, 119]
/-- 132: X11_screen -/
def sr_b132 : List (List sr_I) := [[(.aload 0, []), (.getfield 0, [10, 2]), (.getfield 0, [5, 0]), (.astore 3, []), (.aload 3, []), (.iload 1, []), (.invokevirtual 0, [91, 2, 6]), (.ifCond .ne 0, [132001]), (.sipush 0, [1, 0]), (.ireturn, [])],
  [(.iload 2, []), (.tableswitch 0 0 5 #[], [132008, 132002, 132003, 132004, 132005, 132006, 132007])],
  [(.aload 3, []), (.getfield 0, [6, 5]), (.iload 1, []), (.iaload, []), (.ireturn, [])],
  [(.aload 3, []), (.getfield 0, [6, 6]), (.iload 1, []), (.iaload, []), (.ireturn, [])],
  [(.aload 3, []), (.getfield 0, [6, 7]), (.iload 1, []), (.iaload, []), (.ireturn, [])],
  [(.aload 3, []), (.getfield 0, [6, 8]), (.iload 1, []), (.iaload, []), (.ireturn, [])],
  [(.aload 3, []), (.getfield 0, [6, 9]), (.iload 1, []), (.iaload, []), (.ireturn, [])],
  [(.aload 3, []), (.getfield 0, [6, 10]), (.iload 1, []), (.iaload, []), (.ireturn, [])],
  [(.sipush 0, [1, 0]), (.ireturn, [])]]
def sr_m132 : List (List Bool) := [[true, true, true, false], [false, true, true, true], [false, true, false, true], [false, true, false, true], [false, true, false, true], [false, true, false, true], [false, true, false, true], [false, true, false, true], [false, false, false, false]]
def sr_p132 : List Nat := [0, 18, 56, 63, 70, 77, 84, 91, 98]
/-- 133: X11_season -/
def sr_b133 : List (List sr_I) := [[(.aload 0, []), (.getfield 0, [10, 2]), (.getfield 0, [5, 0]), (.iload 1, []), (.iload 2, []), (.invokevirtual 0, [92, 3, 6]), (.ifCond .ne 0, [133001]), (.sipush 0, [1, 0]), (.ireturn, [])],
  [(.aload 0, []), (.getfield 0, [10, 2]), (.getfield 0, [5, 0]), (.getfield 0, [6, 11]), (.iload 1, []), (.iload 2, []), (.invokestatic 0, [85, 2]), (.iaload, []), (.ireturn, [])]]
def sr_m133 : List (List Bool) := [[true, true, true], [true, true, true]]
def sr_p133 : List Nat := [0, 17]
/-- 134: X11_leaf -/
def sr_b134 : List (List sr_I) := [[(.aload 0, []), (.getfield 0, [10, 2]), (.getfield 0, [5, 0]), (.iload 1, []), (.iload 2, []), (.invokevirtual 0, [92, 3, 6]), (.ifCond .ne 0, [134001]), (.sipush 0, [1, 0]), (.ireturn, [])],
  [(.aload 0, []), (.getfield 0, [10, 2]), (.getfield 0, [5, 0]), (.getfield 0, [6, 13]), (.iload 1, []), (.iload 2, []), (.invokestatic 0, [85, 2]), (.iaload, []), (.istore 3, []), (.iload 3, []), (.ifCond .ge 0, [134002]), (.sipush 0, [2, 0]), (.goto 0, [134003])],
  [(.iload 3, []), (.nop, [134003])],
  [(.ireturn, [])]]
def sr_m134 : List (List Bool) := [[true, true, true, false], [true, true, true, false], [false, false, false, true], [false, false, false, false]]
def sr_p134 : List Nat := [0, 17, 43, 44]
/-- 135: X11_law -/
def sr_b135 : List (List sr_I) := [[(.iload 1, []), (.sipush 0, [2]), (.if_icmp .ne 0, [135003]), (.aload 0, []), (.getfield 0, [10, 2]), (.getfield 0, [5, 0]), (.iload 2, []), (.invokevirtual 0, [91, 2, 6]), (.ifCond .eq 0, [135001]), (.aload 0, []), (.getfield 0, [10, 2]), (.aload 0, []), (.getfield 0, [10, 1]), (.iload 2, []), (.invokestatic 0, [16, 3]), (.goto 0, [135002])],
  [(.lconst 0, [9223372036854775808, 0]), (.nop, [135002])],
  [(.lreturn, [])],
  [(.aload 0, []), (.getfield 0, [10, 2]), (.iload 2, []), (.invokevirtual 0, [77, 2, 5]), (.ifCond .ne 0, [135004]), (.lconst 0, [9223372036854775808, 0]), (.lreturn, [])],
  [(.iload 1, []), (.ifCond .ne 0, [135005]), (.aload 0, []), (.getfield 0, [10, 2]), (.aload 0, []), (.getfield 0, [10, 1]), (.iload 2, []), (.aload 0, []), (.getfield 0, [10, 2]), (.iload 2, []), (.invokevirtual 0, [78, 2, 5]), (.aload 0, []), (.getfield 0, [10, 2]), (.iload 2, []), (.invokevirtual 0, [79, 2, 5]), (.invokestatic 0, [14, 5]), (.lreturn, [])],
  [(.iload 1, []), (.sipush 0, [1]), (.if_icmp .ne 0, [135006]), (.aload 0, []), (.getfield 0, [10, 2]), (.aload 0, []), (.getfield 0, [10, 1]), (.iload 2, []), (.invokestatic 0, [15, 3]), (.lreturn, [])],
  [(.lconst 0, [9223372036854775808, 0]), (.lreturn, [])]]
def sr_m135 : List (List Bool) := [[true, true, true], [false, false, false], [false, false, false], [true, true, true], [true, true, true], [true, true, true], [false, false, false]]
def sr_p135 : List Nat := [0, 34, 37, 38, 53, 86, 104]
/-- 136: X11_carry -/
def sr_b136 : List (List sr_I) := [[(.aload 0, []), (.getfield 0, [10, 2]), (.getfield 0, [5, 0]), (.astore 4, []), (.aload 4, []), (.iload 1, []), (.invokevirtual 0, [91, 2, 6]), (.ifCond .ne 0, [136001]), (.sipush 0, [0]), (.ireturn, [1])],
  [(.aload 4, []), (.getfield 0, [6, 6]), (.iload 1, []), (.iaload, []), (.iload 2, []), (.if_icmp .ne 0, [136002]), (.aload 4, []), (.getfield 0, [6, 7]), (.iload 1, []), (.iaload, []), (.iload 3, []), (.if_icmp .ne 0, [136002]), (.sipush 0, [0]), (.ireturn, [1])],
  [(.aload 0, []), (.iload 1, []), (.iload 2, []), (.iload 3, []), (.aload 4, []), (.getfield 0, [6, 9]), (.iload 1, []), (.iaload, []), (.invokevirtual 0, [138, 5, 10]), (.ireturn, [1])]]
def sr_m136 : List (List Bool) := [[true, true, true, true, false], [true, true, true, true, true], [true, true, true, true, true]]
def sr_p136 : List Nat := [0, 20, 44]
/-- 137: X11_turn -/
def sr_b137 : List (List sr_I) := [[(.aload 0, []), (.getfield 0, [10, 2]), (.getfield 0, [5, 0]), (.astore 2, []), (.aload 2, []), (.iload 1, []), (.invokevirtual 0, [91, 2, 6]), (.ifCond .ne 0, [137001]), (.sipush 0, [0]), (.ireturn, [1])],
  [(.aload 0, []), (.iload 1, []), (.aload 2, []), (.getfield 0, [6, 6]), (.iload 1, []), (.iaload, []), (.aload 2, []), (.getfield 0, [6, 7]), (.iload 1, []), (.iaload, []), (.sipush 0, [1]), (.aload 2, []), (.getfield 0, [6, 9]), (.iload 1, []), (.iaload, []), (.isub, []), (.invokevirtual 0, [138, 5, 10]), (.ireturn, [1])]]
def sr_m137 : List (List Bool) := [[true, true, false], [true, true, true]]
def sr_p137 : List Nat := [0, 18]
/-- 138: X11_placed -/
def sr_b138 : List (List sr_I) := [[(.aload 0, []), (.getfield 0, [10, 2]), (.getfield 0, [5, 0]), (.astore 5, []), (.aload 5, []), (.iload 1, []), (.iload 2, []), (.iload 3, []), (.iload 4, []), (.invokevirtual 0, [96, 5, 6]), (.ifCond .ne 0, [138001]), (.sipush 0, [0]), (.ireturn, [1])],
  [(.aload 0, []), (.getfield 0, [10, 6]), (.aload 5, []), (.iload 1, []), (.invokevirtual 0, [2, 3, 0]), (.aload 5, []), (.iload 1, []), (.iload 2, []), (.iload 3, []), (.iload 4, []), (.invokevirtual 0, [94, 5, 6]), (.aload 5, []), (.invokevirtual 0, [100, 1, 6]), (.sipush 0, [1]), (.ireturn, [1])]]
def sr_m138 : List (List Bool) := [[true, true, true, true, true, false], [true, true, true, true, true, true]]
def sr_p138 : List Nat := [0, 24]
/-- 139: X11_mend -/
def sr_b139 : List (List sr_I) := [[(.aload 0, []), (.getfield 0, [10, 2]), (.getfield 0, [5, 0]), (.astore 2, []), (.aload 2, []), (.iload 1, []), (.invokevirtual 0, [91, 2, 6]), (.ifCond .ne 0, [139001]), (.sipush 0, [1, 0]), (.ireturn, [])],
  [(.aload 2, []), (.iload 1, []), (.invokevirtual 0, [102, 2, 6]), (.istore 3, []), (.iload 3, []), (.ifCond .ge 0, [139002]), (.sipush 0, [2, 0]), (.ireturn, [])],
  [(.aload 0, []), (.getfield 0, [10, 6]), (.aload 2, []), (.iload 1, []), (.invokevirtual 0, [2, 3, 0]), (.aload 2, []), (.getfield 0, [6, 10]), (.iload 1, []), (.dup2, []), (.iaload, []), (.sipush 0, [1]), (.iload 3, []), (.ishl, []), (.ior, []), (.iastore, []), (.aload 2, []), (.invokevirtual 0, [100, 1, 6]), (.aload 2, []), (.getfield 0, [6, 10]), (.iload 1, []), (.iaload, []), (.invokestatic 0, [297, 1]), (.ireturn, [])]]
def sr_m139 : List (List Bool) := [[true, true, false, false], [true, true, true, false], [true, true, true, true]]
def sr_p139 : List Nat := [0, 18, 31]
/-- 140: X11_step -/
def sr_b140 : List (List sr_I) := [[(.aload 0, []), (.getfield 0, [10, 2]), (.iload 1, []), (.invokevirtual 0, [77, 2, 5]), (.ifCond .eq 0, [140001]), (.iload 2, []), (.ifCond .lt 0, [140001]), (.iload 2, []), (.sipush 0, [3]), (.if_icmp .le 0, [140002]), (.nop, [140001])],
  [(.sipush 0, [1, 0]), (.ireturn, [])],
  [(.aload 0, []), (.getfield 0, [10, 2]), (.getfield 0, [5, 0]), (.aload 0, []), (.getfield 0, [10, 2]), (.getfield 0, [5, 3]), (.iload 1, []), (.iaload, []), (.aload 0, []), (.getfield 0, [10, 2]), (.getfield 0, [5, 4]), (.iload 1, []), (.iaload, []), (.iload 2, []), (.invokevirtual 0, [101, 4, 6]), (.istore 3, []), (.iload 3, []), (.ifCond .ge 0, [140003]), (.sipush 0, [2, 0]), (.ireturn, [])],
  [(.aload 0, []), (.getfield 0, [10, 6]), (.aload 0, []), (.getfield 0, [10, 2]), (.iload 1, []), (.invokevirtual 0, [3, 3, 0]), (.aload 0, []), (.getfield 0, [10, 2]), (.aload 0, []), (.getfield 0, [10, 1]), (.iload 1, []), (.iload 3, []), (.invokestatic 0, [9, 4]), (.aload 0, []), (.getfield 0, [10, 2]), (.getfield 0, [5, 2]), (.iload 1, []), (.iaload, []), (.ireturn, [])]]
def sr_m140 : List (List Bool) := [[true, true, true, false], [false, false, false, false], [true, true, true, false], [true, true, false, true]]
def sr_p140 : List Nat := [0, 20, 22, 59]
/-- 141: X11_go -/
def sr_b141 : List (List sr_I) := [[(.iload 1, []), (.invokestatic 0, [142, 1]), (.ifCond .eq 0, [141001]), (.aload 0, []), (.getfield 0, [10, 2]), (.getfield 0, [5, 7]), (.iload 1, []), (.iadd, []), (.sipush 0, [9900]), (.if_icmp .le 0, [141002]), (.nop, [141001])],
  [(.sipush 0, [1, 0]), (.ireturn, [])],
  [(.aload 0, []), (.getfield 0, [10, 2]), (.aload 0, []), (.getfield 0, [10, 1]), (.iload 1, []), (.sipush 0, [1]), (.invokestatic 0, [6, 4]), (.iload 1, []), (.ifCond .le 0, [141003]), (.aload 0, []), (.getfield 0, [10, 6]), (.invokevirtual 0, [1, 1, 0]), (.nop, [141003])],
  [(.aload 0, []), (.getfield 0, [10, 2]), (.getfield 0, [5, 7]), (.ireturn, [])]]
def sr_m141 : List (List Bool) := [[true, true], [false, false], [true, true], [true, false]]
def sr_p141 : List Nat := [0, 22, 24, 48]
/-- 142: X11_isSpan -/
def sr_b142 : List (List sr_I) := [[(.iload 0, []), (.ifCond .lt 0, [142001]), (.iload 0, []), (.sipush 0, [99]), (.if_icmp .gt 0, [142001]), (.sipush 0, [1]), (.goto 0, [142002])],
  [(.sipush 0, [0]), (.nop, [142002])],
  [(.ireturn, [1])]]
def sr_m142 : List (List Bool) := [[true], [false], [false]]
def sr_p142 : List Nat := [0, 14, 15]
/-- 143: X11_ahead -/
def sr_b143 : List (List sr_I) := [[(.iload 1, []), (.invokestatic 0, [142, 1]), (.ifCond .eq 0, [143001]), (.aload 0, []), (.iload 2, []), (.iload 3, []), (.invokevirtual 0, [144, 3, 10]), (.ifCond .ne 0, [143002]), (.nop, [143001])],
  [(.sipush 0, [1, 0]), (.ireturn, [])],
  [(.aload 0, []), (.getfield 0, [10, 3]), (.aload 0, []), (.getfield 0, [10, 2]), (.invokevirtual 0, [76, 2, 5]), (.aload 0, []), (.getfield 0, [10, 3]), (.aload 0, []), (.getfield 0, [10, 1]), (.iload 1, []), (.sipush 0, [0]), (.invokestatic 0, [6, 4]), (.iload 2, []), (.tableswitch 0 0 3 #[], [143007, 143003, 143004, 143005, 143006])],
  [(.aload 0, []), (.getfield 0, [10, 3]), (.getfield 0, [5, 2]), (.iload 3, []), (.iaload, []), (.ireturn, [])],
  [(.aload 0, []), (.getfield 0, [10, 3]), (.getfield 0, [5, 6]), (.iload 3, []), (.iaload, []), (.ireturn, [])],
  [(.aload 0, []), (.getfield 0, [10, 3]), (.getfield 0, [5, 8]), (.aload 0, []), (.getfield 0, [10, 2]), (.getfield 0, [5, 8]), (.isub, []), (.ireturn, [])],
  [(.aload 0, []), (.getfield 0, [10, 3]), (.getfield 0, [5, 0]), (.getfield 0, [6, 4]), (.ireturn, [])],
  [(.aload 0, []), (.getfield 0, [10, 3]), (.getfield 0, [5, 0]), (.iload 3, []), (.invokevirtual 0, [105, 2, 6]), (.ireturn, [])]]
def sr_m143 : List (List Bool) := [[true, true, true, true], [false, false, false, false], [true, true, true, true], [true, false, false, true], [true, false, false, true], [true, false, false, false], [true, false, false, false], [true, false, false, true]]
def sr_p143 : List Nat := [0, 16, 18, 72, 82, 92, 108, 119]
/-- 144: X11_isAskedAhead -/
def sr_b144 : List (List sr_I) := [[(.iload 1, []), (.tableswitch 0 0 4 #[], [144004, 144001, 144001, 144002, 144002, 144003])],
  [(.aload 0, []), (.getfield 0, [10, 2]), (.iload 2, []), (.invokevirtual 0, [77, 2, 5]), (.ireturn, [1])],
  [(.sipush 0, [1]), (.ireturn, [1])],
  [(.iload 2, []), (.invokestatic 0, [88, 1]), (.ireturn, [1])],
  [(.sipush 0, [0]), (.ireturn, [1])]]
def sr_m144 : List (List Bool) := [[true, true, true], [true, false, true], [false, false, false], [false, false, true], [false, false, false]]
def sr_p144 : List Nat := [0, 36, 45, 47, 52]
/-- 145: X11_steps -/
def sr_b145 : List (List sr_I) := [[(.aload 0, []), (.getfield 0, [10, 2]), (.iload 1, []), (.invokevirtual 0, [77, 2, 5]), (.ifCond .eq 0, [145001]), (.aload 0, []), (.getfield 0, [10, 2]), (.getfield 0, [5, 0]), (.iload 2, []), (.iload 3, []), (.invokevirtual 0, [92, 3, 6]), (.ifCond .ne 0, [145002]), (.nop, [145001])],
  [(.sipush 0, [1, 0]), (.ireturn, [])],
  [(.aload 0, []), (.getfield 0, [10, 8]), (.aload 0, []), (.getfield 0, [10, 2]), (.getfield 0, [5, 0]), (.aload 0, []), (.getfield 0, [10, 2]), (.iload 1, []), (.invokevirtual 0, [78, 2, 5]), (.aload 0, []), (.getfield 0, [10, 8]), (.getfield 0, [9, 0]), (.invokevirtual 0, [122, 4, 9]), (.aload 0, []), (.iload 2, []), (.iload 3, []), (.invokevirtual 0, [147, 3, 10]), (.ireturn, [])]]
def sr_m145 : List (List Bool) := [[true, true, true, true], [false, false, false, false], [true, true, true, true]]
def sr_p145 : List Nat := [0, 26, 28]
/-- 146: X11_young -/
def sr_b146 : List (List sr_I) := [[(.aload 0, []), (.getfield 0, [10, 2]), (.iload 1, []), (.invokevirtual 0, [77, 2, 5]), (.ifCond .eq 0, [146001]), (.aload 0, []), (.getfield 0, [10, 2]), (.getfield 0, [5, 0]), (.iload 2, []), (.iload 3, []), (.invokevirtual 0, [92, 3, 6]), (.ifCond .ne 0, [146002]), (.nop, [146001])],
  [(.sipush 0, [1, 0]), (.ireturn, [])],
  [(.aload 0, []), (.getfield 0, [10, 8]), (.aload 0, []), (.getfield 0, [10, 2]), (.getfield 0, [5, 0]), (.aload 0, []), (.getfield 0, [10, 2]), (.iload 1, []), (.invokevirtual 0, [78, 2, 5]), (.aload 0, []), (.getfield 0, [10, 8]), (.getfield 0, [9, 0]), (.invokevirtual 0, [123, 4, 9]), (.aload 0, []), (.iload 2, []), (.iload 3, []), (.invokevirtual 0, [147, 3, 10]), (.ireturn, [])]]
def sr_m146 : List (List Bool) := [[true, true, true, true], [false, false, false, false], [true, true, true, true]]
def sr_p146 : List Nat := [0, 26, 28]
/-- 147: X11_wayTo -/
def sr_b147 : List (List sr_I) := [[(.aload 0, []), (.getfield 0, [10, 8]), (.getfield 0, [9, 0]), (.iload 1, []), (.iload 2, []), (.invokestatic 0, [85, 2]), (.iaload, []), (.istore 3, []), (.iload 3, []), (.sipush 0, [1000000]), (.if_icmp .lt 0, [147001]), (.sipush 0, [2, 0]), (.goto 0, [147002])],
  [(.iload 3, []), (.nop, [147002])],
  [(.ireturn, [])]]
def sr_m147 : List (List Bool) := [[true, true, true, false], [false, false, false, true], [false, false, false, false]]
def sr_p147 : List Nat := [0, 26, 27]
/-- 148: X11_stand -/
def sr_b148 : List (List sr_I) := [[(.aload 0, []), (.getfield 0, [10, 2]), (.getfield 0, [5, 0]), (.iload 1, []), (.invokevirtual 0, [91, 2, 6]), (.ifCond .eq 0, [148001]), (.iload 2, []), (.ifCond .lt 0, [148001]), (.iload 2, []), (.sipush 0, [3]), (.if_icmp .le 0, [148002]), (.nop, [148001])],
  [(.sipush 0, [1, 0]), (.ireturn, [])],
  [(.aload 0, []), (.getfield 0, [10, 9]), (.aload 0, []), (.getfield 0, [10, 2]), (.iload 1, []), (.invokevirtual 0, [18, 3, 1]), (.iload 2, []), (.tableswitch 0 0 2 #[], [148006, 148003, 148004, 148005])],
  [(.aload 0, []), (.getfield 0, [10, 9]), (.getfield 0, [1, 0]), (.ireturn, [])],
  [(.aload 0, []), (.getfield 0, [10, 9]), (.getfield 0, [1, 1]), (.ireturn, [])],
  [(.aload 0, []), (.getfield 0, [10, 9]), (.getfield 0, [1, 2]), (.ireturn, [])],
  [(.aload 0, []), (.getfield 0, [10, 9]), (.getfield 0, [1, 3]), (.ireturn, [])]]
def sr_m148 : List (List Bool) := [[true, true, true], [false, false, false], [true, true, true], [true, false, false], [true, false, false], [true, false, false], [true, false, false]]
def sr_p148 : List Nat := [0, 23, 25, 64, 72, 80, 88]
/-- 149: X11_ofSeason -/
def sr_b149 : List (List sr_I) := [[(.iload 1, []), (.invokestatic 0, [88, 1]), (.ifCond .eq 0, [149001]), (.aload 0, []), (.getfield 0, [10, 2]), (.getfield 0, [5, 0]), (.iload 1, []), (.invokevirtual 0, [105, 2, 6]), (.goto 0, [149002])],
  [(.sipush 0, [1, 0]), (.nop, [149002])],
  [(.ireturn, [])]]
def sr_m149 : List (List Bool) := [[true, true], [false, false], [false, false]]
def sr_p149 : List Nat := [0, 21, 22]
/-- 150: X11_worth -/
def sr_b150 : List (List sr_I) := [[(.aload 0, []), (.getfield 0, [10, 2]), (.getfield 0, [5, 0]), (.iload 1, []), (.invokevirtual 0, [91, 2, 6]), (.ifCond .ne 0, [150001]), (.sipush 0, [2147483648, 0]), (.ireturn, [])],
  [(.aload 0, []), (.getfield 0, [10, 9]), (.aload 0, []), (.getfield 0, [10, 2]), (.invokevirtual 0, [22, 2, 1]), (.aload 0, []), (.getfield 0, [10, 9]), (.iload 1, []), (.aload 0, []), (.getfield 0, [10, 2]), (.getfield 0, [5, 0]), (.getfield 0, [6, 2]), (.invokevirtual 0, [23, 3, 1]), (.ireturn, [])]]
def sr_m150 : List (List Bool) := [[true, true], [true, true]]
def sr_p150 : List Nat := [0, 18]
/-- 151: X11_rests -/
def sr_b151 : List (List sr_I) := [[(.aload 0, []), (.iload 1, []), (.iload 2, []), (.invokevirtual 0, [153, 3, 10]), (.ifCond .ne 0, [151001]), (.sipush 0, [1, 0]), (.ireturn, [])],
  [(.aload 0, []), (.getfield 0, [10, 3]), (.aload 0, []), (.getfield 0, [10, 2]), (.invokevirtual 0, [76, 2, 5]), (.aload 0, []), (.getfield 0, [10, 9]), (.aload 0, []), (.getfield 0, [10, 3]), (.getfield 0, [5, 0]), (.iload 1, []), (.iload 2, []), (.invokevirtual 0, [25, 4, 1]), (.invokestatic 0, [297, 1]), (.ireturn, [])]]
def sr_m151 : List (List Bool) := [[true, true, true], [true, true, true]]
def sr_p151 : List Nat := [0, 11]
/-- 152: X11_rest -/
def sr_b152 : List (List sr_I) := [[(.aload 0, []), (.iload 1, []), (.iload 2, []), (.invokevirtual 0, [153, 3, 10]), (.ifCond .eq 0, [152001]), (.iload 3, []), (.ifCond .ge 0, [152002]), (.nop, [152001])],
  [(.sipush 0, [1, 0]), (.ireturn, [])],
  [(.aload 0, []), (.getfield 0, [10, 3]), (.aload 0, []), (.getfield 0, [10, 2]), (.invokevirtual 0, [76, 2, 5]), (.aload 0, []), (.getfield 0, [10, 9]), (.aload 0, []), (.getfield 0, [10, 3]), (.getfield 0, [5, 0]), (.iload 1, []), (.iload 2, []), (.invokevirtual 0, [25, 4, 1]), (.istore 4, []), (.sipush 0, [0]), (.istore 5, []), (.sipush 0, [0]), (.istore 6, []), (.nop, [152003])],
  [(.iload 6, []), (.sipush 0, [4]), (.if_icmp .ge 0, [152006]), (.iload 4, []), (.iload 6, []), (.ishr, []), (.sipush 0, [1]), (.iand, []), (.sipush 0, [1]), (.if_icmp .ne 0, [152005]), (.iload 5, []), (.iload 3, []), (.if_icmp .ne 0, [152004]), (.sipush 0, [10]), (.iload 6, []), (.sipush 0, [2]), (.idiv, []), (.imul, []), (.iload 6, []), (.sipush 0, [2]), (.irem, []), (.iadd, []), (.ireturn, [])],
  [(.iinc 5 0, [1]), (.nop, [152005])],
  [(.iinc 6 0, [1]), (.goto 0, [152003])],
  [(.sipush 0, [2, 0]), (.ireturn, [])]]
def sr_m152 : List (List Bool) := [[true, true, true, true, false, false, false], [false, false, false, false, false, false, false], [true, true, true, true, false, false, false], [false, false, false, true, true, true, true], [false, false, false, true, true, true, true], [false, false, false, true, true, true, true], [false, false, false, false, false, false, false]]
def sr_p152 : List Nat := [0, 13, 15, 50, 86, 89, 95]
/-- 153: X11_areTwoScreens -/
def sr_b153 : List (List sr_I) := [[(.iload 1, []), (.iload 2, []), (.if_icmp .eq 0, [153001]), (.aload 0, []), (.getfield 0, [10, 2]), (.getfield 0, [5, 0]), (.iload 1, []), (.invokevirtual 0, [91, 2, 6]), (.ifCond .eq 0, [153001]), (.aload 0, []), (.getfield 0, [10, 2]), (.getfield 0, [5, 0]), (.iload 2, []), (.invokevirtual 0, [91, 2, 6]), (.ifCond .eq 0, [153001]), (.sipush 0, [1]), (.goto 0, [153002])],
  [(.sipush 0, [0]), (.nop, [153002])],
  [(.ireturn, [1])]]
def sr_m153 : List (List Bool) := [[true, true, true], [false, false, false], [false, false, false]]
def sr_p153 : List Nat := [0, 37, 38]
/-- 154: X11_holds -/
def sr_b154 : List (List sr_I) := [[(.aload 0, []), (.getfield 0, [10, 2]), (.getfield 0, [5, 0]), (.iload 1, []), (.invokevirtual 0, [91, 2, 6]), (.ifCond .eq 0, [154001]), (.iload 2, []), (.ifCond .lt 0, [154001]), (.iload 2, []), (.sipush 0, [6]), (.if_icmp .gt 0, [154001]), (.iload 3, []), (.ifCond .lt 0, [154001]), (.iload 3, []), (.sipush 0, [1]), (.if_icmp .le 0, [154002]), (.nop, [154001])],
  [(.lconst 0, [1, 0]), (.lreturn, [])],
  [(.lconst 0, [1]), (.lstore 4, []), (.lconst 0, [1]), (.lstore 6, []), (.aload 0, []), (.getfield 0, [10, 2]), (.getfield 0, [5, 0]), (.getfield 0, [6, 10]), (.iload 1, []), (.iaload, []), (.ifCond .eq 0, [154004]), (.sipush 0, [0]), (.istore 8, []), (.nop, [154003])],
  [(.iload 8, []), (.iload 2, []), (.if_icmp .ge 0, [154004]), (.lload 4, []), (.sipush 0, [100]), (.aload 0, []), (.getfield 0, [10, 1]), (.getfield 0, [8, 5]), (.isub, []), (.i2l, []), (.lmul, []), (.lstore 4, []), (.lload 6, []), (.lconst 0, [100]), (.lmul, []), (.lstore 6, []), (.iinc 8 0, [1]), (.goto 0, [154003])],
  [(.lload 4, []), (.lload 6, []), (.invokestatic 0, [28, 2]), (.lstore 8, []), (.lload 8, []), (.lconst 0, [1]), (.lcmp, []), (.ifCond .ge 0, [154005]), (.lconst 0, [1, 0]), (.lreturn, [])],
  [(.iload 3, []), (.ifCond .ne 0, [154006]), (.lload 4, []), (.lload 8, []), (.ldiv, []), (.goto 0, [154007])],
  [(.lload 6, []), (.lload 8, []), (.ldiv, []), (.nop, [154007])],
  [(.lreturn, [])]]
def sr_m154 : List (List Bool) := [[true, true, true, true, false, false, false, false, false, false], [false, false, false, false, false, false, false, false, false, false], [true, true, true, true, false, false, false, false, false, false], [true, false, true, true, true, false, true, false, true, false], [false, false, false, true, true, false, true, false, false, false], [false, false, false, true, true, false, true, false, true, false], [false, false, false, false, false, false, true, false, true, false], [false, false, false, false, false, false, false, false, false, false]]
def sr_p154 : List Nat := [0, 33, 37, 61, 97, 117, 129, 134]
/-- 155: X11_meet -/
def sr_b155 : List (List sr_I) := [[(.iload 1, []), (.iload 2, []), (.if_icmp .eq 0, [155001]), (.aload 0, []), (.getfield 0, [10, 2]), (.iload 1, []), (.invokevirtual 0, [77, 2, 5]), (.ifCond .eq 0, [155001]), (.aload 0, []), (.getfield 0, [10, 2]), (.iload 2, []), (.invokevirtual 0, [77, 2, 5]), (.ifCond .eq 0, [155001]), (.iload 3, []), (.ifCond .lt 0, [155001]), (.iload 3, []), (.sipush 0, [1]), (.if_icmp .le 0, [155002]), (.nop, [155001])],
  [(.sipush 0, [1, 0]), (.ireturn, [])],
  [(.aload 0, []), (.getfield 0, [10, 8]), (.aload 0, []), (.getfield 0, [10, 2]), (.getfield 0, [5, 0]), (.aload 0, []), (.getfield 0, [10, 2]), (.iload 1, []), (.invokevirtual 0, [78, 2, 5]), (.aload 0, []), (.getfield 0, [10, 8]), (.getfield 0, [9, 0]), (.invokevirtual 0, [122, 4, 9]), (.aload 0, []), (.getfield 0, [10, 8]), (.aload 0, []), (.getfield 0, [10, 2]), (.getfield 0, [5, 0]), (.aload 0, []), (.getfield 0, [10, 2]), (.iload 2, []), (.invokevirtual 0, [78, 2, 5]), (.aload 0, []), (.getfield 0, [10, 8]), (.getfield 0, [9, 1]), (.invokevirtual 0, [122, 4, 9]), (.aload 0, []), (.getfield 0, [10, 8]), (.aload 0, []), (.getfield 0, [10, 2]), (.getfield 0, [5, 0]), (.invokevirtual 0, [125, 2, 9]), (.istore 4, []), (.iload 4, []), (.ifCond .ge 0, [155003]), (.sipush 0, [2, 0]), (.ireturn, [])],
  [(.iload 3, []), (.ifCond .ne 0, [155004]), (.aload 0, []), (.getfield 0, [10, 8]), (.getfield 0, [9, 0]), (.iload 4, []), (.iaload, []), (.aload 0, []), (.getfield 0, [10, 8]), (.getfield 0, [9, 1]), (.iload 4, []), (.iaload, []), (.iadd, []), (.ireturn, [])],
  [(.sipush 0, [10]), (.iload 4, []), (.invokestatic 0, [86, 1]), (.imul, []), (.iload 4, []), (.invokestatic 0, [87, 1]), (.iadd, []), (.ireturn, [])]]
def sr_m155 : List (List Bool) := [[true, true, true, true, false], [false, false, false, false, false], [true, true, true, true, false], [true, false, false, true, true], [false, false, false, false, true]]
def sr_p155 : List Nat := [0, 36, 38, 120, 146]
/-- 156: X11_needed -/
def sr_b156 : List (List sr_I) := [[(.aload 0, []), (.getfield 0, [10, 9]), (.aload 0, []), (.getfield 0, [10, 2]), (.invokevirtual 0, [22, 2, 1]), (.aload 0, []), (.getfield 0, [10, 9]), (.aload 0, []), (.getfield 0, [10, 2]), (.getfield 0, [5, 0]), (.getfield 0, [6, 2]), (.invokevirtual 0, [24, 2, 1]), (.ireturn, [])]]
def sr_m156 : List (List Bool) := [[true]]
def sr_p156 : List Nat := [0]
/-- 157: X11_nextTo -/
def sr_b157 : List (List sr_I) := [[(.aload 0, []), (.getfield 0, [10, 2]), (.iload 1, []), (.invokevirtual 0, [77, 2, 5]), (.ifCond .ne 0, [157001]), (.sipush 0, [1, 0]), (.ireturn, [])],
  [(.sipush 0, [0]), (.istore 2, []), (.sipush 0, [0]), (.istore 3, []), (.nop, [157002])],
  [(.iload 3, []), (.aload 0, []), (.getfield 0, [10, 2]), (.getfield 0, [5, 1]), (.if_icmp .ge 0, [157004]), (.aload 0, []), (.getfield 0, [10, 2]), (.getfield 0, [5, 3]), (.iload 3, []), (.iaload, []), (.aload 0, []), (.getfield 0, [10, 2]), (.getfield 0, [5, 3]), (.iload 1, []), (.iaload, []), (.isub, []), (.invokestatic 0, [2]), (.aload 0, []), (.getfield 0, [10, 2]), (.getfield 0, [5, 4]), (.iload 3, []), (.iaload, []), (.aload 0, []), (.getfield 0, [10, 2]), (.getfield 0, [5, 4]), (.iload 1, []), (.iaload, []), (.isub, []), (.invokestatic 0, [2]), (.iadd, []), (.istore 4, []), (.iload 3, []), (.iload 1, []), (.if_icmp .eq 0, [157003]), (.iload 4, []), (.sipush 0, [1]), (.if_icmp .gt 0, [157003]), (.iload 2, []), (.sipush 0, [1]), (.iload 3, []), (.ishl, []), (.ior, []), (.istore 2, []), (.nop, [157003])],
  [(.iinc 3 0, [1]), (.goto 0, [157002])],
  [(.iload 2, []), (.ireturn, [])]]
def sr_m157 : List (List Bool) := [[true, true, false, false, false], [true, true, false, false, false], [true, true, true, true, false], [true, true, true, true, false], [false, false, true, false, false]]
def sr_p157 : List Nat := [0, 13, 17, 92, 98]
/-- 158: X11_see -/
def sr_b158 : List (List sr_I) := [[(.iload 1, []), (.sipush 0, [1]), (.if_icmp .lt 0, [158001]), (.iload 1, []), (.sipush 0, [40]), (.if_icmp .gt 0, [158001]), (.iload 4, []), (.invokestatic 0, [88, 1]), (.ifCond .ne 0, [158002]), (.nop, [158001])],
  [(.sipush 0, [1, 0]), (.ireturn, [])],
  [(.aload 0, []), (.getfield 0, [10, 2]), (.getfield 0, [5, 0]), (.iload 2, []), (.iload 3, []), (.invokevirtual 0, [92, 3, 6]), (.ifCond .ne 0, [158003]), (.sipush 0, [1, 0]), (.ireturn, [])],
  [(.aload 0, []), (.getfield 0, [10, 7]), (.iload 1, []), (.iload 2, []), (.iload 3, []), (.invokestatic 0, [85, 2]), (.iload 4, []), (.iload 5, []), (.invokevirtual 0, [110, 5, 7]), (.ireturn, [])]]
def sr_m158 : List (List Bool) := [[true, true, true, true, true, true], [false, false, false, false, false, false], [true, true, true, true, true, true], [true, true, true, true, true, true]]
def sr_p158 : List Nat := [0, 19, 21, 38]
/-- 159: X11_out -/
def sr_b159 : List (List sr_I) := [[(.aload 0, []), (.getfield 0, [10, 7]), (.iload 1, []), (.invokevirtual 0, [111, 2, 7]), (.ireturn, [])]]
def sr_m159 : List (List Bool) := [[true, true]]
def sr_p159 : List Nat := [0]
/-- 160: X11_known -/
def sr_b160 : List (List sr_I) := [[(.iload 1, []), (.sipush 0, [1, 0]), (.if_icmp .lt 0, [160001]), (.iload 1, []), (.aload 0, []), (.getfield 0, [10, 7]), (.getfield 0, [7, 0]), (.if_icmp .le 0, [160002]), (.nop, [160001])],
  [(.sipush 0, [0]), (.ireturn, [1])],
  [(.aload 0, []), (.getfield 0, [10, 7]), (.iload 1, []), (.putfield 0, [7, 1, 0]), (.sipush 0, [1]), (.ireturn, [1])]]
def sr_m160 : List (List Bool) := [[true, true], [false, false], [true, true]]
def sr_p160 : List Nat := [0, 16, 18]
/-- 161: X11_painted -/
def sr_b161 : List (List sr_I) := [[(.aload 0, []), (.getfield 0, [10, 2]), (.getfield 0, [5, 0]), (.iload 1, []), (.invokevirtual 0, [91, 2, 6]), (.ifCond .ne 0, [161001]), (.sipush 0, [1, 0]), (.ireturn, [])],
  [(.aload 0, []), (.getfield 0, [10, 7]), (.invokevirtual 0, [112, 1, 7]), (.aload 0, []), (.getfield 0, [10, 7]), (.invokevirtual 0, [114, 1, 7]), (.istore 2, []), (.sipush 0, [0]), (.istore 3, []), (.sipush 0, [0]), (.istore 4, []), (.nop, [161002])],
  [(.iload 4, []), (.sipush 0, [4]), (.if_icmp .ge 0, [161006]), (.aload 0, []), (.getfield 0, [10, 3]), (.aload 0, []), (.getfield 0, [10, 1]), (.getfield 0, [8, 0]), (.invokevirtual 0, [76, 2, 5]), (.aload 0, []), (.getfield 0, [10, 3]), (.getfield 0, [5, 0]), (.getfield 0, [6, 5]), (.iload 1, []), (.iload 4, []), (.iastore, []), (.aload 0, []), (.getfield 0, [10, 3]), (.getfield 0, [5, 0]), (.invokevirtual 0, [100, 1, 6]), (.sipush 0, [1]), (.istore 5, []), (.sipush 0, [1]), (.istore 6, []), (.nop, [161003])],
  [(.iload 6, []), (.iload 2, []), (.if_icmp .gt 0, [161004]), (.iload 5, []), (.ifCond .eq 0, [161004]), (.aload 0, []), (.getfield 0, [10, 3]), (.aload 0, []), (.getfield 0, [10, 1]), (.sipush 0, [1]), (.sipush 0, [16]), (.invokestatic 0, [6, 4]), (.aload 0, []), (.getfield 0, [10, 7]), (.aload 0, []), (.getfield 0, [10, 3]), (.getfield 0, [5, 0]), (.iload 6, []), (.invokevirtual 0, [115, 3, 7]), (.istore 5, []), (.iinc 6 0, [1]), (.goto 0, [161003])],
  [(.iload 5, []), (.ifCond .eq 0, [161005]), (.iload 3, []), (.sipush 0, [1]), (.iload 4, []), (.ishl, []), (.ior, []), (.istore 3, []), (.nop, [161005])],
  [(.iinc 4 0, [1]), (.goto 0, [161002])],
  [(.iload 3, []), (.ireturn, [])]]
def sr_m161 : List (List Bool) := [[true, true, false, false, false, false, false], [true, true, false, false, false, false, false], [true, true, true, true, true, false, false], [true, true, true, true, true, true, true], [true, true, true, true, true, true, false], [true, true, true, true, true, false, false], [false, false, false, true, false, false, false]]
def sr_p161 : List Nat := [0, 16, 36, 86, 135, 147, 153]
/-- 162: X11_chance -/
def sr_b162 : List (List sr_I) := [[(.iload 1, []), (.ifCond .lt 0, [162001]), (.iload 2, []), (.sipush 0, [1]), (.if_icmp .lt 0, [162001]), (.iload 2, []), (.sipush 0, [99]), (.if_icmp .gt 0, [162001]), (.iload 3, []), (.ifCond .lt 0, [162001]), (.iload 3, []), (.sipush 0, [20]), (.if_icmp .le 0, [162002]), (.nop, [162001])],
  [(.sipush 0, [1, 0]), (.ireturn, [])],
  [(.iload 1, []), (.i2l, []), (.lstore 4, []), (.sipush 0, [0]), (.istore 6, []), (.sipush 0, [0]), (.istore 7, []), (.nop, [162003])],
  [(.iload 7, []), (.sipush 0, [10]), (.if_icmp .ge 0, [162005]), (.aload 0, []), (.getfield 0, [10, 3]), (.aload 0, []), (.getfield 0, [10, 2]), (.invokevirtual 0, [76, 2, 5]), (.aload 0, []), (.getfield 0, [10, 3]), (.lload 4, []), (.putfield 0, [5, 9, 2]), (.aload 0, []), (.getfield 0, [10, 3]), (.aload 0, []), (.getfield 0, [10, 1]), (.iload 2, []), (.sipush 0, [21]), (.invokestatic 0, [6, 4]), (.aload 0, []), (.getfield 0, [10, 3]), (.getfield 0, [5, 9]), (.lstore 4, []), (.aload 0, []), (.getfield 0, [10, 3]), (.getfield 0, [5, 0]), (.getfield 0, [6, 4]), (.iload 3, []), (.if_icmp .lt 0, [162004]), (.iinc 6 0, [1]), (.nop, [162004])],
  [(.iinc 7 0, [1]), (.goto 0, [162003])],
  [(.iload 6, []), (.ireturn, [])]]
def sr_m162 : List (List Bool) := [[true, true, true, true, false, false, false, false], [false, false, false, false, false, false, false, false], [true, true, true, true, false, false, false, false], [true, false, true, true, true, false, true, true], [true, false, true, true, true, false, true, true], [false, false, false, false, false, false, true, false]]
def sr_p162 : List Nat := [0, 25, 27, 37, 104, 110]
/-- 163: X11_tried -/
def sr_b163 : List (List sr_I) := [[(.iload 1, []), (.ifCond .lt 0, [163001]), (.iload 1, []), (.sipush 0, [5]), (.if_icmp .gt 0, [163001]), (.iload 3, []), (.invokestatic 0, [142, 1]), (.ifCond .ne 0, [163002]), (.nop, [163001])],
  [(.sipush 0, [1, 0]), (.ireturn, [])],
  [(.iload 1, []), (.sipush 0, [2]), (.if_icmp .ne 0, [163003]), (.aload 0, []), (.getfield 0, [10, 2]), (.getfield 0, [5, 0]), (.iload 2, []), (.invokevirtual 0, [91, 2, 6]), (.ifCond .ne 0, [163005]), (.goto 0, [163004])],
  [(.iload 2, []), (.ifCond .eq 0, [163005]), (.nop, [163004])],
  [(.sipush 0, [1, 0]), (.ireturn, [])],
  [(.aload 0, []), (.getfield 0, [10, 3]), (.aload 0, []), (.getfield 0, [10, 2]), (.invokevirtual 0, [76, 2, 5]), (.sipush 0, [0]), (.istore 4, []), (.iload 1, []), (.tableswitch 0 1 5 #[], [163011, 163006, 163007, 163008, 163009, 163010])],
  [(.iload 4, []), (.sipush 0, [2]), (.ior, []), (.istore 4, []), (.goto 0, [163011])],
  [(.aload 0, []), (.getfield 0, [10, 3]), (.getfield 0, [5, 0]), (.dup, []), (.getfield 0, [6, 3]), (.sipush 0, [1]), (.iload 2, []), (.ishl, []), (.sipush 0, [1, 0]), (.ixor, []), (.iand, []), (.putfield 0, [6, 3, 0]), (.goto 0, [163011])],
  [(.iload 4, []), (.sipush 0, [4]), (.ior, []), (.istore 4, []), (.goto 0, [163011])],
  [(.iload 4, []), (.sipush 0, [8]), (.ior, []), (.istore 4, []), (.goto 0, [163011])],
  [(.aload 0, []), (.getfield 0, [10, 3]), (.getfield 0, [5, 0]), (.invokevirtual 0, [104, 1, 6]), (.goto 0, [163011])],
  [(.aload 0, []), (.getfield 0, [10, 3]), (.getfield 0, [5, 0]), (.invokevirtual 0, [100, 1, 6]), (.aload 0, []), (.getfield 0, [10, 3]), (.aload 0, []), (.getfield 0, [10, 1]), (.iload 3, []), (.iload 4, []), (.invokestatic 0, [6, 4]), (.aload 0, []), (.getfield 0, [10, 3]), (.invokevirtual 0, [80, 1, 5]), (.aload 0, []), (.getfield 0, [10, 2]), (.invokevirtual 0, [80, 1, 5]), (.isub, []), (.ireturn, [])]]
def sr_m163 : List (List Bool) := [[true, true, true, true, false], [false, false, false, false, false], [true, true, true, true, false], [true, true, true, true, false], [false, false, false, false, false], [true, true, true, true, false], [true, false, false, true, true], [true, false, true, true, true], [true, false, false, true, true], [true, false, false, true, true], [true, false, false, true, true], [true, false, false, true, true]]
def sr_p163 : List Nat := [0, 16, 18, 40, 44, 46, 96, 105, 128, 137, 147, 160]
/-- 164: X11_undo -/
def sr_b164 : List (List sr_I) := [[(.aload 0, []), (.getfield 0, [10, 6]), (.getfield 0, [0, 0]), (.ifCond .ne 0, [164001]), (.sipush 0, [1, 0]), (.ireturn, [])],
  [(.aload 0, []), (.getfield 0, [10, 6]), (.aload 0, []), (.getfield 0, [10, 2]), (.invokevirtual 0, [5, 2, 0]), (.aload 0, []), (.getfield 0, [10, 2]), (.getfield 0, [5, 0]), (.invokevirtual 0, [100, 1, 6]), (.aload 0, []), (.getfield 0, [10, 6]), (.getfield 0, [0, 0]), (.ireturn, [])]]
def sr_m164 : List (List Bool) := [[true], [true]]
def sr_p164 : List Nat := [0, 12]
/-- 165: X11_keep -/
def sr_b165 : List (List sr_I) := [[(.aload 0, []), (.getfield 0, [10, 4]), (.aload 0, []), (.getfield 0, [10, 2]), (.invokevirtual 0, [76, 2, 5]), (.aload 0, []), (.sipush 0, [1]), (.putfield 0, [10, 5, 1]), (.aload 0, []), (.getfield 0, [10, 2]), (.getfield 0, [5, 7]), (.ireturn, [])]]
def sr_m165 : List (List Bool) := [[true]]
def sr_p165 : List Nat := [0]
/-- 166: X11_back -/
def sr_b166 : List (List sr_I) := [[(.aload 0, []), (.getfield 0, [10, 5]), (.ifCond .ne 0, [166001]), (.sipush 0, [1, 0]), (.ireturn, [])],
  [(.aload 0, []), (.getfield 0, [10, 2]), (.aload 0, []), (.getfield 0, [10, 4]), (.invokevirtual 0, [76, 2, 5]), (.aload 0, []), (.getfield 0, [10, 6]), (.invokevirtual 0, [1, 1, 0]), (.aload 0, []), (.getfield 0, [10, 2]), (.getfield 0, [5, 7]), (.ireturn, [])]]
def sr_m166 : List (List Bool) := [[true], [true]]
def sr_p166 : List Nat := [0, 9]
/-- 167: X11_count -/
def sr_b167 : List (List sr_I) := [[(.iload 1, []), (.tableswitch 0 0 14 #[], [167016, 167001, 167002, 167003, 167004, 167005, 167006, 167007, 167008, 167009, 167010, 167011, 167012, 167013, 167014, 167015])],
  [(.aload 0, []), (.getfield 0, [10, 2]), (.getfield 0, [5, 0]), (.getfield 0, [6, 2]), (.ireturn, [])],
  [(.aload 0, []), (.getfield 0, [10, 2]), (.getfield 0, [5, 1]), (.ireturn, [])],
  [(.aload 0, []), (.getfield 0, [10, 2]), (.getfield 0, [5, 0]), (.getfield 0, [6, 0]), (.ireturn, [])],
  [(.aload 0, []), (.getfield 0, [10, 2]), (.getfield 0, [5, 0]), (.getfield 0, [6, 1]), (.ireturn, [])],
  [(.aload 0, []), (.getfield 0, [10, 1]), (.getfield 0, [8, 1]), (.getfield 0, [2, 0]), (.ireturn, [])],
  [(.aload 0, []), (.getfield 0, [10, 2]), (.getfield 0, [5, 7]), (.ireturn, [])],
  [(.aload 0, []), (.getfield 0, [10, 2]), (.getfield 0, [5, 0]), (.getfield 0, [6, 4]), (.ireturn, [])],
  [(.aload 0, []), (.getfield 0, [10, 2]), (.getfield 0, [5, 8]), (.ireturn, [])],
  [(.aload 0, []), (.getfield 0, [10, 2]), (.invokevirtual 0, [80, 1, 5]), (.ireturn, [])],
  [(.aload 0, []), (.getfield 0, [10, 2]), (.invokevirtual 0, [81, 1, 5]), (.ireturn, [])],
  [(.aload 0, []), (.getfield 0, [10, 2]), (.getfield 0, [5, 0]), (.invokevirtual 0, [106, 1, 6]), (.ireturn, [])],
  [(.aload 0, []), (.getfield 0, [10, 2]), (.invokevirtual 0, [82, 1, 5]), (.ireturn, [])],
  [(.aload 0, []), (.getfield 0, [10, 7]), (.getfield 0, [7, 0]), (.ireturn, [])],
  [(.aload 0, []), (.getfield 0, [10, 7]), (.invokevirtual 0, [109, 1, 7]), (.ireturn, [])],
  [(.aload 0, []), (.getfield 0, [10, 6]), (.getfield 0, [0, 0]), (.ireturn, [])],
  [(.sipush 0, [1, 0]), (.ireturn, [])]]
def sr_m167 : List (List Bool) := [[true, true], [true, false], [true, false], [true, false], [true, false], [true, false], [true, false], [true, false], [true, false], [true, false], [true, false], [true, false], [true, false], [true, false], [true, false], [true, false], [false, false]]
def sr_p167 : List Nat := [0, 76, 87, 95, 106, 117, 128, 136, 147, 155, 163, 171, 182, 190, 198, 206, 214]
/-- 168: X12_init -/
def sr_b168 : List (List sr_I) := [[(.aload 0, []), (.invokespecial 0, [9]), (.aload 0, []), (.sipush 0, [700]), (.newarray .int, []), (.putfield 0, [11, 1, 3]), (.aload 0, []), (.sipush 0, [18]), (.newarray .int, []), (.dup, []), (.sipush 0, [0]), (.sipush 0, [4]), (.iastore, []), (.dup, []), (.sipush 0, [1]), (.sipush 0, [4]), (.iastore, []), (.dup, []), (.sipush 0, [2]), (.sipush 0, [0]), (.iastore, []), (.dup, []), (.sipush 0, [3]), (.sipush 0, [0]), (.iastore, []), (.dup, []), (.sipush 0, [4]), (.sipush 0, [0]), (.iastore, []), (.dup, []), (.sipush 0, [5]), (.sipush 0, [0]), (.iastore, []), (.dup, []), (.sipush 0, [6]), (.sipush 0, [0]), (.iastore, []), (.dup, []), (.sipush 0, [7]), (.sipush 0, [0]), (.iastore, []), (.dup, []), (.sipush 0, [8]), (.sipush 0, [0]), (.iastore, []), (.dup, []), (.sipush 0, [9]), (.sipush 0, [4]), (.iastore, []), (.dup, []), (.sipush 0, [10]), (.sipush 0, [4]), (.iastore, []), (.dup, []), (.sipush 0, [11]), (.sipush 0, [0]), (.iastore, []), (.dup, []), (.sipush 0, [12]), (.sipush 0, [0]), (.iastore, []), (.dup, []), (.sipush 0, [13]), (.sipush 0, [0]), (.iastore, []), (.dup, []), (.sipush 0, [14]), (.sipush 0, [0]), (.iastore, []), (.dup, []), (.sipush 0, [15]), (.sipush 0, [0]), (.iastore, []), (.dup, []), (.sipush 0, [16]), (.sipush 0, [0]), (.iastore, []), (.dup, []), (.sipush 0, [17]), (.sipush 0, [0]), (.iastore, []), (.putfield 0, [11, 3, 3]), (.aload 0, []), (.sipush 0, [10]), (.newarray .int, []), (.putfield 0, [11, 4, 3]), (.aload 0, []), (.sipush 0, [10]), (.newarray .int, []), (.putfield 0, [11, 5, 3]), (.aload 0, []), (.sipush 0, [10]), (.newarray .int, []), (.putfield 0, [11, 6, 3]), (.aload 0, []), (.sipush 0, [10]), (.newarray .int, []), (.putfield 0, [11, 7, 3]), (.aload 0, []), (.sipush 0, [10]), (.newarray .int, []), (.putfield 0, [11, 8, 3]), (.aload 0, []), (.sipush 0, [10]), (.newarray .int, []), (.putfield 0, [11, 9, 3]), (.aload 0, []), (.sipush 0, [12]), (.newarray .int, []), (.putfield 0, [11, 10, 3]), (.aload 0, []), (.sipush 0, [12]), (.newarray .int, []), (.putfield 0, [11, 11, 3]), (.aload 0, []), (.sipush 0, [12]), (.newarray .int, []), (.putfield 0, [11, 12, 3]), (.aload 0, []), (.sipush 0, [12]), (.newarray .int, []), (.putfield 0, [11, 13, 3]), (.aload 0, []), (.sipush 0, [12]), (.newarray .int, []), (.putfield 0, [11, 14, 3]), (.aload 0, []), (.sipush 0, [20]), (.newarray .int, []), (.putfield 0, [11, 15, 3]), (.aload 0, []), (.sipush 0, [20]), (.newarray .int, []), (.putfield 0, [11, 16, 3]), (.aload 0, []), (.sipush 0, [20]), (.newarray .int, []), (.putfield 0, [11, 17, 3]), (.aload 0, []), (.sipush 0, [20]), (.newarray .int, []), (.putfield 0, [11, 18, 3]), (.aload 0, []), (.sipush 0, [24]), (.newarray .int, []), (.putfield 0, [11, 19, 3]), (.aload 0, []), (.sipush 0, [24]), (.newarray .int, []), (.putfield 0, [11, 20, 3]), (.aload 0, []), (.sipush 0, [24]), (.newarray .int, []), (.putfield 0, [11, 21, 3]), (.aload 0, []), (.sipush 0, [6]), (.newarray .int, []), (.putfield 0, [11, 22, 3]), (.aload 0, []), (.sipush 0, [6]), (.newarray .int, []), (.putfield 0, [11, 23, 3]), (.aload 0, []), (.sipush 0, [128]), (.newarray .int, []), (.putfield 0, [11, 24, 3]), (.aload 0, []), (.sipush 0, [128]), (.newarray .int, []), (.putfield 0, [11, 25, 3]), (.aload 0, []), (.sipush 0, [1, 0]), (.putfield 0, [11, 36, 0]), (.aload 0, []), (.sipush 0, [7]), (.newarray .long, []), (.putfield 0, [11, 39, 3]), (.aload 0, []), (.sipush 0, [64]), (.newarray .long, []), (.putfield 0, [11, 40, 3]), (.aload 0, []), (.sipush 0, [23]), (.newarray .int, []), (.putfield 0, [11, 42, 3]), (.aload 0, []), (.sipush 0, [23]), (.newarray .int, []), (.putfield 0, [11, 43, 3]), (.aload 0, []), (.sipush 0, [23]), (.newarray .int, []), (.putfield 0, [11, 44, 3]), (.aload 0, []), (.sipush 0, [115]), (.newarray .int, []), (.putfield 0, [11, 45, 3]), (.aload 0, []), (.sipush 0, [115]), (.newarray .int, []), (.putfield 0, [11, 46, 3]), (.aload 0, []), (.sipush 0, [115]), (.newarray .int, []), (.putfield 0, [11, 47, 3]), (.aload 0, []), (.sipush 0, [115]), (.newarray .int, []), (.putfield 0, [11, 48, 3]), (.aload 0, []), (.sipush 0, [138]), (.newarray .int, []), (.putfield 0, [11, 49, 3]), (.aload 0, []), (.sipush 0, [138]), (.newarray .int, []), (.putfield 0, [11, 50, 3]), (.aload 0, []), (.sipush 0, [138]), (.newarray .int, []), (.putfield 0, [11, 51, 3]), (.aload 0, []), (.sipush 0, [138]), (.newarray .int, []), (.putfield 0, [11, 52, 3]), (.aload 0, []), (.sipush 0, [1, 0]), (.putfield 0, [11, 56, 0]), (.aload 0, []), (.sipush 0, [128]), (.newarray .int, []), (.putfield 0, [11, 59, 3]), (.aload 0, []), (.sipush 0, [1, 0]), (.putfield 0, [11, 61, 0]), (.aload 0, []), (.sipush 0, [24]), (.newarray .int, []), (.putfield 0, [11, 62, 3]), (.aload 0, []), (.sipush 0, [24]), (.newarray .int, []), (.putfield 0, [11, 63, 3]), (.aload 0, []), (.sipush 0, [24]), (.newarray .int, []), (.putfield 0, [11, 64, 3]), (.aload 0, []), (.sipush 0, [24]), (.newarray .boolean, []), (.putfield 0, [11, 65, 3]), (.aload 0, []), (.sipush 0, [24]), (.newarray .int, []), (.putfield 0, [11, 66, 3]), (.aload 0, []), (.sipush 0, [24]), (.newarray .boolean, []), (.putfield 0, [11, 67, 3]), (.aload 0, []), (.invokevirtual 0, [212, 1, 11]), (.return_, [])]]
def sr_m168 : List (List Bool) := [[true]]
def sr_p168 : List Nat := [0]
/-- 169: X12_thrown -/
def sr_b169 : List (List sr_I) := [[(.aload 0, []), (.getfield 0, [11, 0]), (.ireturn, [])]]
def sr_m169 : List (List Bool) := [[true]]
def sr_p169 : List Nat := [0]
/-- 170: X12_feed -/
def sr_b170 : List (List sr_I) := [[(.aload 0, []), (.sipush 0, [0]), (.putfield 0, [11, 0, 0]), (.aload 0, []), (.getfield 0, [11, 2]), (.sipush 0, [680]), (.if_icmp .le 0, [170001]), (.sipush 0, [1, 0]), (.ireturn, [])],
  [(.sipush 0, [0]), (.istore 6, []), (.nop, [170002])],
  [(.iload 6, []), (.sipush 0, [20]), (.if_icmp .ge 0, [170008]), (.iload 6, []), (.sipush 0, [4]), (.if_icmp .ge 0, [170003]), (.iload 1, []), (.goto 0, [170007])],
  [(.iload 6, []), (.sipush 0, [8]), (.if_icmp .ge 0, [170004]), (.iload 2, []), (.goto 0, [170007])],
  [(.iload 6, []), (.sipush 0, [12]), (.if_icmp .ge 0, [170005]), (.iload 3, []), (.goto 0, [170007])],
  [(.iload 6, []), (.sipush 0, [16]), (.if_icmp .ge 0, [170006]), (.iload 4, []), (.goto 0, [170007])],
  [(.iload 5, []), (.nop, [170007])],
  [(.istore 7, []), (.aload 0, []), (.getfield 0, [11, 1]), (.aload 0, []), (.getfield 0, [11, 2]), (.iload 6, []), (.iadd, []), (.iload 7, []), (.sipush 0, [24]), (.sipush 0, [8]), (.iload 6, []), (.sipush 0, [4]), (.irem, []), (.imul, []), (.isub, []), (.ishr, []), (.sipush 0, [255]), (.iand, []), (.iastore, []), (.iinc 6 0, [1]), (.goto 0, [170002])],
  [(.aload 0, []), (.dup, []), (.getfield 0, [11, 2]), (.sipush 0, [20]), (.iadd, []), (.putfield 0, [11, 2, 0]), (.aload 0, []), (.getfield 0, [11, 2]), (.ireturn, [])]]
def sr_m170 : List (List Bool) := [[true, true, true, true, true, true, false, false], [true, true, true, true, true, true, false, false], [true, true, true, true, true, true, true, false], [true, true, true, true, true, true, true, false], [true, true, true, true, true, true, true, false], [true, true, true, true, true, true, true, false], [true, true, true, true, true, true, true, false], [true, true, true, true, true, true, true, false], [true, false, false, false, false, false, false, false]]
def sr_p170 : List Nat := [0, 17, 20, 37, 48, 59, 71, 73, 110]
/-- 171: X12_here -/
def sr_b171 : List (List sr_I) := [[(.aload 0, []), (.getfield 0, [11, 29]), (.aload 0, []), (.getfield 0, [11, 28]), (.if_icmp .ge 0, [171001]), (.aload 0, []), (.getfield 0, [11, 1]), (.aload 0, []), (.getfield 0, [11, 29]), (.iaload, []), (.goto 0, [171002])],
  [(.sipush 0, [1, 0]), (.nop, [171002])],
  [(.ireturn, [])]]
def sr_m171 : List (List Bool) := [[true], [false], [false]]
def sr_p171 : List Nat := [0, 23, 24]
/-- 172: X12_isSmall -/
def sr_b172 : List (List sr_I) := [[(.iload 0, []), (.sipush 0, [97]), (.if_icmp .lt 0, [172001]), (.iload 0, []), (.sipush 0, [122]), (.if_icmp .gt 0, [172001]), (.sipush 0, [1]), (.goto 0, [172002])],
  [(.sipush 0, [0]), (.nop, [172002])],
  [(.ireturn, [1])]]
def sr_m172 : List (List Bool) := [[true], [false], [false]]
def sr_p172 : List Nat := [0, 16, 17]
/-- 173: X12_isDigit -/
def sr_b173 : List (List sr_I) := [[(.iload 0, []), (.sipush 0, [48]), (.if_icmp .lt 0, [173001]), (.iload 0, []), (.sipush 0, [57]), (.if_icmp .gt 0, [173001]), (.sipush 0, [1]), (.goto 0, [173002])],
  [(.sipush 0, [0]), (.nop, [173002])],
  [(.ireturn, [1])]]
def sr_m173 : List (List Bool) := [[true], [false], [false]]
def sr_p173 : List Nat := [0, 16, 17]
/-- 174: X12_token -/
def sr_b174 : List (List sr_I) := [[(.aload 0, []), (.invokevirtual 0, [171, 1, 11]), (.sipush 0, [10]), (.if_icmp .eq 0, [174001]), (.aload 0, []), (.invokevirtual 0, [171, 1, 11]), (.sipush 0, [32]), (.if_icmp .ne 0, [174002]), (.nop, [174001])],
  [(.aload 0, []), (.dup, []), (.getfield 0, [11, 29]), (.sipush 0, [1]), (.iadd, []), (.putfield 0, [11, 29, 0]), (.goto 0, [174000])],
  [(.aload 0, []), (.aload 0, []), (.getfield 0, [11, 29]), (.putfield 0, [11, 30, 0]), (.aload 0, []), (.invokevirtual 0, [171, 1, 11]), (.istore 1, []), (.iload 1, []), (.sipush 0, [1, 0]), (.if_icmp .ne 0, [174003]), (.aload 0, []), (.sipush 0, [4]), (.putfield 0, [11, 31, 0]), (.goto 0, [174014])],
  [(.iload 1, []), (.invokestatic 0, [172, 1]), (.ifCond .eq 0, [174009]), (.nop, [174004])],
  [(.aload 0, []), (.invokevirtual 0, [171, 1, 11]), (.invokestatic 0, [172, 1]), (.ifCond .eq 0, [174005]), (.aload 0, []), (.dup, []), (.getfield 0, [11, 29]), (.sipush 0, [1]), (.iadd, []), (.putfield 0, [11, 29, 0]), (.goto 0, [174004])],
  [(.aload 0, []), (.aload 0, []), (.invokevirtual 0, [176, 1, 11]), (.putfield 0, [11, 32, 0]), (.aload 0, []), (.aload 0, []), (.getfield 0, [11, 32]), (.sipush 0, [1, 0]), (.if_icmp .eq 0, [174006]), (.sipush 0, [0]), (.goto 0, [174008])],
  [(.aload 0, []), (.getfield 0, [11, 29]), (.aload 0, []), (.getfield 0, [11, 30]), (.isub, []), (.sipush 0, [6]), (.if_icmp .le 0, [174007]), (.sipush 0, [5]), (.goto 0, [174008])],
  [(.sipush 0, [1]), (.nop, [174008])],
  [(.putfield 0, [11, 31, 0]), (.aload 0, []), (.getfield 0, [11, 31]), (.sipush 0, [1]), (.if_icmp .ne 0, [174014]), (.aload 0, []), (.invokevirtual 0, [177, 1, 11]), (.goto 0, [174014])],
  [(.iload 1, []), (.invokestatic 0, [173, 1]), (.ifCond .eq 0, [174013]), (.aload 0, []), (.sipush 0, [2]), (.putfield 0, [11, 31, 0]), (.aload 0, []), (.sipush 0, [0]), (.putfield 0, [11, 32, 0]), (.nop, [174010])],
  [(.aload 0, []), (.invokevirtual 0, [171, 1, 11]), (.invokestatic 0, [173, 1]), (.ifCond .eq 0, [174014]), (.aload 0, []), (.aload 0, []), (.getfield 0, [11, 32]), (.sipush 0, [99999]), (.if_icmp .le 0, [174011]), (.aload 0, []), (.getfield 0, [11, 32]), (.goto 0, [174012])],
  [(.sipush 0, [10]), (.aload 0, []), (.getfield 0, [11, 32]), (.imul, []), (.aload 0, []), (.invokevirtual 0, [171, 1, 11]), (.iadd, []), (.sipush 0, [48]), (.isub, []), (.nop, [174012])],
  [(.putfield 0, [11, 32, 0]), (.aload 0, []), (.dup, []), (.getfield 0, [11, 29]), (.sipush 0, [1]), (.iadd, []), (.putfield 0, [11, 29, 0]), (.goto 0, [174010])],
  [(.aload 0, []), (.iload 1, []), (.invokevirtual 0, [175, 2, 11]), (.nop, [174014])],
  [(.return_, [])]]
def sr_m174 : List (List Bool) := [[true, false], [true, false], [true, false], [true, true], [true, false], [true, false], [true, false], [true, false], [true, false], [true, true], [true, false], [true, false], [true, false], [true, true], [false, false]]
def sr_p174 : List Nat := [0, 18, 31, 57, 64, 87, 108, 126, 127, 145, 162, 189, 204, 220, 225]
/-- 175: X12_sign -/
def sr_b175 : List (List sr_I) := [[(.aload 0, []), (.dup, []), (.getfield 0, [11, 29]), (.sipush 0, [1]), (.iadd, []), (.putfield 0, [11, 29, 0]), (.aload 0, []), (.iload 1, []), (.sipush 0, [59]), (.if_icmp .eq 0, [175001]), (.iload 1, []), (.sipush 0, [40]), (.if_icmp .eq 0, [175001]), (.iload 1, []), (.sipush 0, [41]), (.if_icmp .eq 0, [175001]), (.iload 1, []), (.sipush 0, [43]), (.if_icmp .eq 0, [175001]), (.iload 1, []), (.sipush 0, [45]), (.if_icmp .eq 0, [175001]), (.iload 1, []), (.sipush 0, [42]), (.if_icmp .eq 0, [175001]), (.iload 1, []), (.sipush 0, [47]), (.if_icmp .eq 0, [175001]), (.iload 1, []), (.sipush 0, [60]), (.if_icmp .eq 0, [175001]), (.iload 1, []), (.sipush 0, [61]), (.if_icmp .eq 0, [175001]), (.iload 1, []), (.sipush 0, [62]), (.if_icmp .ne 0, [175002]), (.nop, [175001])],
  [(.sipush 0, [3]), (.goto 0, [175003])],
  [(.sipush 0, [5]), (.nop, [175003])],
  [(.putfield 0, [11, 31, 0]), (.aload 0, []), (.iload 1, []), (.putfield 0, [11, 32, 0]), (.iload 1, []), (.sipush 0, [60]), (.if_icmp .ne 0, [175004]), (.aload 0, []), (.invokevirtual 0, [171, 1, 11]), (.sipush 0, [61]), (.if_icmp .ne 0, [175004]), (.aload 0, []), (.sipush 0, [256]), (.putfield 0, [11, 32, 0]), (.nop, [175004])],
  [(.iload 1, []), (.sipush 0, [60]), (.if_icmp .ne 0, [175005]), (.aload 0, []), (.invokevirtual 0, [171, 1, 11]), (.sipush 0, [62]), (.if_icmp .ne 0, [175005]), (.aload 0, []), (.sipush 0, [257]), (.putfield 0, [11, 32, 0]), (.nop, [175005])],
  [(.iload 1, []), (.sipush 0, [62]), (.if_icmp .ne 0, [175006]), (.aload 0, []), (.invokevirtual 0, [171, 1, 11]), (.sipush 0, [61]), (.if_icmp .ne 0, [175006]), (.aload 0, []), (.sipush 0, [258]), (.putfield 0, [11, 32, 0]), (.nop, [175006])],
  [(.aload 0, []), (.getfield 0, [11, 32]), (.sipush 0, [256]), (.if_icmp .lt 0, [175007]), (.aload 0, []), (.dup, []), (.getfield 0, [11, 29]), (.sipush 0, [1]), (.iadd, []), (.putfield 0, [11, 29, 0]), (.nop, [175007])],
  [(.return_, [])]]
def sr_m175 : List (List Bool) := [[true, true], [true, true], [true, true], [true, true], [true, true], [true, true], [true, false], [false, false]]
def sr_p175 : List Nat := [0, 71, 75, 76, 106, 128, 150, 170]
/-- 176: X12_word -/
def sr_b176 : List (List sr_I) := [[(.sipush 0, [0]), (.istore 1, []), (.sipush 0, [0]), (.istore 2, []), (.nop, [176001])],
  [(.iload 2, []), (.ldc 0, [3]), (.invokevirtual 0, [8]), (.if_icmp .ge 0, [176006]), (.sipush 0, [0]), (.istore 3, []), (.nop, [176002])],
  [(.ldc 0, [3]), (.iload 2, []), (.iload 3, []), (.iadd, []), (.invokevirtual 0, [7]), (.sipush 0, [32]), (.if_icmp .eq 0, [176003]), (.aload 0, []), (.getfield 0, [11, 30]), (.iload 3, []), (.iadd, []), (.aload 0, []), (.getfield 0, [11, 29]), (.if_icmp .ge 0, [176003]), (.aload 0, []), (.getfield 0, [11, 1]), (.aload 0, []), (.getfield 0, [11, 30]), (.iload 3, []), (.iadd, []), (.iaload, []), (.ldc 0, [3]), (.iload 2, []), (.iload 3, []), (.iadd, []), (.invokevirtual 0, [7]), (.if_icmp .ne 0, [176003]), (.iinc 3 0, [1]), (.goto 0, [176002])],
  [(.ldc 0, [3]), (.iload 2, []), (.iload 3, []), (.iadd, []), (.invokevirtual 0, [7]), (.sipush 0, [32]), (.if_icmp .ne 0, [176004]), (.aload 0, []), (.getfield 0, [11, 30]), (.iload 3, []), (.iadd, []), (.aload 0, []), (.getfield 0, [11, 29]), (.if_icmp .ne 0, [176004]), (.iload 1, []), (.ireturn, [])],
  [(.ldc 0, [3]), (.iload 2, []), (.invokevirtual 0, [7]), (.sipush 0, [32]), (.if_icmp .eq 0, [176005]), (.iinc 2 0, [1]), (.goto 0, [176004])],
  [(.iinc 2 0, [1]), (.iinc 1 0, [1]), (.goto 0, [176001])],
  [(.sipush 0, [1, 0]), (.ireturn, [])]]
def sr_m176 : List (List Bool) := [[true, false, false, false], [true, true, true, false], [true, true, true, true], [true, true, true, true], [true, true, true, false], [true, true, true, false], [false, false, false, false]]
def sr_p176 : List Nat := [0, 4, 15, 69, 97, 114, 123]
/-- 177: X12_name -/
def sr_b177 : List (List sr_I) := [[(.aload 0, []), (.sipush 0, [0]), (.putfield 0, [11, 32, 0]), (.sipush 0, [0]), (.istore 1, []), (.nop, [177001])],
  [(.iload 1, []), (.sipush 0, [6]), (.if_icmp .ge 0, [177004]), (.aload 0, []), (.aload 0, []), (.getfield 0, [11, 32]), (.sipush 0, [5]), (.ishl, []), (.aload 0, []), (.getfield 0, [11, 30]), (.iload 1, []), (.iadd, []), (.aload 0, []), (.getfield 0, [11, 29]), (.if_icmp .ge 0, [177002]), (.aload 0, []), (.getfield 0, [11, 1]), (.aload 0, []), (.getfield 0, [11, 30]), (.iload 1, []), (.iadd, []), (.iaload, []), (.sipush 0, [97]), (.isub, []), (.sipush 0, [1]), (.iadd, []), (.goto 0, [177003])],
  [(.sipush 0, [0]), (.nop, [177003])],
  [(.ior, []), (.putfield 0, [11, 32, 0]), (.iinc 1 0, [1]), (.goto 0, [177001])],
  [(.return_, [])]]
def sr_m177 : List (List Bool) := [[true, false], [true, true], [true, true], [true, true], [false, false]]
def sr_p177 : List Nat := [0, 7, 52, 53, 63]
/-- 178: X12_wrong -/
def sr_b178 : List (List sr_I) := [[(.aload 0, []), (.getfield 0, [11, 33]), (.ifCond .eq 0, [178001]), (.return_, [])],
  [(.aload 0, []), (.iload 1, []), (.putfield 0, [11, 33, 0]), (.aload 0, []), (.aload 0, []), (.getfield 0, [11, 30]), (.putfield 0, [11, 34, 0]), (.return_, [])]]
def sr_m178 : List (List Bool) := [[true, true], [true, true]]
def sr_p178 : List Nat := [0, 8]
/-- 179: X12_isWord -/
def sr_b179 : List (List sr_I) := [[(.aload 0, []), (.getfield 0, [11, 33]), (.ifCond .ne 0, [179001]), (.aload 0, []), (.getfield 0, [11, 31]), (.ifCond .ne 0, [179001]), (.aload 0, []), (.getfield 0, [11, 32]), (.iload 1, []), (.if_icmp .ne 0, [179001]), (.sipush 0, [1]), (.goto 0, [179002])],
  [(.sipush 0, [0]), (.nop, [179002])],
  [(.ireturn, [1])]]
def sr_m179 : List (List Bool) := [[true, true], [false, false], [false, false]]
def sr_p179 : List Nat := [0, 26, 27]
/-- 180: X12_isSign -/
def sr_b180 : List (List sr_I) := [[(.aload 0, []), (.getfield 0, [11, 33]), (.ifCond .ne 0, [180001]), (.aload 0, []), (.getfield 0, [11, 31]), (.sipush 0, [3]), (.if_icmp .ne 0, [180001]), (.aload 0, []), (.getfield 0, [11, 32]), (.iload 1, []), (.if_icmp .ne 0, [180001]), (.sipush 0, [1]), (.goto 0, [180002])],
  [(.sipush 0, [0]), (.nop, [180002])],
  [(.ireturn, [1])]]
def sr_m180 : List (List Bool) := [[true, true], [false, false], [false, false]]
def sr_p180 : List Nat := [0, 27, 28]
/-- 181: X12_goOn -/
def sr_b181 : List (List sr_I) := [[(.aload 0, []), (.getfield 0, [11, 33]), (.ifCond .ne 0, [181001]), (.aload 0, []), (.invokevirtual 0, [174, 1, 11]), (.nop, [181001])],
  [(.return_, [])]]
def sr_m181 : List (List Bool) := [[true], [false]]
def sr_p181 : List Nat := [0, 11]
/-- 182: X12_numeral -/
def sr_b182 : List (List sr_I) := [[(.aload 0, []), (.getfield 0, [11, 33]), (.ifCond .eq 0, [182001]), (.iload 1, []), (.ireturn, [])],
  [(.aload 0, []), (.getfield 0, [11, 31]), (.sipush 0, [2]), (.if_icmp .eq 0, [182002]), (.aload 0, []), (.sipush 0, [1]), (.invokevirtual 0, [178, 2, 11]), (.goto 0, [182004])],
  [(.aload 0, []), (.getfield 0, [11, 32]), (.iload 1, []), (.if_icmp .lt 0, [182003]), (.aload 0, []), (.getfield 0, [11, 32]), (.iload 2, []), (.if_icmp .le 0, [182004]), (.nop, [182003])],
  [(.aload 0, []), (.sipush 0, [2]), (.invokevirtual 0, [178, 2, 11]), (.nop, [182004])],
  [(.aload 0, []), (.getfield 0, [11, 33]), (.ifCond .eq 0, [182005]), (.iload 1, []), (.ireturn, [])],
  [(.aload 0, []), (.getfield 0, [11, 32]), (.istore 3, []), (.aload 0, []), (.invokevirtual 0, [174, 1, 11]), (.iload 3, []), (.ireturn, [])]]
def sr_m182 : List (List Bool) := [[true, true, true, false], [true, true, true, false], [true, true, true, false], [true, true, false, false], [true, true, false, false], [true, false, false, false]]
def sr_p182 : List Nat := [0, 9, 25, 41, 46, 55]
/-- 183: X12_found -/
def sr_b183 : List (List sr_I) := [[(.sipush 0, [0]), (.istore 4, []), (.nop, [183001])],
  [(.iload 4, []), (.iload 2, []), (.if_icmp .ge 0, [183003]), (.aload 0, []), (.iload 1, []), (.iload 4, []), (.iadd, []), (.iaload, []), (.iload 3, []), (.if_icmp .ne 0, [183002]), (.iload 4, []), (.ireturn, [])],
  [(.iinc 4 0, [1]), (.goto 0, [183001])],
  [(.sipush 0, [1, 0]), (.ireturn, [])]]
def sr_m183 : List (List Bool) := [[true, true, true, true, false], [true, true, true, true, true], [true, true, true, true, true], [false, false, false, false, false]]
def sr_p183 : List Nat := [0, 3, 22, 28]
/-- 184: X12_fresh -/
def sr_b184 : List (List sr_I) := [[(.aload 0, []), (.getfield 0, [11, 33]), (.ifCond .eq 0, [184001]), (.sipush 0, [0]), (.ireturn, [])],
  [(.aload 0, []), (.getfield 0, [11, 31]), (.sipush 0, [1]), (.if_icmp .eq 0, [184002]), (.aload 0, []), (.sipush 0, [1]), (.invokevirtual 0, [178, 2, 11]), (.goto 0, [184003])],
  [(.aload 1, []), (.iload 2, []), (.iload 3, []), (.aload 0, []), (.getfield 0, [11, 32]), (.invokestatic 0, [183, 4]), (.sipush 0, [1, 0]), (.if_icmp .eq 0, [184003]), (.aload 0, []), (.sipush 0, [3]), (.invokevirtual 0, [178, 2, 11]), (.nop, [184003])],
  [(.aload 0, []), (.getfield 0, [11, 33]), (.ifCond .eq 0, [184004]), (.sipush 0, [0]), (.ireturn, [])],
  [(.aload 0, []), (.getfield 0, [11, 32]), (.istore 4, []), (.aload 0, []), (.invokevirtual 0, [174, 1, 11]), (.iload 4, []), (.ireturn, [])]]
def sr_m184 : List (List Bool) := [[true, true, true, true, false], [true, true, true, true, false], [true, true, true, true, false], [true, false, false, false, false], [true, false, false, false, false]]
def sr_p184 : List Nat := [0, 9, 25, 44, 53]
/-- 185: X12_fresher -/
def sr_b185 : List (List sr_I) := [[(.aload 0, []), (.getfield 0, [11, 3]), (.sipush 0, [9]), (.iload 1, []), (.iadd, []), (.iaload, []), (.ireturn, [])]]
def sr_m185 : List (List Bool) := [[true, true]]
def sr_p185 : List Nat := [0]
/-- 186: X12_reads -/
def sr_b186 : List (List sr_I) := [[(.aload 0, []), (.getfield 0, [11, 3]), (.sipush 0, [9]), (.iload 1, []), (.iadd, []), (.iload 2, []), (.iastore, []), (.return_, [])]]
def sr_m186 : List (List Bool) := [[true, true, true]]
def sr_p186 : List Nat := [0]
/-- 187: X12_toldAhead -/
def sr_b187 : List (List sr_I) := [[(.aload 0, []), (.getfield 0, [11, 33]), (.ifCond .eq 0, [187001]), (.sipush 0, [0]), (.ireturn, [])],
  [(.aload 0, []), (.getfield 0, [11, 31]), (.sipush 0, [1]), (.if_icmp .eq 0, [187002]), (.aload 0, []), (.sipush 0, [1]), (.invokevirtual 0, [178, 2, 11]), (.nop, [187002])],
  [(.aload 0, []), (.getfield 0, [11, 33]), (.ifCond .ne 0, [187003]), (.aload 1, []), (.iload 2, []), (.iload 3, []), (.aload 0, []), (.getfield 0, [11, 32]), (.invokestatic 0, [183, 4]), (.goto 0, [187004])],
  [(.sipush 0, [0]), (.nop, [187004])],
  [(.istore 4, []), (.aload 0, []), (.getfield 0, [11, 33]), (.ifCond .ne 0, [187005]), (.iload 4, []), (.sipush 0, [1, 0]), (.if_icmp .ne 0, [187005]), (.aload 0, []), (.sipush 0, [4]), (.invokevirtual 0, [178, 2, 11]), (.nop, [187005])],
  [(.aload 0, []), (.invokevirtual 0, [181, 1, 11]), (.aload 0, []), (.getfield 0, [11, 33]), (.ifCond .eq 0, [187006]), (.sipush 0, [0]), (.goto 0, [187007])],
  [(.iload 4, []), (.nop, [187007])],
  [(.ireturn, [])]]
def sr_m187 : List (List Bool) := [[true, true, true, true, false], [true, true, true, true, false], [true, true, true, true, false], [true, false, false, false, false], [true, false, false, false, false], [true, false, false, false, true], [false, false, false, false, true], [false, false, false, false, false]]
def sr_p187 : List Nat := [0, 9, 22, 42, 43, 63, 78, 80]
/-- 188: X12_isFull -/
def sr_b188 : List (List sr_I) := [[(.iload 1, []), (.tableswitch 0 1 4 #[], [188013, 188001, 188004, 188007, 188010])],
  [(.aload 0, []), (.sipush 0, [2]), (.invokevirtual 0, [185, 2, 11]), (.sipush 0, [5]), (.if_icmp .ne 0, [188002]), (.sipush 0, [1]), (.goto 0, [188003])],
  [(.sipush 0, [0]), (.nop, [188003])],
  [(.ireturn, [1])],
  [(.aload 0, []), (.sipush 0, [3]), (.invokevirtual 0, [185, 2, 11]), (.sipush 0, [6]), (.if_icmp .ne 0, [188005]), (.sipush 0, [1]), (.goto 0, [188006])],
  [(.sipush 0, [0]), (.nop, [188006])],
  [(.ireturn, [1])],
  [(.aload 0, []), (.sipush 0, [4]), (.invokevirtual 0, [185, 2, 11]), (.sipush 0, [10]), (.if_icmp .ne 0, [188008]), (.sipush 0, [1]), (.goto 0, [188009])],
  [(.sipush 0, [0]), (.nop, [188009])],
  [(.ireturn, [1])],
  [(.aload 0, []), (.sipush 0, [5]), (.invokevirtual 0, [185, 2, 11]), (.sipush 0, [12]), (.if_icmp .ne 0, [188011]), (.sipush 0, [1]), (.goto 0, [188012])],
  [(.sipush 0, [0]), (.nop, [188012])],
  [(.ireturn, [1])],
  [(.sipush 0, [0]), (.ireturn, [1])]]
def sr_m188 : List (List Bool) := [[true, true], [true, false], [false, false], [false, false], [true, false], [false, false], [false, false], [true, false], [false, false], [false, false], [true, false], [false, false], [false, false], [false, false]]
def sr_p188 : List Nat := [0, 32, 45, 46, 47, 61, 62, 63, 77, 78, 79, 93, 94, 95]
/-- 189: X12_isOnce -/
def sr_b189 : List (List sr_I) := [[(.iload 0, []), (.ifCond .eq 0, [189001]), (.iload 0, []), (.sipush 0, [5]), (.if_icmp .eq 0, [189001]), (.iload 0, []), (.sipush 0, [6]), (.if_icmp .ne 0, [189002]), (.nop, [189001])],
  [(.sipush 0, [1]), (.goto 0, [189003])],
  [(.sipush 0, [0]), (.nop, [189003])],
  [(.ireturn, [1])]]
def sr_m189 : List (List Bool) := [[true], [false], [false], [false]]
def sr_p189 : List Nat := [0, 15, 19, 20]
/-- 190: X12_line -/
def sr_b190 : List (List sr_I) := [[(.aload 0, []), (.getfield 0, [11, 31]), (.ifCond .ne 0, [190001]), (.aload 0, []), (.getfield 0, [11, 32]), (.sipush 0, [7]), (.if_icmp .gt 0, [190001]), (.aload 0, []), (.getfield 0, [11, 32]), (.ifCond .ne 0, [190002]), (.aload 0, []), (.sipush 0, [2]), (.invokevirtual 0, [185, 2, 11]), (.aload 0, []), (.sipush 0, [3]), (.invokevirtual 0, [185, 2, 11]), (.iadd, []), (.ifCond .le 0, [190002]), (.nop, [190001])],
  [(.aload 0, []), (.sipush 0, [1]), (.invokevirtual 0, [178, 2, 11]), (.return_, [])],
  [(.aload 0, []), (.getfield 0, [11, 32]), (.istore 1, []), (.aload 0, []), (.iload 1, []), (.invokevirtual 0, [188, 2, 11]), (.ifCond .eq 0, [190003]), (.aload 0, []), (.sipush 0, [2]), (.invokevirtual 0, [178, 2, 11]), (.goto 0, [190004])],
  [(.iload 1, []), (.invokestatic 0, [189, 1]), (.ifCond .eq 0, [190004]), (.aload 0, []), (.getfield 0, [11, 26]), (.iload 1, []), (.ishr, []), (.sipush 0, [1]), (.iand, []), (.sipush 0, [1]), (.if_icmp .ne 0, [190004]), (.aload 0, []), (.sipush 0, [3]), (.invokevirtual 0, [178, 2, 11]), (.nop, [190004])],
  [(.aload 0, []), (.getfield 0, [11, 33]), (.ifCond .eq 0, [190005]), (.return_, [])],
  [(.aload 0, []), (.dup, []), (.getfield 0, [11, 26]), (.sipush 0, [1]), (.iload 1, []), (.ishl, []), (.ior, []), (.putfield 0, [11, 26, 0]), (.aload 0, []), (.invokevirtual 0, [174, 1, 11]), (.iload 1, []), (.tableswitch 0 0 6 #[], [190013, 190006, 190007, 190008, 190009, 190010, 190011, 190012])],
  [(.aload 0, []), (.sipush 0, [0]), (.aload 0, []), (.sipush 0, [1]), (.sipush 0, [8]), (.invokevirtual 0, [182, 3, 11]), (.invokevirtual 0, [186, 3, 11]), (.aload 0, []), (.sipush 0, [1]), (.aload 0, []), (.sipush 0, [1]), (.sipush 0, [8]), (.invokevirtual 0, [182, 3, 11]), (.invokevirtual 0, [186, 3, 11]), (.goto 0, [190014])],
  [(.aload 0, []), (.sipush 0, [5]), (.aload 0, []), (.sipush 0, [2]), (.invokevirtual 0, [185, 2, 11]), (.iadd, []), (.invokevirtual 0, [193, 2, 11]), (.goto 0, [190014])],
  [(.sipush 0, [6]), (.aload 0, []), (.sipush 0, [3]), (.invokevirtual 0, [185, 2, 11]), (.iadd, []), (.istore 2, []), (.aload 0, []), (.getfield 0, [11, 10]), (.iload 2, []), (.aload 0, []), (.aload 0, []), (.getfield 0, [11, 10]), (.sipush 0, [6]), (.aload 0, []), (.sipush 0, [3]), (.invokevirtual 0, [185, 2, 11]), (.invokevirtual 0, [184, 4, 11]), (.iastore, []), (.aload 0, []), (.getfield 0, [11, 11]), (.iload 2, []), (.aload 0, []), (.sipush 0, [0]), (.sipush 0, [99]), (.invokevirtual 0, [182, 3, 11]), (.iastore, []), (.aload 0, []), (.getfield 0, [11, 12]), (.iload 2, []), (.aload 0, []), (.sipush 0, [0]), (.aload 0, []), (.sipush 0, [0]), (.invokevirtual 0, [185, 2, 11]), (.sipush 0, [1]), (.isub, []), (.invokevirtual 0, [182, 3, 11]), (.iastore, []), (.aload 0, []), (.getfield 0, [11, 13]), (.iload 2, []), (.aload 0, []), (.sipush 0, [0]), (.aload 0, []), (.sipush 0, [1]), (.invokevirtual 0, [185, 2, 11]), (.sipush 0, [1]), (.isub, []), (.invokevirtual 0, [182, 3, 11]), (.iastore, []), (.aload 0, []), (.getfield 0, [11, 14]), (.iload 2, []), (.aload 0, []), (.sipush 0, [0]), (.sipush 0, [3]), (.invokevirtual 0, [182, 3, 11]), (.iastore, []), (.aload 0, []), (.sipush 0, [3]), (.aload 0, []), (.sipush 0, [3]), (.invokevirtual 0, [185, 2, 11]), (.sipush 0, [1]), (.iadd, []), (.invokevirtual 0, [186, 3, 11]), (.goto 0, [190014])],
  [(.sipush 0, [10]), (.aload 0, []), (.sipush 0, [4]), (.invokevirtual 0, [185, 2, 11]), (.iadd, []), (.istore 3, []), (.aload 0, []), (.getfield 0, [11, 15]), (.iload 3, []), (.aload 0, []), (.aload 0, []), (.getfield 0, [11, 4]), (.sipush 0, [5]), (.aload 0, []), (.sipush 0, [2]), (.invokevirtual 0, [185, 2, 11]), (.invokevirtual 0, [187, 4, 11]), (.iastore, []), (.aload 0, []), (.getfield 0, [11, 16]), (.iload 3, []), (.aload 0, []), (.sipush 0, [0]), (.sipush 0, [99]), (.invokevirtual 0, [182, 3, 11]), (.iastore, []), (.aload 0, []), (.getfield 0, [11, 17]), (.iload 3, []), (.aload 0, []), (.sipush 0, [0]), (.sipush 0, [7]), (.invokevirtual 0, [182, 3, 11]), (.iastore, []), (.aload 0, []), (.getfield 0, [11, 18]), (.iload 3, []), (.aload 0, []), (.sipush 0, [0]), (.sipush 0, [7]), (.invokevirtual 0, [182, 3, 11]), (.iastore, []), (.aload 0, []), (.sipush 0, [4]), (.aload 0, []), (.sipush 0, [4]), (.invokevirtual 0, [185, 2, 11]), (.sipush 0, [1]), (.iadd, []), (.invokevirtual 0, [186, 3, 11]), (.goto 0, [190014])],
  [(.sipush 0, [12]), (.aload 0, []), (.sipush 0, [5]), (.invokevirtual 0, [185, 2, 11]), (.iadd, []), (.istore 4, []), (.aload 0, []), (.getfield 0, [11, 19]), (.iload 4, []), (.aload 0, []), (.aload 0, []), (.getfield 0, [11, 10]), (.sipush 0, [6]), (.aload 0, []), (.sipush 0, [3]), (.invokevirtual 0, [185, 2, 11]), (.invokevirtual 0, [187, 4, 11]), (.iastore, []), (.aload 0, []), (.getfield 0, [11, 20]), (.iload 4, []), (.aload 0, []), (.sipush 0, [0]), (.sipush 0, [99]), (.invokevirtual 0, [182, 3, 11]), (.iastore, []), (.aload 0, []), (.getfield 0, [11, 21]), (.iload 4, []), (.aload 0, []), (.sipush 0, [0]), (.sipush 0, [3]), (.invokevirtual 0, [182, 3, 11]), (.iastore, []), (.aload 0, []), (.sipush 0, [5]), (.aload 0, []), (.sipush 0, [5]), (.invokevirtual 0, [185, 2, 11]), (.sipush 0, [1]), (.iadd, []), (.invokevirtual 0, [186, 3, 11]), (.goto 0, [190014])],
  [(.aload 0, []), (.sipush 0, [6]), (.aload 0, []), (.sipush 0, [0]), (.sipush 0, [100]), (.invokevirtual 0, [182, 3, 11]), (.invokevirtual 0, [186, 3, 11]), (.goto 0, [190014])],
  [(.aload 0, []), (.sipush 0, [7]), (.aload 0, []), (.sipush 0, [0]), (.sipush 0, [99999]), (.invokevirtual 0, [182, 3, 11]), (.invokevirtual 0, [186, 3, 11]), (.goto 0, [190014])],
  [(.aload 0, []), (.invokevirtual 0, [194, 1, 11]), (.nop, [190014])],
  [(.aload 0, []), (.getfield 0, [11, 33]), (.ifCond .eq 0, [190015]), (.return_, [])],
  [(.aload 0, []), (.sipush 0, [59]), (.invokevirtual 0, [180, 2, 11]), (.ifCond .ne 0, [190016]), (.aload 0, []), (.sipush 0, [1]), (.invokevirtual 0, [178, 2, 11]), (.goto 0, [190017])],
  [(.aload 0, []), (.invokevirtual 0, [174, 1, 11]), (.nop, [190017])],
  [(.aload 0, []), (.dup, []), (.getfield 0, [11, 27]), (.sipush 0, [1]), (.iadd, []), (.putfield 0, [11, 27, 0]), (.return_, [])]]
def sr_m190 : List (List Bool) := [[true, false, false, false, false], [true, false, false, false, false], [true, false, false, false, false], [true, true, false, false, false], [true, true, false, false, false], [true, true, false, false, false], [true, false, false, false, false], [true, false, false, false, false], [true, false, false, false, false], [true, false, false, false, false], [true, false, false, false, false], [true, false, false, false, false], [true, false, false, false, false], [true, false, false, false, false], [true, false, false, false, false], [true, false, false, false, false], [true, false, false, false, false], [true, false, false, false, false]]
def sr_p190 : List Nat := [0, 37, 43, 64, 88, 96, 156, 183, 197, 303, 386, 460, 476, 492, 496, 504, 521, 525]
/-- 191: X12_isOn -/
def sr_b191 : List (List sr_I) := [[(.aload 0, []), (.getfield 0, [11, 9]), (.iload 1, []), (.iaload, []), (.sipush 0, [1]), (.if_icmp .ne 0, [191001]), (.iload 2, []), (.aload 0, []), (.getfield 0, [11, 6]), (.iload 1, []), (.iaload, []), (.isub, []), (.goto 0, [191002])],
  [(.iload 3, []), (.aload 0, []), (.getfield 0, [11, 7]), (.iload 1, []), (.iaload, []), (.isub, []), (.nop, [191002])],
  [(.istore 4, []), (.iload 4, []), (.ifCond .lt 0, [191005]), (.iload 4, []), (.aload 0, []), (.getfield 0, [11, 8]), (.iload 1, []), (.iaload, []), (.if_icmp .ge 0, [191005]), (.aload 0, []), (.getfield 0, [11, 9]), (.iload 1, []), (.iaload, []), (.sipush 0, [1]), (.if_icmp .ne 0, [191003]), (.iload 3, []), (.aload 0, []), (.getfield 0, [11, 7]), (.iload 1, []), (.iaload, []), (.if_icmp .ne 0, [191005]), (.goto 0, [191004])],
  [(.iload 2, []), (.aload 0, []), (.getfield 0, [11, 6]), (.iload 1, []), (.iaload, []), (.if_icmp .ne 0, [191005]), (.nop, [191004])],
  [(.sipush 0, [1]), (.goto 0, [191006])],
  [(.sipush 0, [0]), (.nop, [191006])],
  [(.ireturn, [1])]]
def sr_m191 : List (List Bool) := [[true, true, true, true, false], [true, true, true, true, false], [true, true, true, true, false], [true, true, true, false, false], [false, false, false, false, false], [false, false, false, false, false], [false, false, false, false, false]]
def sr_p191 : List Nat := [0, 21, 29, 70, 80, 84, 85]
/-- 192: X12_isFitting -/
def sr_b192 : List (List sr_I) := [[(.sipush 0, [0]), (.istore 2, []), (.nop, [192001])],
  [(.iload 2, []), (.aload 0, []), (.getfield 0, [11, 8]), (.iload 1, []), (.iaload, []), (.if_icmp .ge 0, [192011]), (.aload 0, []), (.getfield 0, [11, 6]), (.iload 1, []), (.iaload, []), (.aload 0, []), (.getfield 0, [11, 9]), (.iload 1, []), (.iaload, []), (.sipush 0, [1]), (.if_icmp .ne 0, [192002]), (.iload 2, []), (.goto 0, [192003])],
  [(.sipush 0, [0]), (.nop, [192003])],
  [(.iadd, []), (.istore 3, []), (.aload 0, []), (.getfield 0, [11, 7]), (.iload 1, []), (.iaload, []), (.aload 0, []), (.getfield 0, [11, 9]), (.iload 1, []), (.iaload, []), (.sipush 0, [1]), (.if_icmp .ne 0, [192004]), (.sipush 0, [0]), (.goto 0, [192005])],
  [(.iload 2, []), (.nop, [192005])],
  [(.iadd, []), (.istore 4, []), (.iload 3, []), (.aload 0, []), (.sipush 0, [0]), (.invokevirtual 0, [185, 2, 11]), (.if_icmp .ge 0, [192006]), (.iload 4, []), (.aload 0, []), (.sipush 0, [1]), (.invokevirtual 0, [185, 2, 11]), (.if_icmp .lt 0, [192007]), (.nop, [192006])],
  [(.sipush 0, [0]), (.ireturn, [1])],
  [(.sipush 0, [5]), (.istore 5, []), (.nop, [192008])],
  [(.iload 5, []), (.iload 1, []), (.if_icmp .ge 0, [192010]), (.aload 0, []), (.iload 5, []), (.iload 3, []), (.iload 4, []), (.invokevirtual 0, [191, 4, 11]), (.ifCond .eq 0, [192009]), (.sipush 0, [0]), (.ireturn, [1])],
  [(.iinc 5 0, [1]), (.goto 0, [192008])],
  [(.iinc 2 0, [1]), (.goto 0, [192001])],
  [(.sipush 0, [1]), (.ireturn, [1])]]
def sr_m192 : List (List Bool) := [[true, true, false, false, false, false], [true, true, true, false, false, false], [true, true, true, false, false, false], [true, true, true, false, false, false], [true, true, true, true, false, false], [true, true, true, true, false, false], [false, false, false, false, false, false], [true, true, true, true, true, false], [true, true, true, true, true, true], [true, true, true, true, true, true], [true, true, true, false, false, false], [false, false, false, false, false, false]]
def sr_p192 : List Nat := [0, 2, 32, 33, 55, 56, 78, 80, 83, 103, 109, 115]
/-- 193: X12_screenLine -/
def sr_b193 : List (List sr_I) := [[(.aload 0, []), (.getfield 0, [11, 4]), (.iload 1, []), (.aload 0, []), (.aload 0, []), (.getfield 0, [11, 4]), (.sipush 0, [5]), (.aload 0, []), (.sipush 0, [2]), (.invokevirtual 0, [185, 2, 11]), (.invokevirtual 0, [184, 4, 11]), (.iastore, []), (.aload 0, []), (.getfield 0, [11, 5]), (.iload 1, []), (.aload 0, []), (.sipush 0, [0]), (.sipush 0, [3]), (.invokevirtual 0, [182, 3, 11]), (.iastore, []), (.aload 0, []), (.getfield 0, [11, 6]), (.iload 1, []), (.aload 0, []), (.sipush 0, [0]), (.aload 0, []), (.sipush 0, [0]), (.invokevirtual 0, [185, 2, 11]), (.sipush 0, [1]), (.isub, []), (.invokevirtual 0, [182, 3, 11]), (.iastore, []), (.aload 0, []), (.getfield 0, [11, 7]), (.iload 1, []), (.aload 0, []), (.sipush 0, [0]), (.aload 0, []), (.sipush 0, [1]), (.invokevirtual 0, [185, 2, 11]), (.sipush 0, [1]), (.isub, []), (.invokevirtual 0, [182, 3, 11]), (.iastore, []), (.aload 0, []), (.getfield 0, [11, 8]), (.iload 1, []), (.aload 0, []), (.sipush 0, [1]), (.sipush 0, [4]), (.invokevirtual 0, [182, 3, 11]), (.iastore, []), (.aload 0, []), (.getfield 0, [11, 33]), (.ifCond .ne 0, [193001]), (.aload 0, []), (.getfield 0, [11, 31]), (.sipush 0, [2]), (.if_icmp .ne 0, [193001]), (.aload 0, []), (.getfield 0, [11, 32]), (.sipush 0, [1]), (.if_icmp .gt 0, [193001]), (.sipush 0, [1]), (.goto 0, [193002])],
  [(.sipush 0, [0]), (.nop, [193002])],
  [(.istore 2, []), (.iload 2, []), (.ifCond .eq 0, [193003]), (.aload 0, []), (.getfield 0, [11, 9]), (.iload 1, []), (.aload 0, []), (.getfield 0, [11, 32]), (.iastore, []), (.nop, [193003])],
  [(.iload 2, []), (.ifCond .eq 0, [193004]), (.aload 0, []), (.iload 1, []), (.invokevirtual 0, [192, 2, 11]), (.ifCond .ne 0, [193004]), (.aload 0, []), (.sipush 0, [5]), (.invokevirtual 0, [178, 2, 11]), (.nop, [193004])],
  [(.aload 0, []), (.getfield 0, [11, 9]), (.iload 1, []), (.aload 0, []), (.sipush 0, [0]), (.sipush 0, [1]), (.invokevirtual 0, [182, 3, 11]), (.iastore, []), (.aload 0, []), (.sipush 0, [2]), (.aload 0, []), (.sipush 0, [2]), (.invokevirtual 0, [185, 2, 11]), (.sipush 0, [1]), (.iadd, []), (.invokevirtual 0, [186, 3, 11]), (.return_, [])]]
def sr_m193 : List (List Bool) := [[true, true, false], [true, true, false], [true, true, false], [true, true, true], [true, true, false]]
def sr_p193 : List Nat := [0, 107, 108, 123, 140]
/-- 194: X12_lawLine -/
def sr_b194 : List (List sr_I) := [[(.aload 0, []), (.getfield 0, [11, 31]), (.ifCond .ne 0, [194001]), (.aload 0, []), (.getfield 0, [11, 32]), (.sipush 0, [8]), (.if_icmp .lt 0, [194001]), (.aload 0, []), (.getfield 0, [11, 32]), (.sipush 0, [10]), (.if_icmp .le 0, [194002]), (.nop, [194001])],
  [(.aload 0, []), (.sipush 0, [1]), (.invokevirtual 0, [178, 2, 11]), (.nop, [194002])],
  [(.aload 0, []), (.getfield 0, [11, 32]), (.sipush 0, [8]), (.isub, []), (.istore 1, []), (.aload 0, []), (.getfield 0, [11, 33]), (.ifCond .ne 0, [194003]), (.aload 0, []), (.getfield 0, [11, 26]), (.sipush 0, [16]), (.iload 1, []), (.iadd, []), (.ishr, []), (.sipush 0, [1]), (.iand, []), (.sipush 0, [1]), (.if_icmp .ne 0, [194003]), (.aload 0, []), (.sipush 0, [3]), (.invokevirtual 0, [178, 2, 11]), (.nop, [194003])],
  [(.aload 0, []), (.getfield 0, [11, 33]), (.ifCond .eq 0, [194004]), (.return_, [])],
  [(.aload 0, []), (.dup, []), (.getfield 0, [11, 26]), (.sipush 0, [1]), (.sipush 0, [16]), (.iload 1, []), (.iadd, []), (.ishl, []), (.ior, []), (.putfield 0, [11, 26, 0]), (.aload 0, []), (.invokevirtual 0, [174, 1, 11]), (.aload 0, []), (.getfield 0, [11, 22]), (.sipush 0, [3]), (.iload 1, []), (.iadd, []), (.aload 0, []), (.sipush 0, [8]), (.invokevirtual 0, [185, 2, 11]), (.iastore, []), (.aload 0, []), (.invokevirtual 0, [197, 1, 11]), (.aload 0, []), (.getfield 0, [11, 23]), (.sipush 0, [3]), (.iload 1, []), (.iadd, []), (.aload 0, []), (.sipush 0, [8]), (.invokevirtual 0, [185, 2, 11]), (.iastore, []), (.return_, [])]]
def sr_m194 : List (List Bool) := [[true, false], [true, false], [true, false], [true, true], [true, true]]
def sr_p194 : List Nat := [0, 25, 30, 65, 73]
/-- 195: X12_puts -/
def sr_b195 : List (List sr_I) := [[(.aload 0, []), (.getfield 0, [11, 33]), (.ifCond .eq 0, [195001]), (.return_, [])],
  [(.aload 0, []), (.getfield 0, [11, 24]), (.sipush 0, [64]), (.aload 0, []), (.sipush 0, [8]), (.invokevirtual 0, [185, 2, 11]), (.iadd, []), (.iload 1, []), (.iastore, []), (.aload 0, []), (.getfield 0, [11, 25]), (.sipush 0, [64]), (.aload 0, []), (.sipush 0, [8]), (.invokevirtual 0, [185, 2, 11]), (.iadd, []), (.iload 2, []), (.iastore, []), (.aload 0, []), (.sipush 0, [8]), (.aload 0, []), (.sipush 0, [8]), (.invokevirtual 0, [185, 2, 11]), (.sipush 0, [1]), (.iadd, []), (.invokevirtual 0, [186, 3, 11]), (.return_, [])]]
def sr_m195 : List (List Bool) := [[true, true, true], [true, true, true]]
def sr_p195 : List Nat := [0, 8]
/-- 196: X12_knot -/
def sr_b196 : List (List sr_I) := [[(.aload 0, []), (.getfield 0, [11, 33]), (.ifCond .eq 0, [196001]), (.return_, [])],
  [(.aload 0, []), (.getfield 0, [11, 38]), (.sipush 0, [64]), (.if_icmp .ne 0, [196002]), (.aload 0, []), (.sipush 0, [2]), (.invokevirtual 0, [178, 2, 11]), (.goto 0, [196003])],
  [(.aload 0, []), (.dup, []), (.getfield 0, [11, 38]), (.sipush 0, [1]), (.iadd, []), (.putfield 0, [11, 38, 0]), (.nop, [196003])],
  [(.return_, [])]]
def sr_m196 : List (List Bool) := [[true], [true], [true], [false]]
def sr_p196 : List Nat := [0, 8, 25, 35]
/-- 197: X12_expression -/
def sr_b197 : List (List sr_I) := [[(.aload 0, []), (.invokevirtual 0, [198, 1, 11]), (.nop, [197001])],
  [(.aload 0, []), (.sipush 0, [11]), (.invokevirtual 0, [179, 2, 11]), (.ifCond .eq 0, [197002]), (.aload 0, []), (.invokevirtual 0, [196, 1, 11]), (.aload 0, []), (.invokevirtual 0, [181, 1, 11]), (.aload 0, []), (.invokevirtual 0, [198, 1, 11]), (.aload 0, []), (.sipush 0, [2]), (.sipush 0, [262]), (.invokevirtual 0, [195, 3, 11]), (.goto 0, [197001])],
  [(.return_, [])]]
def sr_m197 : List (List Bool) := [[true], [true], [false]]
def sr_p197 : List Nat := [0, 4, 36]
/-- 198: X12_conjunction -/
def sr_b198 : List (List sr_I) := [[(.aload 0, []), (.invokevirtual 0, [199, 1, 11]), (.nop, [198001])],
  [(.aload 0, []), (.sipush 0, [12]), (.invokevirtual 0, [179, 2, 11]), (.ifCond .eq 0, [198002]), (.aload 0, []), (.invokevirtual 0, [196, 1, 11]), (.aload 0, []), (.invokevirtual 0, [181, 1, 11]), (.aload 0, []), (.invokevirtual 0, [199, 1, 11]), (.aload 0, []), (.sipush 0, [2]), (.sipush 0, [261]), (.invokevirtual 0, [195, 3, 11]), (.goto 0, [198001])],
  [(.return_, [])]]
def sr_m198 : List (List Bool) := [[true], [true], [false]]
def sr_p198 : List Nat := [0, 4, 36]
/-- 199: X12_negation -/
def sr_b199 : List (List sr_I) := [[(.aload 0, []), (.sipush 0, [13]), (.invokevirtual 0, [179, 2, 11]), (.ifCond .eq 0, [199001]), (.aload 0, []), (.invokevirtual 0, [196, 1, 11]), (.aload 0, []), (.invokevirtual 0, [181, 1, 11]), (.aload 0, []), (.invokevirtual 0, [199, 1, 11]), (.aload 0, []), (.sipush 0, [2]), (.sipush 0, [260]), (.invokevirtual 0, [195, 3, 11]), (.return_, [])],
  [(.aload 0, []), (.invokevirtual 0, [200, 1, 11]), (.aload 0, []), (.getfield 0, [11, 33]), (.ifCond .ne 0, [199002]), (.aload 0, []), (.getfield 0, [11, 31]), (.sipush 0, [3]), (.if_icmp .ne 0, [199002]), (.aload 0, []), (.getfield 0, [11, 32]), (.sipush 0, [60]), (.if_icmp .eq 0, [199003]), (.aload 0, []), (.getfield 0, [11, 32]), (.sipush 0, [62]), (.if_icmp .eq 0, [199003]), (.aload 0, []), (.getfield 0, [11, 32]), (.sipush 0, [61]), (.if_icmp .eq 0, [199003]), (.aload 0, []), (.getfield 0, [11, 32]), (.sipush 0, [256]), (.if_icmp .ge 0, [199003]), (.nop, [199002])],
  [(.return_, [])],
  [(.aload 0, []), (.getfield 0, [11, 32]), (.istore 1, []), (.aload 0, []), (.invokevirtual 0, [196, 1, 11]), (.aload 0, []), (.invokevirtual 0, [181, 1, 11]), (.aload 0, []), (.invokevirtual 0, [200, 1, 11]), (.aload 0, []), (.sipush 0, [2]), (.iload 1, []), (.invokevirtual 0, [195, 3, 11]), (.return_, [])]]
def sr_m199 : List (List Bool) := [[true, false], [true, false], [false, false], [true, false]]
def sr_p199 : List Nat := [0, 30, 86, 87]
/-- 200: X12_sum -/
def sr_b200 : List (List sr_I) := [[(.aload 0, []), (.invokevirtual 0, [201, 1, 11]), (.nop, [200001])],
  [(.aload 0, []), (.sipush 0, [43]), (.invokevirtual 0, [180, 2, 11]), (.ifCond .ne 0, [200002]), (.aload 0, []), (.sipush 0, [45]), (.invokevirtual 0, [180, 2, 11]), (.ifCond .eq 0, [200003]), (.nop, [200002])],
  [(.aload 0, []), (.getfield 0, [11, 32]), (.istore 1, []), (.aload 0, []), (.invokevirtual 0, [196, 1, 11]), (.aload 0, []), (.invokevirtual 0, [181, 1, 11]), (.aload 0, []), (.invokevirtual 0, [201, 1, 11]), (.aload 0, []), (.sipush 0, [2]), (.iload 1, []), (.invokevirtual 0, [195, 3, 11]), (.goto 0, [200001])],
  [(.return_, [])]]
def sr_m200 : List (List Bool) := [[true, false], [true, false], [true, false], [false, false]]
def sr_p200 : List Nat := [0, 4, 22, 48]
/-- 201: X12_product -/
def sr_b201 : List (List sr_I) := [[(.aload 0, []), (.invokevirtual 0, [202, 1, 11]), (.nop, [201001])],
  [(.aload 0, []), (.sipush 0, [42]), (.invokevirtual 0, [180, 2, 11]), (.ifCond .ne 0, [201002]), (.aload 0, []), (.sipush 0, [47]), (.invokevirtual 0, [180, 2, 11]), (.ifCond .eq 0, [201003]), (.nop, [201002])],
  [(.aload 0, []), (.getfield 0, [11, 32]), (.istore 1, []), (.aload 0, []), (.invokevirtual 0, [196, 1, 11]), (.aload 0, []), (.invokevirtual 0, [181, 1, 11]), (.aload 0, []), (.invokevirtual 0, [202, 1, 11]), (.aload 0, []), (.sipush 0, [2]), (.iload 1, []), (.invokevirtual 0, [195, 3, 11]), (.goto 0, [201001])],
  [(.return_, [])]]
def sr_m201 : List (List Bool) := [[true, false], [true, false], [true, false], [false, false]]
def sr_p201 : List Nat := [0, 4, 22, 48]
/-- 202: X12_primary -/
def sr_b202 : List (List sr_I) := [[(.aload 0, []), (.getfield 0, [11, 33]), (.ifCond .eq 0, [202001]), (.return_, [])],
  [(.aload 0, []), (.sipush 0, [40]), (.invokevirtual 0, [180, 2, 11]), (.ifCond .eq 0, [202006]), (.aload 0, []), (.getfield 0, [11, 37]), (.sipush 0, [8]), (.if_icmp .ne 0, [202002]), (.aload 0, []), (.sipush 0, [2]), (.invokevirtual 0, [178, 2, 11]), (.nop, [202002])],
  [(.aload 0, []), (.getfield 0, [11, 33]), (.ifCond .eq 0, [202003]), (.return_, [])],
  [(.aload 0, []), (.dup, []), (.getfield 0, [11, 37]), (.sipush 0, [1]), (.iadd, []), (.putfield 0, [11, 37, 0]), (.aload 0, []), (.invokevirtual 0, [174, 1, 11]), (.aload 0, []), (.invokevirtual 0, [197, 1, 11]), (.aload 0, []), (.getfield 0, [11, 33]), (.ifCond .ne 0, [202004]), (.aload 0, []), (.sipush 0, [41]), (.invokevirtual 0, [180, 2, 11]), (.ifCond .ne 0, [202004]), (.aload 0, []), (.sipush 0, [1]), (.invokevirtual 0, [178, 2, 11]), (.nop, [202004])],
  [(.aload 0, []), (.getfield 0, [11, 33]), (.ifCond .eq 0, [202005]), (.return_, [])],
  [(.aload 0, []), (.dup, []), (.getfield 0, [11, 37]), (.sipush 0, [1]), (.isub, []), (.putfield 0, [11, 37, 0]), (.aload 0, []), (.invokevirtual 0, [174, 1, 11]), (.return_, [])],
  [(.aload 0, []), (.getfield 0, [11, 31]), (.sipush 0, [2]), (.if_icmp .ne 0, [202007]), (.sipush 0, [1]), (.goto 0, [202008])],
  [(.sipush 0, [0]), (.nop, [202008])],
  [(.istore 1, []), (.iload 1, []), (.ifCond .eq 0, [202009]), (.aload 0, []), (.getfield 0, [11, 32]), (.sipush 0, [9999]), (.if_icmp .le 0, [202009]), (.aload 0, []), (.sipush 0, [2]), (.invokevirtual 0, [178, 2, 11]), (.goto 0, [202011])],
  [(.iload 1, []), (.ifCond .ne 0, [202011]), (.aload 0, []), (.getfield 0, [11, 31]), (.ifCond .ne 0, [202010]), (.aload 0, []), (.getfield 0, [11, 32]), (.sipush 0, [14]), (.if_icmp .ge 0, [202011]), (.nop, [202010])],
  [(.aload 0, []), (.sipush 0, [1]), (.invokevirtual 0, [178, 2, 11]), (.nop, [202011])],
  [(.aload 0, []), (.invokevirtual 0, [196, 1, 11]), (.aload 0, []), (.iload 1, []), (.ifCond .eq 0, [202012]), (.sipush 0, [0]), (.goto 0, [202013])],
  [(.sipush 0, [1]), (.nop, [202013])],
  [(.iload 1, []), (.ifCond .eq 0, [202014]), (.aload 0, []), (.getfield 0, [11, 32]), (.goto 0, [202015])],
  [(.aload 0, []), (.getfield 0, [11, 32]), (.sipush 0, [14]), (.isub, []), (.nop, [202015])],
  [(.invokevirtual 0, [195, 3, 11]), (.aload 0, []), (.invokevirtual 0, [181, 1, 11]), (.return_, [])]]
def sr_m202 : List (List Bool) := [[true, false], [true, false], [true, false], [true, false], [true, false], [true, false], [true, false], [true, false], [true, false], [true, true], [true, true], [true, true], [true, true], [true, true], [true, false], [true, false]]
def sr_p202 : List Nat := [0, 8, 31, 39, 78, 86, 101, 113, 114, 137, 157, 162, 175, 176, 187, 194]
/-- 203: X12_half -/
def sr_b203 : List (List sr_I) := [[(.aload 0, []), (.arraylength, []), (.sipush 0, [2]), (.idiv, []), (.istore 1, []), (.sipush 0, [0]), (.istore 2, []), (.nop, [203001])],
  [(.iload 2, []), (.iload 1, []), (.if_icmp .ge 0, [203002]), (.aload 0, []), (.iload 2, []), (.aload 0, []), (.iload 1, []), (.iload 2, []), (.iadd, []), (.iaload, []), (.iastore, []), (.iinc 2 0, [1]), (.goto 0, [203001])],
  [(.return_, [])]]
def sr_m203 : List (List Bool) := [[true, false, false], [true, true, true], [false, false, false]]
def sr_p203 : List Nat := [0, 7, 26]
/-- 204: X12_text -/
def sr_b204 : List (List sr_I) := [[(.aload 0, []), (.sipush 0, [0]), (.putfield 0, [11, 0, 0]), (.iload 1, []), (.ifCond .lt 0, [204001]), (.iload 1, []), (.aload 0, []), (.getfield 0, [11, 2]), (.if_icmp .le 0, [204002]), (.nop, [204001])],
  [(.sipush 0, [2, 0]), (.ireturn, [])],
  [(.aload 0, []), (.iload 1, []), (.putfield 0, [11, 28, 0]), (.aload 0, []), (.sipush 0, [0]), (.putfield 0, [11, 2, 0]), (.aload 0, []), (.sipush 0, [0]), (.putfield 0, [11, 29, 0]), (.aload 0, []), (.sipush 0, [0]), (.putfield 0, [11, 33, 0]), (.aload 0, []), (.sipush 0, [1, 0]), (.putfield 0, [11, 34, 0]), (.sipush 0, [0]), (.istore 2, []), (.nop, [204003])],
  [(.iload 2, []), (.sipush 0, [9]), (.if_icmp .ge 0, [204006]), (.aload 0, []), (.iload 2, []), (.iload 2, []), (.sipush 0, [1]), (.if_icmp .gt 0, [204004]), (.sipush 0, [4]), (.goto 0, [204005])],
  [(.sipush 0, [0]), (.nop, [204005])],
  [(.invokevirtual 0, [186, 3, 11]), (.iinc 2 0, [1]), (.goto 0, [204003])],
  [(.sipush 0, [3]), (.istore 2, []), (.nop, [204007])],
  [(.iload 2, []), (.sipush 0, [6]), (.if_icmp .ge 0, [204008]), (.aload 0, []), (.getfield 0, [11, 22]), (.iload 2, []), (.sipush 0, [0]), (.iastore, []), (.aload 0, []), (.getfield 0, [11, 23]), (.iload 2, []), (.sipush 0, [0]), (.iastore, []), (.iinc 2 0, [1]), (.goto 0, [204007])],
  [(.aload 0, []), (.sipush 0, [0]), (.putfield 0, [11, 26, 0]), (.aload 0, []), (.sipush 0, [0]), (.putfield 0, [11, 27, 0]), (.aload 0, []), (.sipush 0, [0]), (.putfield 0, [11, 37, 0]), (.aload 0, []), (.sipush 0, [0]), (.putfield 0, [11, 38, 0]), (.aload 0, []), (.invokevirtual 0, [174, 1, 11]), (.nop, [204009])],
  [(.aload 0, []), (.getfield 0, [11, 33]), (.ifCond .ne 0, [204010]), (.aload 0, []), (.getfield 0, [11, 31]), (.sipush 0, [4]), (.if_icmp .eq 0, [204010]), (.aload 0, []), (.invokevirtual 0, [190, 1, 11]), (.goto 0, [204009])],
  [(.aload 0, []), (.aload 0, []), (.getfield 0, [11, 33]), (.putfield 0, [11, 35, 0]), (.aload 0, []), (.aload 0, []), (.getfield 0, [11, 34]), (.putfield 0, [11, 36, 0]), (.aload 0, []), (.getfield 0, [11, 33]), (.ifCond .eq 0, [204011]), (.sipush 0, [1, 0]), (.ireturn, [])],
  [(.aload 0, []), (.getfield 0, [11, 3]), (.invokestatic 0, [203, 1]), (.aload 0, []), (.getfield 0, [11, 4]), (.invokestatic 0, [203, 1]), (.aload 0, []), (.getfield 0, [11, 5]), (.invokestatic 0, [203, 1]), (.aload 0, []), (.getfield 0, [11, 6]), (.invokestatic 0, [203, 1]), (.aload 0, []), (.getfield 0, [11, 7]), (.invokestatic 0, [203, 1]), (.aload 0, []), (.getfield 0, [11, 8]), (.invokestatic 0, [203, 1]), (.aload 0, []), (.getfield 0, [11, 9]), (.invokestatic 0, [203, 1]), (.aload 0, []), (.getfield 0, [11, 10]), (.invokestatic 0, [203, 1]), (.aload 0, []), (.getfield 0, [11, 11]), (.invokestatic 0, [203, 1]), (.aload 0, []), (.getfield 0, [11, 12]), (.invokestatic 0, [203, 1]), (.aload 0, []), (.getfield 0, [11, 13]), (.invokestatic 0, [203, 1]), (.aload 0, []), (.getfield 0, [11, 14]), (.invokestatic 0, [203, 1]), (.aload 0, []), (.getfield 0, [11, 15]), (.invokestatic 0, [203, 1]), (.aload 0, []), (.getfield 0, [11, 16]), (.invokestatic 0, [203, 1]), (.aload 0, []), (.getfield 0, [11, 17]), (.invokestatic 0, [203, 1]), (.aload 0, []), (.getfield 0, [11, 18]), (.invokestatic 0, [203, 1]), (.aload 0, []), (.getfield 0, [11, 19]), (.invokestatic 0, [203, 1]), (.aload 0, []), (.getfield 0, [11, 20]), (.invokestatic 0, [203, 1]), (.aload 0, []), (.getfield 0, [11, 21]), (.invokestatic 0, [203, 1]), (.aload 0, []), (.getfield 0, [11, 22]), (.invokestatic 0, [203, 1]), (.aload 0, []), (.getfield 0, [11, 23]), (.invokestatic 0, [203, 1]), (.aload 0, []), (.getfield 0, [11, 24]), (.invokestatic 0, [203, 1]), (.aload 0, []), (.getfield 0, [11, 25]), (.invokestatic 0, [203, 1]), (.aload 0, []), (.sipush 0, [0]), (.putfield 0, [11, 60, 0]), (.aload 0, []), (.sipush 0, [1, 0]), (.putfield 0, [11, 61, 0]), (.aload 0, []), (.sipush 0, [0]), (.putfield 0, [11, 53, 1]), (.aload 0, []), (.sipush 0, [0]), (.putfield 0, [11, 54, 0]), (.aload 0, []), (.invokevirtual 0, [212, 1, 11]), (.aload 0, []), (.getfield 0, [11, 27]), (.ireturn, [])]]
def sr_m204 : List (List Bool) := [[true, true, false], [false, false, false], [true, true, false], [true, false, true], [true, false, true], [true, false, true], [true, false, false], [true, false, true], [true, false, false], [true, false, false], [true, false, false], [true, false, false]]
def sr_p204 : List Nat := [0, 17, 20, 47, 64, 65, 74, 76, 102, 126, 148, 173]
/-- 205: X12_fault -/
def sr_b205 : List (List sr_I) := [[(.aload 0, []), (.sipush 0, [0]), (.putfield 0, [11, 0, 0]), (.iload 1, []), (.ifCond .ne 0, [205001]), (.aload 0, []), (.getfield 0, [11, 35]), (.goto 0, [205003])],
  [(.iload 1, []), (.sipush 0, [1]), (.if_icmp .ne 0, [205002]), (.aload 0, []), (.getfield 0, [11, 36]), (.goto 0, [205003])],
  [(.sipush 0, [1, 0]), (.nop, [205003])],
  [(.ireturn, [])]]
def sr_m205 : List (List Bool) := [[true, true], [true, true], [false, false], [false, false]]
def sr_p205 : List Nat := [0, 16, 28, 29]
/-- 206: X12_named -/
def sr_b206 : List (List sr_I) := [[(.aload 0, []), (.sipush 0, [0]), (.putfield 0, [11, 0, 0]), (.iload 1, []), (.lookupswitch 0 #[(0, 0), (1, 0)], [206003, 206001, 206002])],
  [(.aload 0, []), (.getfield 0, [11, 4]), (.sipush 0, [0]), (.aload 0, []), (.getfield 0, [11, 3]), (.sipush 0, [2]), (.iaload, []), (.iload 2, []), (.invokestatic 0, [183, 4]), (.ireturn, [])],
  [(.aload 0, []), (.getfield 0, [11, 10]), (.sipush 0, [0]), (.aload 0, []), (.getfield 0, [11, 3]), (.sipush 0, [3]), (.iaload, []), (.iload 2, []), (.invokestatic 0, [183, 4]), (.ireturn, [])],
  [(.sipush 0, [1, 0]), (.ireturn, [])]]
def sr_m206 : List (List Bool) := [[true, true, true], [true, false, true], [true, false, true], [false, false, false]]
def sr_p206 : List Nat := [0, 32, 48, 64]
/-- 207: X12_is -/
def sr_b207 : List (List sr_I) := [[(.iload 0, []), (.ifCond .eq 0, [207001]), (.lconst 0, [1]), (.goto 0, [207002])],
  [(.lconst 0, [0]), (.nop, [207002])],
  [(.lreturn, [])]]
def sr_m207 : List (List Bool) := [[true], [false], [false]]
def sr_p207 : List Nat := [0, 8, 9]
/-- 208: X12_works -/
def sr_b208 : List (List sr_I) := [[(.aload 0, []), (.getfield 0, [11, 40]), (.aload 0, []), (.getfield 0, [11, 41]), (.sipush 0, [1]), (.isub, []), (.laload, []), (.lstore 2, []), (.iload 1, []), (.sipush 0, [260]), (.if_icmp .ne 0, [208003]), (.aload 0, []), (.getfield 0, [11, 40]), (.aload 0, []), (.getfield 0, [11, 41]), (.sipush 0, [1]), (.isub, []), (.lload 2, []), (.lconst 0, [0]), (.lcmp, []), (.ifCond .ne 0, [208001]), (.sipush 0, [1]), (.goto 0, [208002])],
  [(.sipush 0, [0]), (.nop, [208002])],
  [(.invokestatic 0, [207, 1]), (.lastore, []), (.sipush 0, [1]), (.ireturn, [1])],
  [(.aload 0, []), (.getfield 0, [11, 40]), (.aload 0, []), (.getfield 0, [11, 41]), (.sipush 0, [2]), (.isub, []), (.laload, []), (.lstore 4, []), (.aload 0, []), (.dup, []), (.getfield 0, [11, 41]), (.sipush 0, [1]), (.isub, []), (.putfield 0, [11, 41, 0]), (.iload 1, []), (.lookupswitch 0 #[(42, 0), (43, 0), (45, 0), (47, 0), (60, 0), (61, 0), (62, 0), (256, 0), (257, 0), (258, 0), (261, 0)], [208031, 208006, 208004, 208005, 208008, 208010, 208016, 208013, 208019, 208025, 208022, 208028])],
  [(.lload 4, []), (.lload 2, []), (.ladd, []), (.lstore 6, []), (.goto 0, [208035])],
  [(.lload 4, []), (.lload 2, []), (.lsub, []), (.lstore 6, []), (.goto 0, [208035])],
  [(.lload 4, []), (.lconst 0, [0]), (.lcmp, []), (.ifCond .eq 0, [208007]), (.lload 2, []), (.invokestatic 0, [5]), (.lconst 0, [1000000000000]), (.lload 4, []), (.invokestatic 0, [5]), (.ldiv, []), (.lcmp, []), (.ifCond .le 0, [208007]), (.sipush 0, [0]), (.ireturn, [1])],
  [(.lload 4, []), (.lload 2, []), (.lmul, []), (.lstore 6, []), (.goto 0, [208035])],
  [(.lload 2, []), (.lconst 0, [0]), (.lcmp, []), (.ifCond .ne 0, [208009]), (.sipush 0, [0]), (.ireturn, [1])],
  [(.lload 4, []), (.lload 2, []), (.ldiv, []), (.lstore 6, []), (.goto 0, [208035])],
  [(.lload 4, []), (.lload 2, []), (.lcmp, []), (.ifCond .ge 0, [208011]), (.sipush 0, [1]), (.goto 0, [208012])],
  [(.sipush 0, [0]), (.nop, [208012])],
  [(.invokestatic 0, [207, 1]), (.lstore 6, []), (.goto 0, [208035])],
  [(.lload 4, []), (.lload 2, []), (.lcmp, []), (.ifCond .le 0, [208014]), (.sipush 0, [1]), (.goto 0, [208015])],
  [(.sipush 0, [0]), (.nop, [208015])],
  [(.invokestatic 0, [207, 1]), (.lstore 6, []), (.goto 0, [208035])],
  [(.lload 4, []), (.lload 2, []), (.lcmp, []), (.ifCond .ne 0, [208017]), (.sipush 0, [1]), (.goto 0, [208018])],
  [(.sipush 0, [0]), (.nop, [208018])],
  [(.invokestatic 0, [207, 1]), (.lstore 6, []), (.goto 0, [208035])],
  [(.lload 4, []), (.lload 2, []), (.lcmp, []), (.ifCond .gt 0, [208020]), (.sipush 0, [1]), (.goto 0, [208021])],
  [(.sipush 0, [0]), (.nop, [208021])],
  [(.invokestatic 0, [207, 1]), (.lstore 6, []), (.goto 0, [208035])],
  [(.lload 4, []), (.lload 2, []), (.lcmp, []), (.ifCond .lt 0, [208023]), (.sipush 0, [1]), (.goto 0, [208024])],
  [(.sipush 0, [0]), (.nop, [208024])],
  [(.invokestatic 0, [207, 1]), (.lstore 6, []), (.goto 0, [208035])],
  [(.lload 4, []), (.lload 2, []), (.lcmp, []), (.ifCond .eq 0, [208026]), (.sipush 0, [1]), (.goto 0, [208027])],
  [(.sipush 0, [0]), (.nop, [208027])],
  [(.invokestatic 0, [207, 1]), (.lstore 6, []), (.goto 0, [208035])],
  [(.lload 4, []), (.lconst 0, [0]), (.lcmp, []), (.ifCond .eq 0, [208029]), (.lload 2, []), (.lconst 0, [0]), (.lcmp, []), (.ifCond .eq 0, [208029]), (.sipush 0, [1]), (.goto 0, [208030])],
  [(.sipush 0, [0]), (.nop, [208030])],
  [(.invokestatic 0, [207, 1]), (.lstore 6, []), (.goto 0, [208035])],
  [(.lload 4, []), (.lconst 0, [0]), (.lcmp, []), (.ifCond .ne 0, [208032]), (.lload 2, []), (.lconst 0, [0]), (.lcmp, []), (.ifCond .eq 0, [208033]), (.nop, [208032])],
  [(.sipush 0, [1]), (.goto 0, [208034])],
  [(.sipush 0, [0]), (.nop, [208034])],
  [(.invokestatic 0, [207, 1]), (.lstore 6, []), (.nop, [208035])],
  [(.aload 0, []), (.getfield 0, [11, 40]), (.aload 0, []), (.getfield 0, [11, 41]), (.sipush 0, [1]), (.isub, []), (.lload 6, []), (.lastore, []), (.lload 6, []), (.lconst 0, [1000000000000]), (.lcmp, []), (.ifCond .gt 0, [208036]), (.lload 6, []), (.lconst 0, [1000000000000, 0]), (.lcmp, []), (.ifCond .lt 0, [208036]), (.sipush 0, [1]), (.goto 0, [208037])],
  [(.sipush 0, [0]), (.nop, [208037])],
  [(.ireturn, [1])]]
def sr_m208 : List (List Bool) := [[true, true, false, false, false, false, false, false], [false, false, false, false, false, false, false, false], [false, false, false, false, false, false, false, false], [true, true, true, false, false, false, false, false], [true, false, true, false, true, false, false, false], [true, false, true, false, true, false, false, false], [true, false, true, false, true, false, false, false], [true, false, true, false, true, false, false, false], [true, false, true, false, true, false, false, false], [true, false, true, false, true, false, false, false], [true, false, true, false, true, false, false, false], [true, false, false, false, false, false, false, false], [true, false, false, false, false, false, false, false], [true, false, true, false, true, false, false, false], [true, false, false, false, false, false, false, false], [true, false, false, false, false, false, false, false], [true, false, true, false, true, false, false, false], [true, false, false, false, false, false, false, false], [true, false, false, false, false, false, false, false], [true, false, true, false, true, false, false, false], [true, false, false, false, false, false, false, false], [true, false, false, false, false, false, false, false], [true, false, true, false, true, false, false, false], [true, false, false, false, false, false, false, false], [true, false, false, false, false, false, false, false], [true, false, true, false, true, false, false, false], [true, false, false, false, false, false, false, false], [true, false, false, false, false, false, false, false], [true, false, true, false, true, false, false, false], [true, false, false, false, false, false, false, false], [true, false, false, false, false, false, false, false], [true, false, true, false, true, false, false, false], [true, false, false, false, false, false, false, false], [true, false, false, false, false, false, false, false], [true, false, false, false, false, false, false, false], [true, false, false, false, false, false, true, false], [false, false, false, false, false, false, false, false], [false, false, false, false, false, false, false, false]]
def sr_p208 : List Nat := [0, 39, 40, 46, 168, 177, 186, 212, 221, 229, 238, 249, 250, 258, 269, 270, 278, 289, 290, 298, 309, 310, 318, 329, 330, 338, 349, 350, 358, 375, 376, 384, 397, 401, 402, 407, 442, 443]
/-- 209: X12_goes -/
def sr_b209 : List (List sr_I) := [[(.aload 0, []), (.sipush 0, [0]), (.putfield 0, [11, 41, 0]), (.aload 0, []), (.getfield 0, [11, 22]), (.iload 1, []), (.iaload, []), (.istore 2, []), (.nop, [209001])],
  [(.iload 2, []), (.aload 0, []), (.getfield 0, [11, 23]), (.iload 1, []), (.iaload, []), (.if_icmp .ge 0, [209006]), (.aload 0, []), (.getfield 0, [11, 24]), (.iload 2, []), (.iaload, []), (.sipush 0, [2]), (.if_icmp .ne 0, [209002]), (.aload 0, []), (.aload 0, []), (.getfield 0, [11, 25]), (.iload 2, []), (.iaload, []), (.invokevirtual 0, [208, 2, 11]), (.ifCond .ne 0, [209005]), (.sipush 0, [0]), (.ireturn, [1])],
  [(.aload 0, []), (.getfield 0, [11, 40]), (.aload 0, []), (.getfield 0, [11, 41]), (.aload 0, []), (.getfield 0, [11, 24]), (.iload 2, []), (.iaload, []), (.ifCond .ne 0, [209003]), (.aload 0, []), (.getfield 0, [11, 25]), (.iload 2, []), (.iaload, []), (.i2l, []), (.goto 0, [209004])],
  [(.aload 0, []), (.getfield 0, [11, 39]), (.aload 0, []), (.getfield 0, [11, 25]), (.iload 2, []), (.iaload, []), (.laload, []), (.nop, [209004])],
  [(.lastore, []), (.aload 0, []), (.dup, []), (.getfield 0, [11, 41]), (.sipush 0, [1]), (.iadd, []), (.putfield 0, [11, 41, 0]), (.nop, [209005])],
  [(.iinc 2 0, [1]), (.goto 0, [209001])],
  [(.sipush 0, [1]), (.ireturn, [1])]]
def sr_m209 : List (List Bool) := [[true, true, false], [true, true, true], [true, true, true], [true, true, true], [true, true, true], [true, true, true], [false, false, false]]
def sr_p209 : List Nat := [0, 12, 47, 74, 85, 96, 102]
/-- 210: X12_hasLaw -/
def sr_b210 : List (List sr_I) := [[(.aload 0, []), (.getfield 0, [11, 23]), (.iload 1, []), (.iaload, []), (.aload 0, []), (.getfield 0, [11, 22]), (.iload 1, []), (.iaload, []), (.if_icmp .le 0, [210001]), (.sipush 0, [1]), (.goto 0, [210002])],
  [(.sipush 0, [0]), (.nop, [210002])],
  [(.ireturn, [1])]]
def sr_m210 : List (List Bool) := [[true, true], [false, false], [false, false]]
def sr_p210 : List Nat := [0, 19, 20]
/-- 211: X12_starts -/
def sr_b211 : List (List sr_I) := [[(.aload 0, []), (.getfield 0, [11, 42]), (.iload 1, []), (.sipush 0, [0]), (.iastore, []), (.aload 0, []), (.getfield 0, [11, 43]), (.iload 1, []), (.aload 0, []), (.getfield 0, [11, 3]), (.sipush 0, [7]), (.iaload, []), (.iastore, []), (.aload 0, []), (.getfield 0, [11, 44]), (.iload 1, []), (.sipush 0, [0]), (.iastore, []), (.sipush 0, [0]), (.istore 2, []), (.nop, [211001])],
  [(.iload 2, []), (.sipush 0, [5]), (.if_icmp .ge 0, [211012]), (.sipush 0, [5]), (.iload 1, []), (.imul, []), (.iload 2, []), (.iadd, []), (.istore 3, []), (.iload 2, []), (.aload 0, []), (.getfield 0, [11, 3]), (.sipush 0, [2]), (.iaload, []), (.if_icmp .ge 0, [211002]), (.sipush 0, [1]), (.goto 0, [211003])],
  [(.sipush 0, [0]), (.nop, [211003])],
  [(.istore 4, []), (.aload 0, []), (.getfield 0, [11, 45]), (.iload 3, []), (.iload 4, []), (.ifCond .eq 0, [211004]), (.aload 0, []), (.getfield 0, [11, 6]), (.iload 2, []), (.iaload, []), (.goto 0, [211005])],
  [(.sipush 0, [0]), (.nop, [211005])],
  [(.iastore, []), (.aload 0, []), (.getfield 0, [11, 46]), (.iload 3, []), (.iload 4, []), (.ifCond .eq 0, [211006]), (.aload 0, []), (.getfield 0, [11, 7]), (.iload 2, []), (.iaload, []), (.goto 0, [211007])],
  [(.sipush 0, [0]), (.nop, [211007])],
  [(.iastore, []), (.aload 0, []), (.getfield 0, [11, 47]), (.iload 3, []), (.iload 4, []), (.ifCond .eq 0, [211008]), (.aload 0, []), (.getfield 0, [11, 9]), (.iload 2, []), (.iaload, []), (.goto 0, [211009])],
  [(.sipush 0, [0]), (.nop, [211009])],
  [(.iastore, []), (.aload 0, []), (.getfield 0, [11, 48]), (.iload 3, []), (.iload 4, []), (.ifCond .eq 0, [211010]), (.sipush 0, [1]), (.aload 0, []), (.getfield 0, [11, 8]), (.iload 2, []), (.iaload, []), (.ishl, []), (.sipush 0, [1]), (.isub, []), (.goto 0, [211011])],
  [(.sipush 0, [0]), (.nop, [211011])],
  [(.iastore, []), (.iinc 2 0, [1]), (.goto 0, [211001])],
  [(.sipush 0, [0]), (.istore 2, []), (.nop, [211013])],
  [(.iload 2, []), (.sipush 0, [6]), (.if_icmp .ge 0, [211022]), (.sipush 0, [6]), (.iload 1, []), (.imul, []), (.iload 2, []), (.iadd, []), (.istore 3, []), (.iload 2, []), (.aload 0, []), (.getfield 0, [11, 3]), (.sipush 0, [3]), (.iaload, []), (.if_icmp .ge 0, [211014]), (.sipush 0, [1]), (.goto 0, [211015])],
  [(.sipush 0, [0]), (.nop, [211015])],
  [(.istore 4, []), (.aload 0, []), (.getfield 0, [11, 49]), (.iload 3, []), (.iload 4, []), (.ifCond .eq 0, [211016]), (.aload 0, []), (.getfield 0, [11, 11]), (.iload 2, []), (.iaload, []), (.goto 0, [211017])],
  [(.sipush 0, [0]), (.nop, [211017])],
  [(.iastore, []), (.aload 0, []), (.getfield 0, [11, 50]), (.iload 3, []), (.iload 4, []), (.ifCond .eq 0, [211018]), (.aload 0, []), (.getfield 0, [11, 12]), (.iload 2, []), (.iaload, []), (.goto 0, [211019])],
  [(.sipush 0, [0]), (.nop, [211019])],
  [(.iastore, []), (.aload 0, []), (.getfield 0, [11, 51]), (.iload 3, []), (.iload 4, []), (.ifCond .eq 0, [211020]), (.aload 0, []), (.getfield 0, [11, 13]), (.iload 2, []), (.iaload, []), (.goto 0, [211021])],
  [(.sipush 0, [0]), (.nop, [211021])],
  [(.iastore, []), (.aload 0, []), (.getfield 0, [11, 52]), (.iload 3, []), (.sipush 0, [0]), (.iastore, []), (.iinc 2 0, [1]), (.goto 0, [211013])],
  [(.return_, [])]]
def sr_m211 : List (List Bool) := [[true, true, false, false, false], [true, true, true, false, false], [true, true, true, true, false], [true, true, true, true, false], [true, true, true, true, true], [true, true, true, true, true], [true, true, true, true, true], [true, true, true, true, true], [true, true, true, true, true], [true, true, true, true, true], [true, true, true, false, false], [true, true, true, false, false], [true, true, false, false, false], [true, true, true, false, false], [true, true, true, true, false], [true, true, true, true, false], [true, true, true, true, true], [true, true, true, true, true], [true, true, true, true, true], [true, true, true, true, true], [true, true, true, true, false], [true, true, true, true, false], [false, false, false, false, false]]
def sr_p211 : List Nat := [0, 29, 54, 55, 76, 77, 97, 98, 118, 119, 143, 144, 151, 153, 180, 181, 202, 203, 223, 224, 244, 245, 259]
/-- 212: X12_begins -/
def sr_b212 : List (List sr_I) := [[(.aload 0, []), (.sipush 0, [0]), (.invokevirtual 0, [211, 2, 11]), (.return_, [])]]
def sr_m212 : List (List Bool) := [[true]]
def sr_p212 : List Nat := [0]
/-- 213: X12_copies -/
def sr_b213 : List (List sr_I) := [[(.aload 0, []), (.getfield 0, [11, 42]), (.iload 1, []), (.aload 0, []), (.getfield 0, [11, 42]), (.iload 2, []), (.iaload, []), (.iastore, []), (.aload 0, []), (.getfield 0, [11, 43]), (.iload 1, []), (.aload 0, []), (.getfield 0, [11, 43]), (.iload 2, []), (.iaload, []), (.iastore, []), (.aload 0, []), (.getfield 0, [11, 44]), (.iload 1, []), (.aload 0, []), (.getfield 0, [11, 44]), (.iload 2, []), (.iaload, []), (.iastore, []), (.sipush 0, [0]), (.istore 3, []), (.nop, [213001])],
  [(.iload 3, []), (.sipush 0, [5]), (.if_icmp .ge 0, [213002]), (.sipush 0, [5]), (.iload 1, []), (.imul, []), (.iload 3, []), (.iadd, []), (.istore 4, []), (.sipush 0, [5]), (.iload 2, []), (.imul, []), (.iload 3, []), (.iadd, []), (.istore 5, []), (.aload 0, []), (.getfield 0, [11, 45]), (.iload 4, []), (.aload 0, []), (.getfield 0, [11, 45]), (.iload 5, []), (.iaload, []), (.iastore, []), (.aload 0, []), (.getfield 0, [11, 46]), (.iload 4, []), (.aload 0, []), (.getfield 0, [11, 46]), (.iload 5, []), (.iaload, []), (.iastore, []), (.aload 0, []), (.getfield 0, [11, 47]), (.iload 4, []), (.aload 0, []), (.getfield 0, [11, 47]), (.iload 5, []), (.iaload, []), (.iastore, []), (.aload 0, []), (.getfield 0, [11, 48]), (.iload 4, []), (.aload 0, []), (.getfield 0, [11, 48]), (.iload 5, []), (.iaload, []), (.iastore, []), (.iinc 3 0, [1]), (.goto 0, [213001])],
  [(.sipush 0, [0]), (.istore 3, []), (.nop, [213003])],
  [(.iload 3, []), (.sipush 0, [6]), (.if_icmp .ge 0, [213004]), (.sipush 0, [6]), (.iload 1, []), (.imul, []), (.iload 3, []), (.iadd, []), (.istore 4, []), (.sipush 0, [6]), (.iload 2, []), (.imul, []), (.iload 3, []), (.iadd, []), (.istore 5, []), (.aload 0, []), (.getfield 0, [11, 49]), (.iload 4, []), (.aload 0, []), (.getfield 0, [11, 49]), (.iload 5, []), (.iaload, []), (.iastore, []), (.aload 0, []), (.getfield 0, [11, 50]), (.iload 4, []), (.aload 0, []), (.getfield 0, [11, 50]), (.iload 5, []), (.iaload, []), (.iastore, []), (.aload 0, []), (.getfield 0, [11, 51]), (.iload 4, []), (.aload 0, []), (.getfield 0, [11, 51]), (.iload 5, []), (.iaload, []), (.iastore, []), (.aload 0, []), (.getfield 0, [11, 52]), (.iload 4, []), (.aload 0, []), (.getfield 0, [11, 52]), (.iload 5, []), (.iaload, []), (.iastore, []), (.iinc 3 0, [1]), (.goto 0, [213003])],
  [(.return_, [])]]
def sr_m213 : List (List Bool) := [[true, true, true, false, false, false], [true, true, true, true, false, false], [true, true, true, false, false, false], [true, true, true, true, false, false], [false, false, false, false, false, false]]
def sr_p213 : List Nat := [0, 38, 119, 121, 205]
/-- 214: X12_isScreen -/
def sr_b214 : List (List sr_I) := [[(.iload 1, []), (.ifCond .lt 0, [214001]), (.iload 1, []), (.aload 0, []), (.getfield 0, [11, 3]), (.sipush 0, [2]), (.iaload, []), (.if_icmp .ge 0, [214001]), (.sipush 0, [1]), (.goto 0, [214002])],
  [(.sipush 0, [0]), (.nop, [214002])],
  [(.ireturn, [1])]]
def sr_m214 : List (List Bool) := [[true, true], [false, false], [false, false]]
def sr_p214 : List Nat := [0, 18, 19]
/-- 215: X12_isFolk -/
def sr_b215 : List (List sr_I) := [[(.iload 1, []), (.ifCond .lt 0, [215001]), (.iload 1, []), (.aload 0, []), (.getfield 0, [11, 3]), (.sipush 0, [3]), (.iaload, []), (.if_icmp .ge 0, [215001]), (.sipush 0, [1]), (.goto 0, [215002])],
  [(.sipush 0, [0]), (.nop, [215002])],
  [(.ireturn, [1])]]
def sr_m215 : List (List Bool) := [[true, true], [false, false], [false, false]]
def sr_p215 : List Nat := [0, 18, 19]
/-- 216: X12_isCell -/
def sr_b216 : List (List sr_I) := [[(.iload 1, []), (.ifCond .lt 0, [216001]), (.iload 1, []), (.aload 0, []), (.getfield 0, [11, 3]), (.sipush 0, [0]), (.iaload, []), (.if_icmp .ge 0, [216001]), (.iload 2, []), (.ifCond .lt 0, [216001]), (.iload 2, []), (.aload 0, []), (.getfield 0, [11, 3]), (.sipush 0, [1]), (.iaload, []), (.if_icmp .ge 0, [216001]), (.sipush 0, [1]), (.goto 0, [216002])],
  [(.sipush 0, [0]), (.nop, [216002])],
  [(.ireturn, [1])]]
def sr_m216 : List (List Bool) := [[true, true, true], [false, false, false], [false, false, false]]
def sr_p216 : List Nat := [0, 32, 33]
/-- 217: X12_bitsOf -/
def sr_b217 : List (List sr_I) := [[(.sipush 0, [0]), (.istore 1, []), (.sipush 0, [0]), (.istore 2, []), (.nop, [217001])],
  [(.iload 2, []), (.sipush 0, [8]), (.if_icmp .ge 0, [217002]), (.iload 1, []), (.iload 0, []), (.iload 2, []), (.ishr, []), (.sipush 0, [1]), (.iand, []), (.iadd, []), (.istore 1, []), (.iinc 2 0, [1]), (.goto 0, [217001])],
  [(.iload 1, []), (.ireturn, [])]]
def sr_m217 : List (List Bool) := [[true, false, false], [true, true, true], [false, true, false]]
def sr_p217 : List Nat := [0, 4, 24]
/-- 218: X12_isHere -/
def sr_b218 : List (List sr_I) := [[(.aload 0, []), (.getfield 0, [11, 55]), (.iload 1, []), (.ishr, []), (.sipush 0, [1]), (.iand, []), (.ifCond .ne 0, [218001]), (.sipush 0, [1]), (.goto 0, [218002])],
  [(.sipush 0, [0]), (.nop, [218002])],
  [(.ireturn, [1])]]
def sr_m218 : List (List Bool) := [[true, true], [false, false], [false, false]]
def sr_p218 : List Nat := [0, 15, 16]
/-- 219: X12_colourOf -/
def sr_b219 : List (List sr_I) := [[(.iload 1, []), (.aload 0, []), (.getfield 0, [11, 56]), (.if_icmp .ne 0, [219001]), (.aload 0, []), (.getfield 0, [11, 57]), (.goto 0, [219002])],
  [(.aload 0, []), (.getfield 0, [11, 5]), (.iload 1, []), (.iaload, []), (.nop, [219002])],
  [(.ireturn, [])]]
def sr_m219 : List (List Bool) := [[true, true], [true, true], [false, false]]
def sr_p219 : List Nat := [0, 15, 21]
/-- 220: X12_leafRow -/
def sr_b220 : List (List sr_I) := [[(.aload 0, []), (.getfield 0, [11, 45]), (.sipush 0, [5]), (.iload 1, []), (.imul, []), (.iload 2, []), (.iadd, []), (.iaload, []), (.aload 0, []), (.getfield 0, [11, 47]), (.sipush 0, [5]), (.iload 1, []), (.imul, []), (.iload 2, []), (.iadd, []), (.iaload, []), (.sipush 0, [1]), (.if_icmp .ne 0, [220001]), (.iload 3, []), (.goto 0, [220002])],
  [(.sipush 0, [0]), (.nop, [220002])],
  [(.iadd, []), (.ireturn, [])]]
def sr_m220 : List (List Bool) := [[true, true, true, true], [false, false, false, false], [false, false, false, false]]
def sr_p220 : List Nat := [0, 28, 29]
/-- 221: X12_leafColumn -/
def sr_b221 : List (List sr_I) := [[(.aload 0, []), (.getfield 0, [11, 46]), (.sipush 0, [5]), (.iload 1, []), (.imul, []), (.iload 2, []), (.iadd, []), (.iaload, []), (.aload 0, []), (.getfield 0, [11, 47]), (.sipush 0, [5]), (.iload 1, []), (.imul, []), (.iload 2, []), (.iadd, []), (.iaload, []), (.sipush 0, [1]), (.if_icmp .ne 0, [221001]), (.sipush 0, [0]), (.goto 0, [221002])],
  [(.iload 3, []), (.nop, [221002])],
  [(.iadd, []), (.ireturn, [])]]
def sr_m221 : List (List Bool) := [[true, true, true, true], [false, false, false, true], [false, false, false, false]]
def sr_p221 : List Nat := [0, 28, 29]
/-- 222: X12_hasLeaf -/
def sr_b222 : List (List sr_I) := [[(.sipush 0, [0]), (.istore 6, []), (.nop, [222001])],
  [(.iload 6, []), (.aload 0, []), (.getfield 0, [11, 8]), (.iload 2, []), (.iaload, []), (.if_icmp .ge 0, [222006]), (.iload 5, []), (.ifCond .ne 0, [222002]), (.aload 0, []), (.getfield 0, [11, 48]), (.sipush 0, [5]), (.iload 1, []), (.imul, []), (.iload 2, []), (.iadd, []), (.iaload, []), (.iload 6, []), (.ishr, []), (.sipush 0, [1]), (.iand, []), (.sipush 0, [1]), (.if_icmp .ne 0, [222003]), (.nop, [222002])],
  [(.sipush 0, [1]), (.goto 0, [222004])],
  [(.sipush 0, [0]), (.nop, [222004])],
  [(.istore 7, []), (.iload 7, []), (.ifCond .eq 0, [222005]), (.aload 0, []), (.iload 1, []), (.iload 2, []), (.iload 6, []), (.invokevirtual 0, [220, 4, 11]), (.iload 3, []), (.if_icmp .ne 0, [222005]), (.aload 0, []), (.iload 1, []), (.iload 2, []), (.iload 6, []), (.invokevirtual 0, [221, 4, 11]), (.iload 4, []), (.if_icmp .ne 0, [222005]), (.sipush 0, [1]), (.ireturn, [1])],
  [(.iinc 6 0, [1]), (.goto 0, [222001])],
  [(.sipush 0, [0]), (.ireturn, [1])]]
def sr_m222 : List (List Bool) := [[true, true, true, true, true, true, false, false], [true, true, true, true, true, true, true, false], [true, true, true, true, true, true, true, false], [true, true, true, true, true, true, true, false], [true, true, true, true, true, true, true, false], [true, true, true, true, true, true, true, false], [false, false, false, false, false, false, false, false]]
def sr_p222 : List Nat := [0, 3, 38, 42, 43, 77, 83]
/-- 223: X12_leafAt -/
def sr_b223 : List (List sr_I) := [[(.sipush 0, [0]), (.istore 4, []), (.nop, [223001])],
  [(.iload 4, []), (.aload 0, []), (.getfield 0, [11, 3]), (.sipush 0, [2]), (.iaload, []), (.if_icmp .ge 0, [223003]), (.aload 0, []), (.iload 4, []), (.invokevirtual 0, [218, 2, 11]), (.ifCond .eq 0, [223002]), (.aload 0, []), (.iload 1, []), (.iload 4, []), (.iload 2, []), (.iload 3, []), (.sipush 0, [0]), (.invokevirtual 0, [222, 6, 11]), (.ifCond .eq 0, [223002]), (.iload 4, []), (.ireturn, [])],
  [(.iinc 4 0, [1]), (.goto 0, [223001])],
  [(.sipush 0, [1, 0]), (.ireturn, [])]]
def sr_m223 : List (List Bool) := [[true, true, true, true, false], [true, true, true, true, true], [true, true, true, true, true], [false, false, false, false, false]]
def sr_p223 : List Nat := [0, 3, 39, 45]
/-- 224: X12_isInRoom -/
def sr_b224 : List (List sr_I) := [[(.aload 0, []), (.getfield 0, [11, 8]), (.iload 2, []), (.iaload, []), (.sipush 0, [1]), (.isub, []), (.istore 3, []), (.aload 0, []), (.aload 0, []), (.iload 1, []), (.iload 2, []), (.sipush 0, [0]), (.invokevirtual 0, [220, 4, 11]), (.aload 0, []), (.iload 1, []), (.iload 2, []), (.sipush 0, [0]), (.invokevirtual 0, [221, 4, 11]), (.invokevirtual 0, [216, 3, 11]), (.ifCond .eq 0, [224001]), (.aload 0, []), (.aload 0, []), (.iload 1, []), (.iload 2, []), (.iload 3, []), (.invokevirtual 0, [220, 4, 11]), (.aload 0, []), (.iload 1, []), (.iload 2, []), (.iload 3, []), (.invokevirtual 0, [221, 4, 11]), (.invokevirtual 0, [216, 3, 11]), (.ifCond .eq 0, [224001]), (.sipush 0, [1]), (.goto 0, [224002])],
  [(.sipush 0, [0]), (.nop, [224002])],
  [(.ireturn, [1])]]
def sr_m224 : List (List Bool) := [[true, true, true, false], [false, false, false, false], [false, false, false, false]]
def sr_p224 : List Nat := [0, 55, 56]
/-- 225: X12_fitsIn -/
def sr_b225 : List (List sr_I) := [[(.aload 0, []), (.iload 1, []), (.iload 2, []), (.invokevirtual 0, [224, 3, 11]), (.ifCond .ne 0, [225001]), (.sipush 0, [0]), (.ireturn, [1])],
  [(.sipush 0, [0]), (.istore 3, []), (.nop, [225002])],
  [(.iload 3, []), (.aload 0, []), (.getfield 0, [11, 8]), (.iload 2, []), (.iaload, []), (.if_icmp .ge 0, [225006]), (.sipush 0, [0]), (.istore 4, []), (.nop, [225003])],
  [(.iload 4, []), (.aload 0, []), (.getfield 0, [11, 3]), (.sipush 0, [2]), (.iaload, []), (.if_icmp .ge 0, [225005]), (.iload 4, []), (.iload 2, []), (.if_icmp .eq 0, [225004]), (.aload 0, []), (.iload 4, []), (.invokevirtual 0, [218, 2, 11]), (.ifCond .eq 0, [225004]), (.aload 0, []), (.iload 1, []), (.iload 4, []), (.aload 0, []), (.iload 1, []), (.iload 2, []), (.iload 3, []), (.invokevirtual 0, [220, 4, 11]), (.aload 0, []), (.iload 1, []), (.iload 2, []), (.iload 3, []), (.invokevirtual 0, [221, 4, 11]), (.sipush 0, [1]), (.invokevirtual 0, [222, 6, 11]), (.ifCond .eq 0, [225004]), (.sipush 0, [0]), (.ireturn, [1])],
  [(.iinc 4 0, [1]), (.goto 0, [225003])],
  [(.iinc 3 0, [1]), (.goto 0, [225002])],
  [(.sipush 0, [1]), (.ireturn, [1])]]
def sr_m225 : List (List Bool) := [[true, true, true, false, false], [true, true, true, false, false], [true, true, true, true, false], [true, true, true, true, true], [true, true, true, true, true], [true, true, true, true, false], [false, false, false, false, false]]
def sr_p225 : List Nat := [0, 11, 13, 26, 79, 85, 91]
/-- 226: X12_farOf -/
def sr_b226 : List (List sr_I) := [[(.sipush 0, [1, 0]), (.istore 5, []), (.sipush 0, [0]), (.istore 6, []), (.nop, [226001])],
  [(.iload 6, []), (.aload 0, []), (.getfield 0, [11, 8]), (.iload 2, []), (.iaload, []), (.if_icmp .ge 0, [226005]), (.aload 0, []), (.getfield 0, [11, 48]), (.sipush 0, [5]), (.iload 1, []), (.imul, []), (.iload 2, []), (.iadd, []), (.iaload, []), (.iload 6, []), (.ishr, []), (.sipush 0, [1]), (.iand, []), (.ifCond .ne 0, [226002]), (.goto 0, [226004])],
  [(.aload 0, []), (.iload 1, []), (.iload 2, []), (.iload 6, []), (.invokevirtual 0, [220, 4, 11]), (.iload 3, []), (.isub, []), (.invokestatic 0, [2]), (.aload 0, []), (.iload 1, []), (.iload 2, []), (.iload 6, []), (.invokevirtual 0, [221, 4, 11]), (.iload 4, []), (.isub, []), (.invokestatic 0, [2]), (.iadd, []), (.istore 7, []), (.iload 5, []), (.sipush 0, [1, 0]), (.if_icmp .eq 0, [226003]), (.iload 7, []), (.iload 5, []), (.if_icmp .ge 0, [226004]), (.nop, [226003])],
  [(.iload 7, []), (.istore 5, []), (.nop, [226004])],
  [(.iinc 6 0, [1]), (.goto 0, [226001])],
  [(.iload 5, []), (.ireturn, [])]]
def sr_m226 : List (List Bool) := [[true, true, true, true, true, false, false, false], [true, true, true, true, true, true, true, false], [true, true, true, true, true, true, true, false], [true, true, true, true, true, false, true, true], [true, true, true, true, true, true, true, false], [false, false, false, false, false, true, false, false]]
def sr_p226 : List Nat := [0, 6, 38, 81, 85, 91]
/-- 227: X12_giverOf -/
def sr_b227 : List (List sr_I) := [[(.sipush 0, [1, 0]), (.istore 4, []), (.sipush 0, [1, 0]), (.istore 5, []), (.sipush 0, [0]), (.istore 6, []), (.nop, [227001])],
  [(.iload 6, []), (.aload 0, []), (.getfield 0, [11, 3]), (.sipush 0, [2]), (.iaload, []), (.if_icmp .ge 0, [227006]), (.aload 0, []), (.iload 6, []), (.invokevirtual 0, [218, 2, 11]), (.ifCond .eq 0, [227002]), (.aload 0, []), (.iload 1, []), (.iload 6, []), (.iload 2, []), (.iload 3, []), (.invokevirtual 0, [226, 5, 11]), (.goto 0, [227003])],
  [(.sipush 0, [1, 0]), (.nop, [227003])],
  [(.istore 7, []), (.iload 7, []), (.sipush 0, [1, 0]), (.if_icmp .eq 0, [227005]), (.iload 4, []), (.sipush 0, [1, 0]), (.if_icmp .eq 0, [227004]), (.iload 7, []), (.iload 5, []), (.if_icmp .lt 0, [227004]), (.goto 0, [227005])],
  [(.iload 6, []), (.istore 4, []), (.iload 7, []), (.istore 5, []), (.nop, [227005])],
  [(.iinc 6 0, [1]), (.goto 0, [227001])],
  [(.iload 4, []), (.ireturn, [])]]
def sr_m227 : List (List Bool) := [[true, true, true, true, false, false, false, false], [true, true, true, true, true, true, true, false], [true, true, true, true, true, true, true, false], [true, true, true, true, true, true, true, false], [true, true, true, true, false, false, true, true], [true, true, true, true, true, true, true, false], [false, false, false, false, true, false, false, false]]
def sr_p227 : List Nat := [0, 9, 41, 42, 66, 74, 80]
/-- 228: X12_seasonAt -/
def sr_b228 : List (List sr_I) := [[(.aload 0, []), (.iload 1, []), (.iload 2, []), (.iload 3, []), (.invokevirtual 0, [227, 4, 11]), (.istore 4, []), (.iload 4, []), (.sipush 0, [1, 0]), (.if_icmp .ne 0, [228001]), (.sipush 0, [4]), (.goto 0, [228002])],
  [(.aload 0, []), (.iload 4, []), (.invokevirtual 0, [219, 2, 11]), (.nop, [228002])],
  [(.ireturn, [])]]
def sr_m228 : List (List Bool) := [[true, true, true, true, false], [true, false, false, false, true], [false, false, false, false, false]]
def sr_p228 : List Nat := [0, 19, 25]
/-- 229: X12_wholeMany -/
def sr_b229 : List (List sr_I) := [[(.sipush 0, [0]), (.istore 2, []), (.sipush 0, [0]), (.istore 3, []), (.nop, [229001])],
  [(.iload 3, []), (.aload 0, []), (.getfield 0, [11, 3]), (.sipush 0, [2]), (.iaload, []), (.if_icmp .ge 0, [229004]), (.iload 2, []), (.aload 0, []), (.iload 3, []), (.invokevirtual 0, [218, 2, 11]), (.ifCond .eq 0, [229002]), (.aload 0, []), (.getfield 0, [11, 48]), (.sipush 0, [5]), (.iload 1, []), (.imul, []), (.iload 3, []), (.iadd, []), (.iaload, []), (.invokestatic 0, [217, 1]), (.goto 0, [229003])],
  [(.sipush 0, [0]), (.nop, [229003])],
  [(.iadd, []), (.istore 2, []), (.iinc 3 0, [1]), (.goto 0, [229001])],
  [(.iload 2, []), (.ireturn, [])]]
def sr_m229 : List (List Bool) := [[true, true, false, false], [true, true, true, true], [true, true, false, true], [true, true, false, true], [false, false, true, false]]
def sr_p229 : List Nat := [0, 4, 39, 40, 48]
/-- 230: X12_turnsOf -/
def sr_b230 : List (List sr_I) := [[(.iload 0, []), (.iload 1, []), (.isub, []), (.sipush 0, [4]), (.iadd, []), (.sipush 0, [4]), (.irem, []), (.ireturn, [])]]
def sr_m230 : List (List Bool) := [[true, true]]
def sr_p230 : List Nat := [0]
/-- 231: X12_callsFolk -/
def sr_b231 : List (List sr_I) := [[(.aload 0, []), (.iload 1, []), (.iload 3, []), (.iload 4, []), (.invokevirtual 0, [227, 4, 11]), (.istore 6, []), (.aload 0, []), (.getfield 0, [11, 39]), (.sipush 0, [0]), (.aload 0, []), (.iload 1, []), (.iload 3, []), (.iload 4, []), (.invokevirtual 0, [228, 4, 11]), (.i2l, []), (.lastore, []), (.aload 0, []), (.getfield 0, [11, 39]), (.sipush 0, [1]), (.iload 5, []), (.i2l, []), (.lastore, []), (.aload 0, []), (.getfield 0, [11, 39]), (.sipush 0, [2]), (.aload 0, []), (.getfield 0, [11, 49]), (.sipush 0, [6]), (.iload 1, []), (.imul, []), (.iload 2, []), (.iadd, []), (.iaload, []), (.i2l, []), (.lastore, []), (.aload 0, []), (.getfield 0, [11, 39]), (.sipush 0, [3]), (.aload 0, []), (.getfield 0, [11, 52]), (.sipush 0, [6]), (.iload 1, []), (.imul, []), (.iload 2, []), (.iadd, []), (.iaload, []), (.i2l, []), (.lastore, []), (.aload 0, []), (.getfield 0, [11, 39]), (.sipush 0, [4]), (.iload 6, []), (.sipush 0, [1, 0]), (.if_icmp .ne 0, [231001]), (.lconst 0, [0]), (.goto 0, [231002])],
  [(.aload 0, []), (.iload 1, []), (.iload 6, []), (.iload 3, []), (.iload 4, []), (.invokevirtual 0, [226, 5, 11]), (.i2l, []), (.nop, [231002])],
  [(.lastore, []), (.aload 0, []), (.getfield 0, [11, 39]), (.sipush 0, [5]), (.aload 0, []), (.iload 1, []), (.invokevirtual 0, [229, 2, 11]), (.i2l, []), (.lastore, []), (.aload 0, []), (.getfield 0, [11, 39]), (.sipush 0, [6]), (.aload 0, []), (.getfield 0, [11, 42]), (.iload 1, []), (.iaload, []), (.i2l, []), (.lastore, []), (.return_, [])]]
def sr_m231 : List (List Bool) := [[true, true, true, true, true, true, false], [true, true, false, true, true, false, true], [true, true, false, false, false, false, false]]
def sr_p231 : List Nat := [0, 85, 96]
/-- 232: X12_callsScreen -/
def sr_b232 : List (List sr_I) := [[(.aload 0, []), (.getfield 0, [11, 48]), (.sipush 0, [5]), (.iload 1, []), (.imul, []), (.iload 2, []), (.iadd, []), (.iaload, []), (.invokestatic 0, [217, 1]), (.istore 3, []), (.aload 0, []), (.getfield 0, [11, 39]), (.sipush 0, [0]), (.aload 0, []), (.iload 2, []), (.invokevirtual 0, [219, 2, 11]), (.i2l, []), (.lastore, []), (.aload 0, []), (.getfield 0, [11, 39]), (.sipush 0, [1]), (.lconst 0, [0]), (.lastore, []), (.aload 0, []), (.getfield 0, [11, 39]), (.sipush 0, [2]), (.lconst 0, [0]), (.lastore, []), (.aload 0, []), (.getfield 0, [11, 39]), (.sipush 0, [3]), (.lconst 0, [0]), (.lastore, []), (.aload 0, []), (.getfield 0, [11, 39]), (.sipush 0, [4]), (.aload 0, []), (.getfield 0, [11, 8]), (.iload 2, []), (.iaload, []), (.iload 3, []), (.isub, []), (.i2l, []), (.lastore, []), (.aload 0, []), (.getfield 0, [11, 39]), (.sipush 0, [5]), (.iload 3, []), (.i2l, []), (.lastore, []), (.aload 0, []), (.getfield 0, [11, 39]), (.sipush 0, [6]), (.aload 0, []), (.getfield 0, [11, 42]), (.iload 1, []), (.iaload, []), (.i2l, []), (.lastore, []), (.return_, [])]]
def sr_m232 : List (List Bool) := [[true, true, true, false]]
def sr_p232 : List Nat := [0]
/-- 233: X12_within -/
def sr_b233 : List (List sr_I) := [[(.aload 0, []), (.iload 1, []), (.invokevirtual 0, [210, 2, 11]), (.ifCond .eq 0, [233001]), (.aload 0, []), (.iload 1, []), (.invokevirtual 0, [209, 2, 11]), (.ifCond .ne 0, [233002]), (.nop, [233001])],
  [(.iload 3, []), (.ireturn, [])],
  [(.lconst 0, [0]), (.iload 2, []), (.i2l, []), (.aload 0, []), (.getfield 0, [11, 40]), (.sipush 0, [0]), (.laload, []), (.invokestatic 0, [3]), (.invokestatic 0, [4]), (.l2i, []), (.ireturn, [])]]
def sr_m233 : List (List Bool) := [[true, true, true, true], [false, false, false, true], [true, false, true, false]]
def sr_p233 : List Nat := [0, 16, 18]
/-- 234: X12_carries -/
def sr_b234 : List (List sr_I) := [[(.sipush 0, [5]), (.iload 1, []), (.imul, []), (.iload 2, []), (.iadd, []), (.istore 5, []), (.aload 0, []), (.getfield 0, [11, 45]), (.iload 5, []), (.iaload, []), (.istore 6, []), (.aload 0, []), (.getfield 0, [11, 46]), (.iload 5, []), (.iaload, []), (.istore 7, []), (.aload 0, []), (.getfield 0, [11, 45]), (.iload 5, []), (.iload 3, []), (.iastore, []), (.aload 0, []), (.getfield 0, [11, 46]), (.iload 5, []), (.iload 4, []), (.iastore, []), (.aload 0, []), (.iload 1, []), (.iload 2, []), (.invokevirtual 0, [225, 3, 11]), (.ifCond .eq 0, [234001]), (.sipush 0, [1]), (.ireturn, [1])],
  [(.aload 0, []), (.getfield 0, [11, 45]), (.iload 5, []), (.iload 6, []), (.iastore, []), (.aload 0, []), (.getfield 0, [11, 46]), (.iload 5, []), (.iload 7, []), (.iastore, []), (.sipush 0, [0]), (.ireturn, [1])]]
def sr_m234 : List (List Bool) := [[true, true, true, true, true, false, false, false], [true, false, false, false, false, true, true, true]]
def sr_p234 : List Nat := [0, 53]
/-- 235: X12_rowBy -/
def sr_b235 : List (List sr_I) := [[(.iload 0, []), (.ifCond .ne 0, [235001]), (.sipush 0, [1, 0]), (.goto 0, [235003])],
  [(.iload 0, []), (.sipush 0, [2]), (.if_icmp .ne 0, [235002]), (.sipush 0, [1]), (.goto 0, [235003])],
  [(.sipush 0, [0]), (.nop, [235003])],
  [(.ireturn, [])]]
def sr_m235 : List (List Bool) := [[true], [true], [false], [false]]
def sr_p235 : List Nat := [0, 8, 17, 18]
/-- 236: X12_columnBy -/
def sr_b236 : List (List sr_I) := [[(.iload 0, []), (.sipush 0, [1]), (.if_icmp .ne 0, [236001]), (.sipush 0, [1]), (.goto 0, [236003])],
  [(.iload 0, []), (.sipush 0, [3]), (.if_icmp .ne 0, [236002]), (.sipush 0, [1, 0]), (.goto 0, [236003])],
  [(.sipush 0, [0]), (.nop, [236003])],
  [(.ireturn, [])]]
def sr_m236 : List (List Bool) := [[true], [true], [false], [false]]
def sr_p236 : List Nat := [0, 9, 18, 19]
/-- 237: X12_isOpen -/
def sr_b237 : List (List sr_I) := [[(.aload 0, []), (.iload 2, []), (.iload 3, []), (.invokevirtual 0, [216, 3, 11]), (.ifCond .eq 0, [237001]), (.aload 0, []), (.iload 1, []), (.iload 2, []), (.iload 3, []), (.invokevirtual 0, [223, 4, 11]), (.sipush 0, [1, 0]), (.if_icmp .ne 0, [237001]), (.sipush 0, [1]), (.goto 0, [237002])],
  [(.sipush 0, [0]), (.nop, [237002])],
  [(.ireturn, [1])]]
def sr_m237 : List (List Bool) := [[true, true, true, true], [false, false, false, false], [false, false, false, false]]
def sr_p237 : List Nat := [0, 24, 25]
/-- 238: X12_canStep -/
def sr_b238 : List (List sr_I) := [[(.aload 0, []), (.iload 1, []), (.aload 0, []), (.getfield 0, [11, 50]), (.sipush 0, [6]), (.iload 1, []), (.imul, []), (.iload 2, []), (.iadd, []), (.iaload, []), (.iload 3, []), (.invokestatic 0, [235, 1]), (.iadd, []), (.aload 0, []), (.getfield 0, [11, 51]), (.sipush 0, [6]), (.iload 1, []), (.imul, []), (.iload 2, []), (.iadd, []), (.iaload, []), (.iload 3, []), (.invokestatic 0, [236, 1]), (.iadd, []), (.invokevirtual 0, [237, 4, 11]), (.ireturn, [1])]]
def sr_m238 : List (List Bool) := [[true, true, true, true]]
def sr_p238 : List Nat := [0]
/-- 239: X12_goesBy -/
def sr_b239 : List (List sr_I) := [[(.sipush 0, [6]), (.iload 1, []), (.imul, []), (.iload 2, []), (.iadd, []), (.istore 4, []), (.aload 0, []), (.iload 1, []), (.aload 0, []), (.getfield 0, [11, 50]), (.iload 4, []), (.iaload, []), (.aload 0, []), (.getfield 0, [11, 51]), (.iload 4, []), (.iaload, []), (.invokevirtual 0, [228, 4, 11]), (.istore 5, []), (.aload 0, []), (.getfield 0, [11, 50]), (.iload 4, []), (.dup2, []), (.iaload, []), (.iload 3, []), (.invokestatic 0, [235, 1]), (.iadd, []), (.iastore, []), (.aload 0, []), (.getfield 0, [11, 51]), (.iload 4, []), (.dup2, []), (.iaload, []), (.iload 3, []), (.invokestatic 0, [236, 1]), (.iadd, []), (.iastore, []), (.aload 0, []), (.iload 1, []), (.aload 0, []), (.getfield 0, [11, 50]), (.iload 4, []), (.iaload, []), (.aload 0, []), (.getfield 0, [11, 51]), (.iload 4, []), (.iaload, []), (.invokevirtual 0, [228, 4, 11]), (.istore 6, []), (.iload 6, []), (.iload 5, []), (.if_icmp .ne 0, [239001]), (.return_, [])],
  [(.aload 0, []), (.iload 1, []), (.iload 2, []), (.aload 0, []), (.getfield 0, [11, 50]), (.iload 4, []), (.iaload, []), (.aload 0, []), (.getfield 0, [11, 51]), (.iload 4, []), (.iaload, []), (.iload 5, []), (.invokevirtual 0, [231, 6, 11]), (.aload 0, []), (.getfield 0, [11, 49]), (.iload 4, []), (.sipush 0, [999]), (.aload 0, []), (.getfield 0, [11, 49]), (.iload 4, []), (.iaload, []), (.aload 0, []), (.sipush 0, [0]), (.sipush 0, [9]), (.iload 6, []), (.iload 5, []), (.invokestatic 0, [230, 2]), (.invokevirtual 0, [233, 4, 11]), (.iadd, []), (.invokestatic 0, [0]), (.iastore, []), (.return_, [])]]
def sr_m239 : List (List Bool) := [[true, true, true, true, false, false, false], [true, true, true, false, true, true, true]]
def sr_p239 : List Nat := [0, 86]
/-- 240: X12_hasWork -/
def sr_b240 : List (List sr_I) := [[(.aload 0, []), (.iload 1, []), (.aload 0, []), (.getfield 0, [11, 50]), (.sipush 0, [6]), (.iload 1, []), (.imul, []), (.iload 2, []), (.iadd, []), (.iaload, []), (.aload 0, []), (.getfield 0, [11, 51]), (.sipush 0, [6]), (.iload 1, []), (.imul, []), (.iload 2, []), (.iadd, []), (.iaload, []), (.invokevirtual 0, [228, 4, 11]), (.aload 0, []), (.getfield 0, [11, 14]), (.iload 2, []), (.iaload, []), (.if_icmp .ne 0, [240001]), (.sipush 0, [1]), (.goto 0, [240002])],
  [(.sipush 0, [0]), (.nop, [240002])],
  [(.ireturn, [1])]]
def sr_m240 : List (List Bool) := [[true, true, true], [false, false, false], [false, false, false]]
def sr_p240 : List Nat := [0, 40, 41]
/-- 241: X12_works_ -/
def sr_b241 : List (List sr_I) := [[(.sipush 0, [6]), (.iload 1, []), (.imul, []), (.iload 2, []), (.iadd, []), (.istore 3, []), (.aload 0, []), (.iload 1, []), (.iload 2, []), (.aload 0, []), (.getfield 0, [11, 50]), (.iload 3, []), (.iaload, []), (.aload 0, []), (.getfield 0, [11, 51]), (.iload 3, []), (.iaload, []), (.aload 0, []), (.getfield 0, [11, 14]), (.iload 2, []), (.iaload, []), (.invokevirtual 0, [231, 6, 11]), (.aload 0, []), (.getfield 0, [11, 52]), (.iload 3, []), (.sipush 0, [9999]), (.aload 0, []), (.getfield 0, [11, 52]), (.iload 3, []), (.iaload, []), (.aload 0, []), (.sipush 0, [1]), (.sipush 0, [99]), (.sipush 0, [1]), (.invokevirtual 0, [233, 4, 11]), (.iadd, []), (.invokestatic 0, [0]), (.iastore, []), (.return_, [])]]
def sr_m241 : List (List Bool) := [[true, true, true, false]]
def sr_p241 : List Nat := [0]
/-- 242: X12_isCutNow -/
def sr_b242 : List (List sr_I) := [[(.aload 0, []), (.getfield 0, [11, 58]), (.sipush 0, [1]), (.if_icmp .ne 0, [242001]), (.sipush 0, [0]), (.ireturn, [1])],
  [(.aload 0, []), (.iload 1, []), (.iload 2, []), (.invokevirtual 0, [232, 3, 11]), (.aload 0, []), (.sipush 0, [2]), (.sipush 0, [100]), (.aload 0, []), (.getfield 0, [11, 3]), (.sipush 0, [6]), (.iaload, []), (.invokevirtual 0, [233, 4, 11]), (.istore 4, []), (.iload 3, []), (.ifCond .eq 0, [242002]), (.iload 4, []), (.ifCond .eq 0, [242002]), (.iload 4, []), (.sipush 0, [100]), (.if_icmp .ne 0, [242005]), (.nop, [242002])],
  [(.iload 4, []), (.sipush 0, [50]), (.if_icmp .lt 0, [242003]), (.sipush 0, [1]), (.goto 0, [242004])],
  [(.sipush 0, [0]), (.nop, [242004])],
  [(.ireturn, [1])],
  [(.aload 0, []), (.getfield 0, [11, 43]), (.iload 1, []), (.aload 0, []), (.getfield 0, [11, 43]), (.iload 1, []), (.iaload, []), (.sipush 0, [1103515245]), (.imul, []), (.sipush 0, [12345]), (.iadd, []), (.sipush 0, [2147483647]), (.iand, []), (.iastore, []), (.aload 0, []), (.getfield 0, [11, 43]), (.iload 1, []), (.iaload, []), (.sipush 0, [16]), (.ishr, []), (.sipush 0, [100]), (.irem, []), (.iload 4, []), (.if_icmp .ge 0, [242006]), (.sipush 0, [1]), (.goto 0, [242007])],
  [(.sipush 0, [0]), (.nop, [242007])],
  [(.ireturn, [1])]]
def sr_m242 : List (List Bool) := [[true, true, true, true, false], [true, true, true, true, false], [false, false, false, false, true], [false, false, false, false, false], [false, false, false, false, false], [true, true, false, false, true], [false, false, false, false, false], [false, false, false, false, false]]
def sr_p242 : List Nat := [0, 10, 48, 59, 60, 61, 106, 107]
/-- 243: X12_cuts -/
def sr_b243 : List (List sr_I) := [[(.sipush 0, [0]), (.istore 3, []), (.nop, [243001])],
  [(.iload 3, []), (.aload 0, []), (.getfield 0, [11, 3]), (.sipush 0, [2]), (.iaload, []), (.if_icmp .ge 0, [243003]), (.sipush 0, [5]), (.iload 1, []), (.imul, []), (.iload 3, []), (.iadd, []), (.istore 4, []), (.aload 0, []), (.iload 3, []), (.invokevirtual 0, [218, 2, 11]), (.ifCond .eq 0, [243002]), (.aload 0, []), (.getfield 0, [11, 48]), (.iload 4, []), (.iaload, []), (.ifCond .eq 0, [243002]), (.aload 0, []), (.iload 1, []), (.iload 3, []), (.iload 2, []), (.invokevirtual 0, [242, 4, 11]), (.ifCond .eq 0, [243002]), (.aload 0, []), (.getfield 0, [11, 48]), (.iload 4, []), (.dup2, []), (.iaload, []), (.aload 0, []), (.getfield 0, [11, 48]), (.iload 4, []), (.iaload, []), (.sipush 0, [1]), (.isub, []), (.iand, []), (.iastore, []), (.nop, [243002])],
  [(.iinc 3 0, [1]), (.goto 0, [243001])],
  [(.return_, [])]]
def sr_m243 : List (List Bool) := [[true, true, true, false, false], [true, true, true, true, false], [true, true, true, true, false], [false, false, false, false, false]]
def sr_p243 : List Nat := [0, 2, 66, 72]
/-- 244: X12_passes -/
def sr_b244 : List (List sr_I) := [[(.sipush 0, [0]), (.istore 3, []), (.nop, [244001])],
  [(.iload 3, []), (.aload 0, []), (.getfield 0, [11, 3]), (.sipush 0, [4]), (.iaload, []), (.if_icmp .ge 0, [244004]), (.aload 0, []), (.getfield 0, [11, 58]), (.sipush 0, [3]), (.if_icmp .eq 0, [244004]), (.aload 0, []), (.getfield 0, [11, 16]), (.iload 3, []), (.iaload, []), (.aload 0, []), (.getfield 0, [11, 42]), (.iload 1, []), (.iaload, []), (.if_icmp .ne 0, [244003]), (.aload 0, []), (.aload 0, []), (.getfield 0, [11, 15]), (.iload 3, []), (.iaload, []), (.invokevirtual 0, [218, 2, 11]), (.ifCond .ne 0, [244002]), (.goto 0, [244003])],
  [(.aload 0, []), (.iload 1, []), (.aload 0, []), (.getfield 0, [11, 15]), (.iload 3, []), (.iaload, []), (.aload 0, []), (.getfield 0, [11, 17]), (.iload 3, []), (.iaload, []), (.aload 0, []), (.getfield 0, [11, 18]), (.iload 3, []), (.iaload, []), (.invokevirtual 0, [234, 5, 11]), (.ifCond .ne 0, [244003]), (.aload 0, []), (.getfield 0, [11, 44]), (.iload 1, []), (.dup2, []), (.iaload, []), (.sipush 0, [1]), (.iadd, []), (.iastore, []), (.nop, [244003])],
  [(.iinc 3 0, [1]), (.goto 0, [244001])],
  [(.sipush 0, [0]), (.istore 3, []), (.nop, [244005])],
  [(.iload 3, []), (.aload 0, []), (.getfield 0, [11, 3]), (.sipush 0, [5]), (.iaload, []), (.if_icmp .ge 0, [244009]), (.aload 0, []), (.getfield 0, [11, 58]), (.sipush 0, [4]), (.if_icmp .eq 0, [244009]), (.aload 0, []), (.getfield 0, [11, 20]), (.iload 3, []), (.iaload, []), (.aload 0, []), (.getfield 0, [11, 42]), (.iload 1, []), (.iaload, []), (.if_icmp .eq 0, [244006]), (.goto 0, [244008])],
  [(.aload 0, []), (.iload 1, []), (.aload 0, []), (.getfield 0, [11, 19]), (.iload 3, []), (.iaload, []), (.aload 0, []), (.getfield 0, [11, 21]), (.iload 3, []), (.iaload, []), (.invokevirtual 0, [238, 4, 11]), (.ifCond .eq 0, [244007]), (.aload 0, []), (.iload 1, []), (.aload 0, []), (.getfield 0, [11, 19]), (.iload 3, []), (.iaload, []), (.aload 0, []), (.getfield 0, [11, 21]), (.iload 3, []), (.iaload, []), (.invokevirtual 0, [239, 4, 11]), (.goto 0, [244008])],
  [(.aload 0, []), (.getfield 0, [11, 44]), (.iload 1, []), (.dup2, []), (.iaload, []), (.sipush 0, [1]), (.iadd, []), (.iastore, []), (.nop, [244008])],
  [(.iinc 3 0, [1]), (.goto 0, [244005])],
  [(.sipush 0, [0]), (.istore 3, []), (.nop, [244010])],
  [(.iload 3, []), (.aload 0, []), (.getfield 0, [11, 3]), (.sipush 0, [3]), (.iaload, []), (.if_icmp .ge 0, [244012]), (.aload 0, []), (.iload 1, []), (.iload 3, []), (.invokevirtual 0, [240, 3, 11]), (.ifCond .eq 0, [244011]), (.aload 0, []), (.iload 1, []), (.iload 3, []), (.invokevirtual 0, [241, 3, 11]), (.nop, [244011])],
  [(.iinc 3 0, [1]), (.goto 0, [244010])],
  [(.aload 0, []), (.getfield 0, [11, 42]), (.iload 1, []), (.iaload, []), (.sipush 0, [10]), (.irem, []), (.sipush 0, [9]), (.if_icmp .ne 0, [244013]), (.aload 0, []), (.iload 1, []), (.iload 2, []), (.invokevirtual 0, [243, 3, 11]), (.nop, [244013])],
  [(.aload 0, []), (.getfield 0, [11, 42]), (.iload 1, []), (.dup2, []), (.iaload, []), (.sipush 0, [1]), (.iadd, []), (.iastore, []), (.return_, [])]]
def sr_m244 : List (List Bool) := [[true, true, true, false], [true, true, true, true], [true, true, true, true], [true, true, true, true], [true, true, true, false], [true, true, true, true], [true, true, true, true], [true, true, true, true], [true, true, true, true], [true, true, true, false], [true, true, true, true], [true, true, true, true], [true, true, true, false], [true, true, false, false]]
def sr_p244 : List Nat := [0, 2, 51, 87, 93, 95, 131, 171, 181, 187, 189, 214, 220, 240]
/-- 245: X12_goesOn -/
def sr_b245 : List (List sr_I) := [[(.sipush 0, [0]), (.istore 2, []), (.nop, [245001])],
  [(.iload 2, []), (.iload 1, []), (.if_icmp .ge 0, [245002]), (.aload 0, []), (.sipush 0, [1]), (.sipush 0, [0]), (.invokevirtual 0, [244, 3, 11]), (.iinc 2 0, [1]), (.goto 0, [245001])],
  [(.return_, [])]]
def sr_m245 : List (List Bool) := [[true, true, false], [true, true, true], [false, false, false]]
def sr_p245 : List Nat := [0, 2, 19]
/-- 246: X12_doneAll -/
def sr_b246 : List (List sr_I) := [[(.sipush 0, [0]), (.istore 2, []), (.sipush 0, [0]), (.istore 3, []), (.nop, [246001])],
  [(.iload 3, []), (.aload 0, []), (.getfield 0, [11, 3]), (.sipush 0, [3]), (.iaload, []), (.if_icmp .ge 0, [246002]), (.iload 2, []), (.aload 0, []), (.getfield 0, [11, 52]), (.sipush 0, [6]), (.iload 1, []), (.imul, []), (.iload 3, []), (.iadd, []), (.iaload, []), (.iadd, []), (.istore 2, []), (.iinc 3 0, [1]), (.goto 0, [246001])],
  [(.iload 2, []), (.ireturn, [])]]
def sr_m246 : List (List Bool) := [[true, true, false, false], [true, true, true, true], [false, false, true, false]]
def sr_p246 : List Nat := [0, 4, 34]
/-- 247: X12_cellsOf -/
def sr_b247 : List (List sr_I) := [[(.sipush 0, [0]), (.istore 3, []), (.sipush 0, [0]), (.istore 4, []), (.nop, [247001])],
  [(.iload 4, []), (.aload 0, []), (.getfield 0, [11, 3]), (.sipush 0, [0]), (.iaload, []), (.if_icmp .ge 0, [247006]), (.sipush 0, [0]), (.istore 5, []), (.nop, [247002])],
  [(.iload 5, []), (.aload 0, []), (.getfield 0, [11, 3]), (.sipush 0, [1]), (.iaload, []), (.if_icmp .ge 0, [247005]), (.iload 3, []), (.aload 0, []), (.iload 1, []), (.iload 4, []), (.iload 5, []), (.invokevirtual 0, [228, 4, 11]), (.iload 2, []), (.if_icmp .ne 0, [247003]), (.sipush 0, [1]), (.goto 0, [247004])],
  [(.sipush 0, [0]), (.nop, [247004])],
  [(.iadd, []), (.istore 3, []), (.iinc 5 0, [1]), (.goto 0, [247002])],
  [(.iinc 4 0, [1]), (.goto 0, [247001])],
  [(.iload 3, []), (.ireturn, [])]]
def sr_m247 : List (List Bool) := [[true, true, true, false, false, false], [true, true, true, true, true, false], [true, true, true, true, true, true], [true, true, true, false, true, true], [true, true, true, false, true, true], [true, true, true, true, true, false], [false, false, false, true, false, false]]
def sr_p247 : List Nat := [0, 5, 19, 48, 49, 57, 63]
/-- 248: X12_workers -/
def sr_b248 : List (List sr_I) := [[(.sipush 0, [0]), (.istore 2, []), (.sipush 0, [0]), (.istore 3, []), (.nop, [248001])],
  [(.iload 3, []), (.aload 0, []), (.getfield 0, [11, 3]), (.sipush 0, [3]), (.iaload, []), (.if_icmp .ge 0, [248004]), (.iload 2, []), (.aload 0, []), (.iload 1, []), (.iload 3, []), (.invokevirtual 0, [240, 3, 11]), (.ifCond .eq 0, [248002]), (.sipush 0, [1]), (.goto 0, [248003])],
  [(.sipush 0, [0]), (.nop, [248003])],
  [(.iadd, []), (.istore 2, []), (.iinc 3 0, [1]), (.goto 0, [248001])],
  [(.iload 2, []), (.ireturn, [])]]
def sr_m248 : List (List Bool) := [[true, true, false, false], [true, true, true, true], [true, true, false, true], [true, true, false, true], [false, false, true, false]]
def sr_p248 : List Nat := [0, 4, 28, 29, 37]
/-- 249: X12_folk -/
def sr_b249 : List (List sr_I) := [[(.aload 0, []), (.aload 0, []), (.iload 1, []), (.invokevirtual 0, [215, 2, 11]), (.ifCond .ne 0, [249001]), (.sipush 0, [1]), (.goto 0, [249004])],
  [(.iload 2, []), (.ifCond .lt 0, [249002]), (.iload 2, []), (.sipush 0, [5]), (.if_icmp .le 0, [249003]), (.nop, [249002])],
  [(.sipush 0, [2]), (.goto 0, [249004])],
  [(.sipush 0, [0]), (.nop, [249004])],
  [(.putfield 0, [11, 0, 0]), (.aload 0, []), (.getfield 0, [11, 0]), (.ifCond .eq 0, [249005]), (.sipush 0, [0]), (.ireturn, [])],
  [(.iload 2, []), (.tableswitch 0 0 4 #[], [249011, 249006, 249007, 249008, 249009, 249010])],
  [(.aload 0, []), (.getfield 0, [11, 49]), (.iload 1, []), (.iaload, []), (.ireturn, [])],
  [(.aload 0, []), (.getfield 0, [11, 50]), (.iload 1, []), (.iaload, []), (.ireturn, [])],
  [(.aload 0, []), (.getfield 0, [11, 51]), (.iload 1, []), (.iaload, []), (.ireturn, [])],
  [(.aload 0, []), (.getfield 0, [11, 14]), (.iload 1, []), (.iaload, []), (.ireturn, [])],
  [(.aload 0, []), (.getfield 0, [11, 52]), (.iload 1, []), (.iaload, []), (.ireturn, [])],
  [(.aload 0, []), (.sipush 0, [0]), (.aload 0, []), (.getfield 0, [11, 50]), (.iload 1, []), (.iaload, []), (.aload 0, []), (.getfield 0, [11, 51]), (.iload 1, []), (.iaload, []), (.invokevirtual 0, [228, 4, 11]), (.ireturn, [])]]
def sr_m249 : List (List Bool) := [[true, true, true], [true, true, true], [true, true, true], [true, true, true], [true, true, true], [true, true, true], [true, true, false], [true, true, false], [true, true, false], [true, true, false], [true, true, false], [true, true, false]]
def sr_p249 : List Nat := [0, 13, 22, 26, 27, 39, 76, 83, 90, 97, 104, 111]
/-- 250: X12_screen -/
def sr_b250 : List (List sr_I) := [[(.aload 0, []), (.sipush 0, [0]), (.putfield 0, [11, 0, 0]), (.aload 0, []), (.iload 1, []), (.invokevirtual 0, [214, 2, 11]), (.ifCond .ne 0, [250001]), (.sipush 0, [1, 0]), (.ireturn, [])],
  [(.iload 2, []), (.tableswitch 0 0 5 #[], [250008, 250002, 250003, 250004, 250005, 250006, 250007])],
  [(.aload 0, []), (.getfield 0, [11, 5]), (.iload 1, []), (.iaload, []), (.ireturn, [])],
  [(.aload 0, []), (.getfield 0, [11, 45]), (.iload 1, []), (.iaload, []), (.ireturn, [])],
  [(.aload 0, []), (.getfield 0, [11, 46]), (.iload 1, []), (.iaload, []), (.ireturn, [])],
  [(.aload 0, []), (.getfield 0, [11, 8]), (.iload 1, []), (.iaload, []), (.ireturn, [])],
  [(.aload 0, []), (.getfield 0, [11, 47]), (.iload 1, []), (.iaload, []), (.ireturn, [])],
  [(.aload 0, []), (.getfield 0, [11, 48]), (.iload 1, []), (.iaload, []), (.ireturn, [])],
  [(.sipush 0, [1, 0]), (.ireturn, [])]]
def sr_m250 : List (List Bool) := [[true, true, true], [true, true, true], [true, true, false], [true, true, false], [true, true, false], [true, true, false], [true, true, false], [true, true, false], [false, false, false]]
def sr_p250 : List Nat := [0, 15, 56, 63, 70, 77, 84, 91, 98]
/-- 251: X12_season -/
def sr_b251 : List (List sr_I) := [[(.aload 0, []), (.sipush 0, [0]), (.putfield 0, [11, 0, 0]), (.aload 0, []), (.iload 1, []), (.iload 2, []), (.invokevirtual 0, [216, 3, 11]), (.ifCond .eq 0, [251001]), (.aload 0, []), (.sipush 0, [0]), (.iload 1, []), (.iload 2, []), (.invokevirtual 0, [228, 4, 11]), (.goto 0, [251002])],
  [(.sipush 0, [1, 0]), (.nop, [251002])],
  [(.ireturn, [])]]
def sr_m251 : List (List Bool) := [[true, true, true], [false, false, false], [false, false, false]]
def sr_p251 : List Nat := [0, 24, 25]
/-- 252: X12_leaf -/
def sr_b252 : List (List sr_I) := [[(.aload 0, []), (.sipush 0, [0]), (.putfield 0, [11, 0, 0]), (.aload 0, []), (.iload 1, []), (.iload 2, []), (.invokevirtual 0, [216, 3, 11]), (.ifCond .ne 0, [252001]), (.sipush 0, [1, 0]), (.ireturn, [])],
  [(.aload 0, []), (.sipush 0, [0]), (.iload 1, []), (.iload 2, []), (.invokevirtual 0, [223, 4, 11]), (.istore 3, []), (.iload 3, []), (.sipush 0, [1, 0]), (.if_icmp .ne 0, [252002]), (.sipush 0, [2, 0]), (.goto 0, [252003])],
  [(.iload 3, []), (.nop, [252003])],
  [(.ireturn, [])]]
def sr_m252 : List (List Bool) := [[true, true, true, false], [true, true, true, false], [false, false, false, true], [false, false, false, false]]
def sr_p252 : List Nat := [0, 16, 34, 35]
/-- 253: X12_law -/
def sr_b253 : List (List sr_I) := [[(.aload 0, []), (.sipush 0, [0]), (.putfield 0, [11, 0, 0]), (.iload 1, []), (.ifCond .lt 0, [253002]), (.iload 1, []), (.sipush 0, [2]), (.if_icmp .gt 0, [253002]), (.aload 0, []), (.iload 1, []), (.invokevirtual 0, [210, 2, 11]), (.ifCond .eq 0, [253002]), (.iload 1, []), (.sipush 0, [2]), (.if_icmp .ne 0, [253001]), (.aload 0, []), (.iload 2, []), (.invokevirtual 0, [214, 2, 11]), (.ifCond .eq 0, [253002]), (.goto 0, [253003])],
  [(.aload 0, []), (.iload 2, []), (.invokevirtual 0, [215, 2, 11]), (.ifCond .ne 0, [253003]), (.nop, [253002])],
  [(.lconst 0, [9223372036854775808, 0]), (.lreturn, [])],
  [(.iload 1, []), (.sipush 0, [2]), (.if_icmp .ne 0, [253004]), (.aload 0, []), (.sipush 0, [0]), (.iload 2, []), (.invokevirtual 0, [232, 3, 11]), (.goto 0, [253007])],
  [(.aload 0, []), (.sipush 0, [0]), (.iload 2, []), (.aload 0, []), (.getfield 0, [11, 50]), (.iload 2, []), (.iaload, []), (.aload 0, []), (.getfield 0, [11, 51]), (.iload 2, []), (.iaload, []), (.iload 1, []), (.sipush 0, [1]), (.if_icmp .ne 0, [253005]), (.aload 0, []), (.getfield 0, [11, 14]), (.iload 2, []), (.iaload, []), (.goto 0, [253006])],
  [(.aload 0, []), (.sipush 0, [0]), (.aload 0, []), (.getfield 0, [11, 50]), (.iload 2, []), (.iaload, []), (.aload 0, []), (.getfield 0, [11, 51]), (.iload 2, []), (.iaload, []), (.invokevirtual 0, [228, 4, 11]), (.nop, [253006])],
  [(.invokevirtual 0, [231, 6, 11]), (.nop, [253007])],
  [(.aload 0, []), (.iload 1, []), (.invokevirtual 0, [209, 2, 11]), (.ifCond .eq 0, [253008]), (.aload 0, []), (.getfield 0, [11, 40]), (.sipush 0, [0]), (.laload, []), (.goto 0, [253009])],
  [(.lconst 0, [9223372036854775808, 0]), (.nop, [253009])],
  [(.lreturn, [])]]
def sr_m253 : List (List Bool) := [[true, true, true], [true, true, true], [false, false, false], [true, true, true], [true, true, true], [true, true, true], [true, true, false], [true, true, false], [false, false, false], [false, false, false]]
def sr_p253 : List Nat := [0, 38, 46, 50, 64, 93, 110, 113, 130, 133]
/-- 254: X12_keepNow -/
def sr_b254 : List (List sr_I) := [[(.aload 0, []), (.getfield 0, [11, 54]), (.sipush 0, [20]), (.if_icmp .ne 0, [254003]), (.sipush 0, [1]), (.istore 1, []), (.nop, [254001])],
  [(.iload 1, []), (.sipush 0, [20]), (.if_icmp .ge 0, [254002]), (.aload 0, []), (.sipush 0, [3]), (.iload 1, []), (.iadd, []), (.sipush 0, [1]), (.isub, []), (.sipush 0, [3]), (.iload 1, []), (.iadd, []), (.invokevirtual 0, [213, 3, 11]), (.iinc 1 0, [1]), (.goto 0, [254001])],
  [(.aload 0, []), (.dup, []), (.getfield 0, [11, 54]), (.sipush 0, [1]), (.isub, []), (.putfield 0, [11, 54, 0]), (.nop, [254003])],
  [(.aload 0, []), (.sipush 0, [3]), (.aload 0, []), (.getfield 0, [11, 54]), (.iadd, []), (.sipush 0, [0]), (.invokevirtual 0, [213, 3, 11]), (.aload 0, []), (.dup, []), (.getfield 0, [11, 54]), (.sipush 0, [1]), (.iadd, []), (.putfield 0, [11, 54, 0]), (.return_, [])]]
def sr_m254 : List (List Bool) := [[true, false], [true, true], [true, false], [true, false]]
def sr_p254 : List Nat := [0, 11, 35, 45]
/-- 255: X12_carry -/
def sr_b255 : List (List sr_I) := [[(.aload 0, []), (.sipush 0, [0]), (.putfield 0, [11, 0, 0]), (.aload 0, []), (.iload 1, []), (.invokevirtual 0, [214, 2, 11]), (.ifCond .eq 0, [255001]), (.aload 0, []), (.getfield 0, [11, 45]), (.iload 1, []), (.iaload, []), (.iload 2, []), (.if_icmp .ne 0, [255002]), (.aload 0, []), (.getfield 0, [11, 46]), (.iload 1, []), (.iaload, []), (.iload 3, []), (.if_icmp .ne 0, [255002]), (.nop, [255001])],
  [(.sipush 0, [0]), (.ireturn, [1])],
  [(.aload 0, []), (.sipush 0, [1]), (.sipush 0, [0]), (.invokevirtual 0, [213, 3, 11]), (.aload 0, []), (.sipush 0, [1]), (.iload 1, []), (.iload 2, []), (.iload 3, []), (.invokevirtual 0, [234, 5, 11]), (.ifCond .ne 0, [255003]), (.sipush 0, [0]), (.ireturn, [1])],
  [(.aload 0, []), (.invokevirtual 0, [254, 1, 11]), (.aload 0, []), (.sipush 0, [0]), (.sipush 0, [1]), (.invokevirtual 0, [213, 3, 11]), (.sipush 0, [1]), (.ireturn, [1])]]
def sr_m255 : List (List Bool) := [[true, true, true, true], [false, false, false, false], [true, true, true, true], [true, false, false, false]]
def sr_p255 : List Nat := [0, 33, 35, 54]
/-- 256: X12_turn -/
def sr_b256 : List (List sr_I) := [[(.aload 0, []), (.sipush 0, [0]), (.putfield 0, [11, 0, 0]), (.aload 0, []), (.iload 1, []), (.invokevirtual 0, [214, 2, 11]), (.ifCond .ne 0, [256001]), (.sipush 0, [0]), (.ireturn, [1])],
  [(.aload 0, []), (.sipush 0, [1]), (.sipush 0, [0]), (.invokevirtual 0, [213, 3, 11]), (.aload 0, []), (.getfield 0, [11, 47]), (.sipush 0, [5]), (.iload 1, []), (.iadd, []), (.sipush 0, [1]), (.aload 0, []), (.getfield 0, [11, 47]), (.iload 1, []), (.iaload, []), (.isub, []), (.iastore, []), (.aload 0, []), (.sipush 0, [1]), (.iload 1, []), (.invokevirtual 0, [225, 3, 11]), (.ifCond .ne 0, [256002]), (.sipush 0, [0]), (.ireturn, [1])],
  [(.aload 0, []), (.invokevirtual 0, [254, 1, 11]), (.aload 0, []), (.sipush 0, [0]), (.sipush 0, [1]), (.invokevirtual 0, [213, 3, 11]), (.sipush 0, [1]), (.ireturn, [1])]]
def sr_m256 : List (List Bool) := [[true, true], [true, true], [true, false]]
def sr_p256 : List Nat := [0, 15, 48]
/-- 257: X12_mend -/
def sr_b257 : List (List sr_I) := [[(.aload 0, []), (.sipush 0, [0]), (.putfield 0, [11, 0, 0]), (.aload 0, []), (.iload 1, []), (.invokevirtual 0, [214, 2, 11]), (.ifCond .ne 0, [257001]), (.sipush 0, [1, 0]), (.ireturn, [])],
  [(.sipush 0, [1]), (.aload 0, []), (.getfield 0, [11, 8]), (.iload 1, []), (.iaload, []), (.ishl, []), (.sipush 0, [1]), (.isub, []), (.istore 2, []), (.aload 0, []), (.getfield 0, [11, 48]), (.iload 1, []), (.iaload, []), (.iload 2, []), (.if_icmp .ne 0, [257002]), (.sipush 0, [2, 0]), (.ireturn, [])],
  [(.aload 0, []), (.invokevirtual 0, [254, 1, 11]), (.iload 2, []), (.aload 0, []), (.getfield 0, [11, 48]), (.iload 1, []), (.iaload, []), (.sipush 0, [1, 0]), (.ixor, []), (.iand, []), (.istore 3, []), (.aload 0, []), (.getfield 0, [11, 48]), (.iload 1, []), (.dup2, []), (.iaload, []), (.iload 3, []), (.iload 3, []), (.ineg, []), (.iand, []), (.ior, []), (.iastore, []), (.aload 0, []), (.getfield 0, [11, 48]), (.iload 1, []), (.iaload, []), (.invokestatic 0, [217, 1]), (.ireturn, [])]]
def sr_m257 : List (List Bool) := [[true, true, false, false], [true, true, false, false], [true, true, true, false]]
def sr_p257 : List Nat := [0, 15, 39]
/-- 258: X12_step -/
def sr_b258 : List (List sr_I) := [[(.aload 0, []), (.sipush 0, [0]), (.putfield 0, [11, 0, 0]), (.aload 0, []), (.iload 1, []), (.invokevirtual 0, [215, 2, 11]), (.ifCond .eq 0, [258001]), (.iload 2, []), (.ifCond .lt 0, [258001]), (.iload 2, []), (.sipush 0, [3]), (.if_icmp .le 0, [258002]), (.nop, [258001])],
  [(.sipush 0, [1, 0]), (.ireturn, [])],
  [(.aload 0, []), (.sipush 0, [0]), (.iload 1, []), (.iload 2, []), (.invokevirtual 0, [238, 4, 11]), (.ifCond .ne 0, [258003]), (.sipush 0, [2, 0]), (.ireturn, [])],
  [(.aload 0, []), (.invokevirtual 0, [254, 1, 11]), (.aload 0, []), (.sipush 0, [0]), (.iload 1, []), (.iload 2, []), (.invokevirtual 0, [239, 4, 11]), (.aload 0, []), (.getfield 0, [11, 49]), (.iload 1, []), (.iaload, []), (.ireturn, [])]]
def sr_m258 : List (List Bool) := [[true, true, true], [false, false, false], [true, true, true], [true, true, true]]
def sr_p258 : List Nat := [0, 22, 24, 37]
/-- 259: X12_go -/
def sr_b259 : List (List sr_I) := [[(.aload 0, []), (.sipush 0, [0]), (.putfield 0, [11, 0, 0]), (.iload 1, []), (.ifCond .lt 0, [259001]), (.iload 1, []), (.sipush 0, [99]), (.if_icmp .gt 0, [259001]), (.aload 0, []), (.getfield 0, [11, 42]), (.sipush 0, [0]), (.iaload, []), (.iload 1, []), (.iadd, []), (.sipush 0, [9900]), (.if_icmp .le 0, [259002]), (.nop, [259001])],
  [(.sipush 0, [1, 0]), (.ireturn, [])],
  [(.iload 1, []), (.ifCond .le 0, [259003]), (.aload 0, []), (.sipush 0, [0]), (.putfield 0, [11, 54, 0]), (.nop, [259003])],
  [(.sipush 0, [0]), (.istore 2, []), (.nop, [259004])],
  [(.iload 2, []), (.iload 1, []), (.if_icmp .ge 0, [259005]), (.aload 0, []), (.sipush 0, [0]), (.sipush 0, [1]), (.invokevirtual 0, [244, 3, 11]), (.iinc 2 0, [1]), (.goto 0, [259004])],
  [(.aload 0, []), (.getfield 0, [11, 42]), (.sipush 0, [0]), (.iaload, []), (.ireturn, [])]]
def sr_m259 : List (List Bool) := [[true, true, false], [false, false, false], [true, true, false], [true, true, false], [true, true, true], [true, false, false]]
def sr_p259 : List Nat := [0, 29, 31, 40, 42, 59]
/-- 260: X12_ahead -/
def sr_b260 : List (List sr_I) := [[(.aload 0, []), (.sipush 0, [0]), (.putfield 0, [11, 0, 0]), (.iload 1, []), (.ifCond .lt 0, [260002]), (.iload 1, []), (.sipush 0, [99]), (.if_icmp .gt 0, [260002]), (.iload 2, []), (.ifCond .lt 0, [260002]), (.iload 2, []), (.sipush 0, [4]), (.if_icmp .gt 0, [260002]), (.iload 2, []), (.sipush 0, [2]), (.if_icmp .ge 0, [260001]), (.aload 0, []), (.iload 3, []), (.invokevirtual 0, [215, 2, 11]), (.ifCond .eq 0, [260002]), (.nop, [260001])],
  [(.iload 2, []), (.sipush 0, [4]), (.if_icmp .ne 0, [260003]), (.iload 3, []), (.ifCond .lt 0, [260002]), (.iload 3, []), (.sipush 0, [4]), (.if_icmp .le 0, [260003]), (.nop, [260002])],
  [(.sipush 0, [1, 0]), (.ireturn, [])],
  [(.aload 0, []), (.sipush 0, [1]), (.sipush 0, [0]), (.invokevirtual 0, [213, 3, 11]), (.aload 0, []), (.iload 1, []), (.invokevirtual 0, [245, 2, 11]), (.iload 2, []), (.tableswitch 0 0 3 #[], [260008, 260004, 260005, 260006, 260007])],
  [(.aload 0, []), (.getfield 0, [11, 49]), (.sipush 0, [6]), (.iload 3, []), (.iadd, []), (.iaload, []), (.ireturn, [])],
  [(.aload 0, []), (.getfield 0, [11, 52]), (.sipush 0, [6]), (.iload 3, []), (.iadd, []), (.iaload, []), (.ireturn, [])],
  [(.aload 0, []), (.getfield 0, [11, 44]), (.sipush 0, [1]), (.iaload, []), (.aload 0, []), (.getfield 0, [11, 44]), (.sipush 0, [0]), (.iaload, []), (.isub, []), (.ireturn, [])],
  [(.aload 0, []), (.sipush 0, [1]), (.invokevirtual 0, [229, 2, 11]), (.ireturn, [])],
  [(.aload 0, []), (.sipush 0, [1]), (.iload 3, []), (.invokevirtual 0, [247, 3, 11]), (.ireturn, [])]]
def sr_m260 : List (List Bool) := [[true, true, true, true], [true, true, true, true], [false, false, false, false], [true, true, true, true], [true, false, false, true], [true, false, false, true], [true, false, false, false], [true, false, false, false], [true, false, false, true]]
def sr_p260 : List Nat := [0, 37, 51, 53, 96, 106, 116, 130, 136]
/-- 261: X12_layWays -/
def sr_b261 : List (List sr_I) := [[(.sipush 0, [0]), (.istore 5, []), (.nop, [261001])],
  [(.iload 5, []), (.sipush 0, [64]), (.if_icmp .ge 0, [261002]), (.aload 0, []), (.getfield 0, [11, 59]), (.sipush 0, [64]), (.iload 1, []), (.imul, []), (.iload 5, []), (.iadd, []), (.sipush 0, [99999]), (.iastore, []), (.iinc 5 0, [1]), (.goto 0, [261001])],
  [(.aload 0, []), (.getfield 0, [11, 59]), (.sipush 0, [64]), (.iload 1, []), (.imul, []), (.sipush 0, [8]), (.iload 2, []), (.imul, []), (.iadd, []), (.iload 3, []), (.iadd, []), (.sipush 0, [0]), (.iastore, []), (.sipush 0, [1]), (.istore 5, []), (.nop, [261003])],
  [(.iload 5, []), (.ifCond .eq 0, [261009]), (.sipush 0, [0]), (.istore 5, []), (.sipush 0, [0]), (.istore 6, []), (.nop, [261004])],
  [(.iload 6, []), (.sipush 0, [64]), (.if_icmp .ge 0, [261008]), (.aload 0, []), (.getfield 0, [11, 59]), (.sipush 0, [64]), (.iload 1, []), (.imul, []), (.iload 6, []), (.iadd, []), (.iaload, []), (.sipush 0, [99999]), (.if_icmp .ne 0, [261005]), (.goto 0, [261007])],
  [(.sipush 0, [0]), (.istore 7, []), (.nop, [261006])],
  [(.iload 7, []), (.sipush 0, [4]), (.if_icmp .ge 0, [261007]), (.iload 5, []), (.aload 0, []), (.iload 1, []), (.iload 6, []), (.iload 6, []), (.sipush 0, [8]), (.idiv, []), (.iload 7, []), (.invokestatic 0, [235, 1]), (.iadd, []), (.iload 6, []), (.sipush 0, [8]), (.irem, []), (.iload 7, []), (.invokestatic 0, [236, 1]), (.iadd, []), (.iload 4, []), (.invokevirtual 0, [262, 6, 11]), (.ior, []), (.istore 5, []), (.iinc 7 0, [1]), (.goto 0, [261006])],
  [(.iinc 6 0, [1]), (.goto 0, [261004])],
  [(.goto 0, [261003])],
  [(.return_, [])]]
def sr_m261 : List (List Bool) := [[true, true, true, true, true, false, false, false], [true, true, true, true, true, true, false, false], [true, true, true, true, true, false, false, false], [true, true, false, false, true, true, false, false], [true, true, false, false, true, true, true, false], [true, true, false, false, true, true, true, false], [true, true, false, false, true, true, true, true], [true, true, false, false, true, true, true, false], [true, true, false, false, true, true, false, false], [false, false, false, false, false, false, false, false]]
def sr_p261 : List Nat := [0, 3, 30, 50, 61, 88, 91, 139, 145, 148]
/-- 262: X12_isNearer -/
def sr_b262 : List (List sr_I) := [[(.aload 0, []), (.sipush 0, [0]), (.iload 3, []), (.iload 4, []), (.invokevirtual 0, [237, 4, 11]), (.ifCond .ne 0, [262001]), (.sipush 0, [0]), (.ireturn, [1])],
  [(.iload 5, []), (.ifCond .eq 0, [262002]), (.aload 0, []), (.sipush 0, [0]), (.iload 3, []), (.iload 4, []), (.invokevirtual 0, [228, 4, 11]), (.aload 0, []), (.sipush 0, [0]), (.iload 2, []), (.sipush 0, [8]), (.idiv, []), (.iload 2, []), (.sipush 0, [8]), (.irem, []), (.invokevirtual 0, [228, 4, 11]), (.invokestatic 0, [230, 2]), (.goto 0, [262003])],
  [(.sipush 0, [1]), (.nop, [262003])],
  [(.istore 6, []), (.aload 0, []), (.getfield 0, [11, 59]), (.sipush 0, [64]), (.iload 1, []), (.imul, []), (.iload 2, []), (.iadd, []), (.iaload, []), (.iload 6, []), (.iadd, []), (.istore 7, []), (.iload 7, []), (.aload 0, []), (.getfield 0, [11, 59]), (.sipush 0, [64]), (.iload 1, []), (.imul, []), (.sipush 0, [8]), (.iload 3, []), (.imul, []), (.iadd, []), (.iload 4, []), (.iadd, []), (.iaload, []), (.if_icmp .lt 0, [262004]), (.sipush 0, [0]), (.ireturn, [1])],
  [(.aload 0, []), (.getfield 0, [11, 59]), (.sipush 0, [64]), (.iload 1, []), (.imul, []), (.sipush 0, [8]), (.iload 3, []), (.imul, []), (.iadd, []), (.iload 4, []), (.iadd, []), (.iload 7, []), (.iastore, []), (.sipush 0, [1]), (.ireturn, [1])]]
def sr_m262 : List (List Bool) := [[true, true, true, true, true, true, false, false], [true, true, true, true, true, true, false, false], [true, true, true, true, true, false, false, false], [true, true, true, true, true, false, false, false], [true, true, false, true, true, false, false, true]]
def sr_p262 : List Nat := [0, 13, 45, 46, 88]
/-- 263: X12_wayFor -/
def sr_b263 : List (List sr_I) := [[(.aload 0, []), (.sipush 0, [0]), (.putfield 0, [11, 0, 0]), (.aload 0, []), (.iload 1, []), (.invokevirtual 0, [215, 2, 11]), (.ifCond .eq 0, [263001]), (.aload 0, []), (.iload 2, []), (.iload 3, []), (.invokevirtual 0, [216, 3, 11]), (.ifCond .ne 0, [263002]), (.nop, [263001])],
  [(.sipush 0, [1, 0]), (.ireturn, [])],
  [(.aload 0, []), (.sipush 0, [0]), (.aload 0, []), (.getfield 0, [11, 50]), (.iload 1, []), (.iaload, []), (.aload 0, []), (.getfield 0, [11, 51]), (.iload 1, []), (.iaload, []), (.iload 4, []), (.invokevirtual 0, [261, 5, 11]), (.aload 0, []), (.getfield 0, [11, 59]), (.sipush 0, [8]), (.iload 2, []), (.imul, []), (.iload 3, []), (.iadd, []), (.iaload, []), (.istore 5, []), (.iload 5, []), (.sipush 0, [99999]), (.if_icmp .ne 0, [263003]), (.sipush 0, [2, 0]), (.goto 0, [263004])],
  [(.iload 5, []), (.nop, [263004])],
  [(.ireturn, [])]]
def sr_m263 : List (List Bool) := [[true, true, true, true, true, false], [false, false, false, false, false, false], [true, true, true, true, true, false], [false, false, false, false, false, true], [false, false, false, false, false, false]]
def sr_p263 : List Nat := [0, 22, 24, 68, 70]
/-- 264: X12_steps -/
def sr_b264 : List (List sr_I) := [[(.aload 0, []), (.iload 1, []), (.iload 2, []), (.iload 3, []), (.sipush 0, [0]), (.invokevirtual 0, [263, 5, 11]), (.ireturn, [])]]
def sr_m264 : List (List Bool) := [[true, true, true, true]]
def sr_p264 : List Nat := [0]
/-- 265: X12_young -/
def sr_b265 : List (List sr_I) := [[(.aload 0, []), (.iload 1, []), (.iload 2, []), (.iload 3, []), (.sipush 0, [1]), (.invokevirtual 0, [263, 5, 11]), (.ireturn, [])]]
def sr_m265 : List (List Bool) := [[true, true, true, true]]
def sr_p265 : List Nat := [0]
/-- 266: X12_meet -/
def sr_b266 : List (List sr_I) := [[(.aload 0, []), (.sipush 0, [0]), (.putfield 0, [11, 0, 0]), (.aload 0, []), (.iload 1, []), (.invokevirtual 0, [215, 2, 11]), (.ifCond .eq 0, [266001]), (.aload 0, []), (.iload 2, []), (.invokevirtual 0, [215, 2, 11]), (.ifCond .eq 0, [266001]), (.iload 1, []), (.iload 2, []), (.if_icmp .eq 0, [266001]), (.iload 3, []), (.ifCond .lt 0, [266001]), (.iload 3, []), (.sipush 0, [1]), (.if_icmp .le 0, [266002]), (.nop, [266001])],
  [(.sipush 0, [1, 0]), (.ireturn, [])],
  [(.aload 0, []), (.sipush 0, [0]), (.aload 0, []), (.getfield 0, [11, 50]), (.iload 1, []), (.iaload, []), (.aload 0, []), (.getfield 0, [11, 51]), (.iload 1, []), (.iaload, []), (.sipush 0, [0]), (.invokevirtual 0, [261, 5, 11]), (.aload 0, []), (.sipush 0, [1]), (.aload 0, []), (.getfield 0, [11, 50]), (.iload 2, []), (.iaload, []), (.aload 0, []), (.getfield 0, [11, 51]), (.iload 2, []), (.iaload, []), (.sipush 0, [0]), (.invokevirtual 0, [261, 5, 11]), (.sipush 0, [1, 0]), (.istore 4, []), (.sipush 0, [99999]), (.istore 5, []), (.sipush 0, [0]), (.istore 6, []), (.nop, [266003])],
  [(.iload 6, []), (.sipush 0, [64]), (.if_icmp .ge 0, [266006]), (.aload 0, []), (.getfield 0, [11, 59]), (.iload 6, []), (.iaload, []), (.aload 0, []), (.getfield 0, [11, 59]), (.sipush 0, [64]), (.iload 6, []), (.iadd, []), (.iaload, []), (.iadd, []), (.iload 5, []), (.if_icmp .lt 0, [266004]), (.goto 0, [266005])],
  [(.iload 6, []), (.istore 4, []), (.aload 0, []), (.getfield 0, [11, 59]), (.iload 6, []), (.iaload, []), (.aload 0, []), (.getfield 0, [11, 59]), (.sipush 0, [64]), (.iload 6, []), (.iadd, []), (.iaload, []), (.iadd, []), (.istore 5, []), (.nop, [266005])],
  [(.iinc 6 0, [1]), (.goto 0, [266003])],
  [(.iload 4, []), (.sipush 0, [1, 0]), (.if_icmp .ne 0, [266007]), (.sipush 0, [2, 0]), (.ireturn, [])],
  [(.iload 3, []), (.ifCond .ne 0, [266008]), (.iload 5, []), (.goto 0, [266009])],
  [(.sipush 0, [10]), (.iload 4, []), (.sipush 0, [8]), (.idiv, []), (.imul, []), (.iload 4, []), (.sipush 0, [8]), (.irem, []), (.iadd, []), (.nop, [266009])],
  [(.ireturn, [])]]
def sr_m266 : List (List Bool) := [[true, true, true, true, false, false, false], [false, false, false, false, false, false, false], [true, true, true, true, false, false, false], [true, false, false, true, true, true, true], [true, false, false, true, false, false, true], [true, false, false, true, true, true, true], [false, false, false, true, true, true, false], [false, false, false, true, true, true, false], [false, false, false, false, true, false, false], [false, false, false, false, false, false, false]]
def sr_p266 : List Nat := [0, 35, 37, 83, 116, 140, 146, 155, 164, 178]
/-- 267: X12_stand -/
def sr_b267 : List (List sr_I) := [[(.aload 0, []), (.sipush 0, [0]), (.putfield 0, [11, 0, 0]), (.aload 0, []), (.iload 1, []), (.invokevirtual 0, [214, 2, 11]), (.ifCond .eq 0, [267001]), (.iload 2, []), (.ifCond .lt 0, [267001]), (.iload 2, []), (.sipush 0, [3]), (.if_icmp .le 0, [267002]), (.nop, [267001])],
  [(.sipush 0, [1, 0]), (.ireturn, [])],
  [(.sipush 0, [5]), (.iload 1, []), (.iadd, []), (.istore 3, []), (.sipush 0, [1, 0]), (.istore 4, []), (.sipush 0, [1, 0]), (.istore 5, []), (.sipush 0, [0]), (.istore 6, []), (.nop, [267003])],
  [(.iload 6, []), (.sipush 0, [128]), (.if_icmp .ge 0, [267006]), (.aload 0, []), (.sipush 0, [1]), (.sipush 0, [0]), (.invokevirtual 0, [213, 3, 11]), (.aload 0, []), (.getfield 0, [11, 45]), (.iload 3, []), (.iload 6, []), (.sipush 0, [16]), (.idiv, []), (.iastore, []), (.aload 0, []), (.getfield 0, [11, 46]), (.iload 3, []), (.iload 6, []), (.sipush 0, [2]), (.idiv, []), (.sipush 0, [8]), (.irem, []), (.iastore, []), (.aload 0, []), (.getfield 0, [11, 47]), (.iload 3, []), (.iload 6, []), (.sipush 0, [2]), (.irem, []), (.iastore, []), (.aload 0, []), (.sipush 0, [1]), (.iload 1, []), (.invokevirtual 0, [225, 3, 11]), (.ifCond .eq 0, [267005]), (.aload 0, []), (.sipush 0, [1]), (.invokevirtual 0, [248, 2, 11]), (.iload 5, []), (.if_icmp .gt 0, [267004]), (.goto 0, [267005])],
  [(.iload 6, []), (.istore 4, []), (.aload 0, []), (.sipush 0, [1]), (.invokevirtual 0, [248, 2, 11]), (.istore 5, []), (.nop, [267005])],
  [(.iinc 6 0, [1]), (.goto 0, [267003])],
  [(.iload 2, []), (.ifCond .ne 0, [267007]), (.iload 4, []), (.sipush 0, [16]), (.idiv, []), (.goto 0, [267010])],
  [(.iload 2, []), (.sipush 0, [1]), (.if_icmp .ne 0, [267008]), (.iload 4, []), (.sipush 0, [2]), (.idiv, []), (.sipush 0, [8]), (.irem, []), (.goto 0, [267010])],
  [(.iload 2, []), (.sipush 0, [2]), (.if_icmp .ne 0, [267009]), (.iload 4, []), (.sipush 0, [2]), (.irem, []), (.goto 0, [267010])],
  [(.iload 5, []), (.nop, [267010])],
  [(.ireturn, [])]]
def sr_m267 : List (List Bool) := [[true, true, true, false, false, false, false], [false, false, false, false, false, false, false], [true, true, true, false, false, false, false], [true, true, true, true, true, true, true], [true, true, true, true, false, false, true], [true, true, true, true, true, true, true], [false, false, true, false, true, true, false], [false, false, true, false, true, true, false], [false, false, true, false, true, true, false], [false, false, false, false, false, true, false], [false, false, false, false, false, false, false]]
def sr_p267 : List Nat := [0, 22, 24, 37, 107, 118, 124, 136, 151, 163, 165]
/-- 268: X12_ofSeason -/
def sr_b268 : List (List sr_I) := [[(.aload 0, []), (.sipush 0, [0]), (.putfield 0, [11, 0, 0]), (.iload 1, []), (.ifCond .lt 0, [268001]), (.iload 1, []), (.sipush 0, [4]), (.if_icmp .le 0, [268002]), (.nop, [268001])],
  [(.sipush 0, [1, 0]), (.goto 0, [268003])],
  [(.aload 0, []), (.sipush 0, [0]), (.iload 1, []), (.invokevirtual 0, [247, 3, 11]), (.nop, [268003])],
  [(.ireturn, [])]]
def sr_m268 : List (List Bool) := [[true, true], [false, false], [true, true], [false, false]]
def sr_p268 : List Nat := [0, 14, 18, 24]
/-- 269: X12_rowsOf -/
def sr_b269 : List (List sr_I) := [[(.sipush 0, [1]), (.istore 1, []), (.sipush 0, [2]), (.istore 2, []), (.nop, [269001])],
  [(.iload 2, []), (.iload 0, []), (.if_icmp .gt 0, [269002]), (.iload 1, []), (.iload 2, []), (.imul, []), (.istore 1, []), (.iinc 2 0, [1]), (.goto 0, [269001])],
  [(.iload 1, []), (.ireturn, [])]]
def sr_m269 : List (List Bool) := [[true, false, false], [true, true, true], [false, true, false]]
def sr_p269 : List Nat := [0, 4, 19]
/-- 270: X12_workersBy -/
def sr_b270 : List (List sr_I) := [[(.aload 0, []), (.iload 1, []), (.sipush 0, [1, 0]), (.ixor, []), (.putfield 0, [11, 55, 0]), (.aload 0, []), (.sipush 0, [0]), (.invokevirtual 0, [248, 2, 11]), (.istore 2, []), (.aload 0, []), (.sipush 0, [0]), (.putfield 0, [11, 55, 0]), (.iload 2, []), (.ireturn, [])]]
def sr_m270 : List (List Bool) := [[true, true, false]]
def sr_p270 : List Nat := [0]
/-- 271: X12_worth -/
def sr_b271 : List (List sr_I) := [[(.aload 0, []), (.sipush 0, [0]), (.putfield 0, [11, 0, 0]), (.aload 0, []), (.iload 1, []), (.invokevirtual 0, [214, 2, 11]), (.ifCond .ne 0, [271001]), (.sipush 0, [2147483648, 0]), (.ireturn, [])],
  [(.sipush 0, [0]), (.istore 2, []), (.sipush 0, [0]), (.istore 3, []), (.nop, [271002])],
  [(.iload 3, []), (.sipush 0, [1]), (.aload 0, []), (.getfield 0, [11, 3]), (.sipush 0, [2]), (.iaload, []), (.ishl, []), (.if_icmp .ge 0, [271005]), (.iload 3, []), (.iload 1, []), (.ishr, []), (.sipush 0, [1]), (.iand, []), (.sipush 0, [1]), (.if_icmp .ne 0, [271003]), (.goto 0, [271004])],
  [(.iload 3, []), (.invokestatic 0, [217, 1]), (.invokestatic 0, [269, 1]), (.aload 0, []), (.getfield 0, [11, 3]), (.sipush 0, [2]), (.iaload, []), (.sipush 0, [1]), (.isub, []), (.iload 3, []), (.invokestatic 0, [217, 1]), (.isub, []), (.invokestatic 0, [269, 1]), (.imul, []), (.istore 4, []), (.iload 2, []), (.iload 4, []), (.aload 0, []), (.iload 3, []), (.sipush 0, [1]), (.iload 1, []), (.ishl, []), (.ior, []), (.invokevirtual 0, [270, 2, 11]), (.aload 0, []), (.iload 3, []), (.invokevirtual 0, [270, 2, 11]), (.isub, []), (.imul, []), (.iadd, []), (.istore 2, []), (.nop, [271004])],
  [(.iinc 3 0, [1]), (.goto 0, [271002])],
  [(.iload 2, []), (.ireturn, [])]]
def sr_m271 : List (List Bool) := [[true, true, false, false, false], [true, true, false, false, false], [true, true, true, true, false], [true, true, true, true, false], [true, true, true, true, false], [false, false, true, false, false]]
def sr_p271 : List Nat := [0, 17, 21, 45, 92, 98]
/-- 272: X12_doAllWork -/
def sr_b272 : List (List sr_I) := [[(.sipush 0, [0]), (.istore 2, []), (.nop, [272001])],
  [(.iload 2, []), (.aload 0, []), (.getfield 0, [11, 3]), (.sipush 0, [3]), (.iaload, []), (.if_icmp .ge 0, [272004]), (.aload 0, []), (.sipush 0, [0]), (.iload 2, []), (.invokevirtual 0, [240, 3, 11]), (.ifCond .ne 0, [272002]), (.goto 0, [272003])],
  [(.aload 0, []), (.iload 1, []), (.sipush 0, [1, 0]), (.ixor, []), (.putfield 0, [11, 55, 0]), (.aload 0, []), (.sipush 0, [0]), (.iload 2, []), (.invokevirtual 0, [240, 3, 11]), (.istore 3, []), (.aload 0, []), (.sipush 0, [0]), (.putfield 0, [11, 55, 0]), (.iload 3, []), (.ifCond .ne 0, [272003]), (.sipush 0, [0]), (.ireturn, [1])],
  [(.iinc 2 0, [1]), (.goto 0, [272001])],
  [(.sipush 0, [1]), (.ireturn, [1])]]
def sr_m272 : List (List Bool) := [[true, true, false, false], [true, true, true, false], [true, true, true, false], [true, true, true, false], [false, false, false, false]]
def sr_p272 : List Nat := [0, 2, 24, 49, 55]
/-- 273: X12_needed -/
def sr_b273 : List (List sr_I) := [[(.aload 0, []), (.sipush 0, [0]), (.putfield 0, [11, 0, 0]), (.sipush 0, [1, 0]), (.istore 1, []), (.sipush 0, [0]), (.istore 2, []), (.nop, [273001])],
  [(.iload 2, []), (.sipush 0, [1]), (.aload 0, []), (.getfield 0, [11, 3]), (.sipush 0, [2]), (.iaload, []), (.ishl, []), (.if_icmp .ge 0, [273004]), (.iload 1, []), (.sipush 0, [1, 0]), (.if_icmp .eq 0, [273002]), (.iload 2, []), (.invokestatic 0, [217, 1]), (.iload 1, []), (.invokestatic 0, [217, 1]), (.if_icmp .ge 0, [273003]), (.nop, [273002])],
  [(.aload 0, []), (.iload 2, []), (.invokevirtual 0, [272, 2, 11]), (.ifCond .eq 0, [273003]), (.iload 2, []), (.istore 1, []), (.nop, [273003])],
  [(.iinc 2 0, [1]), (.goto 0, [273001])],
  [(.iload 1, []), (.ireturn, [])]]
def sr_m273 : List (List Bool) := [[true, false, false], [true, true, true], [true, true, true], [true, true, true], [false, true, false]]
def sr_p273 : List Nat := [0, 9, 37, 47, 53]
/-- 274: X12_canTurn -/
def sr_b274 : List (List sr_I) := [[(.aload 0, []), (.sipush 0, [1]), (.sipush 0, [0]), (.invokevirtual 0, [213, 3, 11]), (.aload 0, []), (.getfield 0, [11, 47]), (.sipush 0, [5]), (.iload 1, []), (.iadd, []), (.sipush 0, [1]), (.aload 0, []), (.getfield 0, [11, 47]), (.iload 1, []), (.iaload, []), (.isub, []), (.iastore, []), (.aload 0, []), (.sipush 0, [1]), (.iload 1, []), (.invokevirtual 0, [224, 3, 11]), (.ireturn, [1])]]
def sr_m274 : List (List Bool) := [[true, true]]
def sr_p274 : List Nat := [0]
/-- 275: X12_hasOf -/
def sr_b275 : List (List sr_I) := [[(.aload 0, []), (.sipush 0, [1]), (.sipush 0, [0]), (.invokevirtual 0, [213, 3, 11]), (.iload 3, []), (.sipush 0, [1]), (.if_icmp .ne 0, [275001]), (.aload 0, []), (.getfield 0, [11, 47]), (.sipush 0, [5]), (.iload 1, []), (.iadd, []), (.sipush 0, [1]), (.aload 0, []), (.getfield 0, [11, 47]), (.iload 1, []), (.iaload, []), (.isub, []), (.iastore, []), (.nop, [275001])],
  [(.iload 4, []), (.sipush 0, [1]), (.if_icmp .ne 0, [275002]), (.aload 0, []), (.getfield 0, [11, 47]), (.sipush 0, [5]), (.iload 2, []), (.iadd, []), (.sipush 0, [1]), (.aload 0, []), (.getfield 0, [11, 47]), (.iload 2, []), (.iaload, []), (.isub, []), (.iastore, []), (.nop, [275002])],
  [(.aload 0, []), (.sipush 0, [1]), (.aload 0, []), (.getfield 0, [11, 5]), (.iload 1, []), (.iaload, []), (.invokevirtual 0, [247, 3, 11]), (.ireturn, [])]]
def sr_m275 : List (List Bool) := [[true, true, true, true, true], [true, true, true, false, true], [true, true, false, false, false]]
def sr_p275 : List Nat := [0, 27, 49]
/-- 276: X12_isRest -/
def sr_b276 : List (List sr_I) := [[(.iload 3, []), (.sipush 0, [2]), (.idiv, []), (.istore 4, []), (.iload 3, []), (.sipush 0, [2]), (.irem, []), (.istore 5, []), (.iload 4, []), (.sipush 0, [1]), (.if_icmp .ne 0, [276001]), (.aload 0, []), (.iload 1, []), (.invokevirtual 0, [274, 2, 11]), (.ifCond .eq 0, [276002]), (.nop, [276001])],
  [(.iload 5, []), (.sipush 0, [1]), (.if_icmp .ne 0, [276003]), (.aload 0, []), (.iload 2, []), (.invokevirtual 0, [274, 2, 11]), (.ifCond .ne 0, [276003]), (.nop, [276002])],
  [(.sipush 0, [0]), (.ireturn, [1])],
  [(.aload 0, []), (.iload 1, []), (.invokevirtual 0, [274, 2, 11]), (.ifCond .eq 0, [276004]), (.aload 0, []), (.iload 1, []), (.iload 2, []), (.sipush 0, [1]), (.iload 4, []), (.isub, []), (.iload 5, []), (.invokevirtual 0, [275, 5, 11]), (.aload 0, []), (.iload 1, []), (.iload 2, []), (.iload 4, []), (.iload 5, []), (.invokevirtual 0, [275, 5, 11]), (.if_icmp .le 0, [276004]), (.sipush 0, [0]), (.ireturn, [1])],
  [(.aload 0, []), (.iload 2, []), (.invokevirtual 0, [274, 2, 11]), (.ifCond .eq 0, [276005]), (.aload 0, []), (.iload 2, []), (.iload 1, []), (.sipush 0, [1]), (.iload 5, []), (.isub, []), (.iload 4, []), (.invokevirtual 0, [275, 5, 11]), (.aload 0, []), (.iload 2, []), (.iload 1, []), (.iload 5, []), (.iload 4, []), (.invokevirtual 0, [275, 5, 11]), (.if_icmp .gt 0, [276006]), (.nop, [276005])],
  [(.sipush 0, [1]), (.goto 0, [276007])],
  [(.sipush 0, [0]), (.nop, [276007])],
  [(.ireturn, [1])]]
def sr_m276 : List (List Bool) := [[true, true, true, true, false, false], [true, true, true, false, true, true], [false, false, false, false, false, false], [true, true, true, false, true, true], [true, true, true, false, true, true], [false, false, false, false, false, false], [false, false, false, false, false, false], [false, false, false, false, false, false]]
def sr_p276 : List Nat := [0, 24, 38, 40, 75, 108, 112, 113]
/-- 277: X12_restOf -/
def sr_b277 : List (List sr_I) := [[(.sipush 0, [0]), (.istore 4, []), (.sipush 0, [0]), (.istore 5, []), (.nop, [277001])],
  [(.iload 5, []), (.sipush 0, [4]), (.if_icmp .ge 0, [277005]), (.aload 0, []), (.iload 1, []), (.iload 2, []), (.iload 5, []), (.invokevirtual 0, [276, 4, 11]), (.ifCond .ne 0, [277002]), (.goto 0, [277004])],
  [(.iload 4, []), (.iload 3, []), (.if_icmp .ne 0, [277003]), (.sipush 0, [10]), (.iload 5, []), (.sipush 0, [2]), (.idiv, []), (.imul, []), (.iload 5, []), (.sipush 0, [2]), (.irem, []), (.iadd, []), (.ireturn, [])],
  [(.iinc 4 0, [1]), (.nop, [277004])],
  [(.iinc 5 0, [1]), (.goto 0, [277001])],
  [(.iload 3, []), (.sipush 0, [1, 0]), (.if_icmp .ne 0, [277006]), (.iload 4, []), (.goto 0, [277007])],
  [(.sipush 0, [2, 0]), (.nop, [277007])],
  [(.ireturn, [])]]
def sr_m277 : List (List Bool) := [[true, true, true, true, false, false], [true, true, true, true, true, true], [true, true, true, true, true, true], [true, true, true, true, true, true], [true, true, true, true, true, true], [false, false, false, true, true, false], [false, false, false, false, false, false], [false, false, false, false, false, false]]
def sr_p277 : List Nat := [0, 6, 26, 45, 48, 54, 64, 66]
/-- 278: X12_areTwo -/
def sr_b278 : List (List sr_I) := [[(.aload 0, []), (.iload 1, []), (.invokevirtual 0, [214, 2, 11]), (.ifCond .eq 0, [278001]), (.aload 0, []), (.iload 2, []), (.invokevirtual 0, [214, 2, 11]), (.ifCond .eq 0, [278001]), (.iload 1, []), (.iload 2, []), (.if_icmp .eq 0, [278001]), (.sipush 0, [1]), (.goto 0, [278002])],
  [(.sipush 0, [0]), (.nop, [278002])],
  [(.ireturn, [1])]]
def sr_m278 : List (List Bool) := [[true, true, true], [false, false, false], [false, false, false]]
def sr_p278 : List Nat := [0, 25, 26]
/-- 279: X12_rests -/
def sr_b279 : List (List sr_I) := [[(.aload 0, []), (.sipush 0, [0]), (.putfield 0, [11, 0, 0]), (.aload 0, []), (.iload 1, []), (.iload 2, []), (.invokevirtual 0, [278, 3, 11]), (.ifCond .eq 0, [279001]), (.aload 0, []), (.iload 1, []), (.iload 2, []), (.sipush 0, [1, 0]), (.invokevirtual 0, [277, 4, 11]), (.goto 0, [279002])],
  [(.sipush 0, [1, 0]), (.nop, [279002])],
  [(.ireturn, [])]]
def sr_m279 : List (List Bool) := [[true, true, true], [false, false, false], [false, false, false]]
def sr_p279 : List Nat := [0, 24, 25]
/-- 280: X12_rest -/
def sr_b280 : List (List sr_I) := [[(.aload 0, []), (.sipush 0, [0]), (.putfield 0, [11, 0, 0]), (.aload 0, []), (.iload 1, []), (.iload 2, []), (.invokevirtual 0, [278, 3, 11]), (.ifCond .eq 0, [280001]), (.iload 3, []), (.ifCond .lt 0, [280001]), (.aload 0, []), (.iload 1, []), (.iload 2, []), (.iload 3, []), (.invokevirtual 0, [277, 4, 11]), (.goto 0, [280002])],
  [(.sipush 0, [1, 0]), (.nop, [280002])],
  [(.ireturn, [])]]
def sr_m280 : List (List Bool) := [[true, true, true, true], [false, false, false, false], [false, false, false, false]]
def sr_p280 : List Nat := [0, 28, 29]
/-- 281: X12_common -/
def sr_b281 : List (List sr_I) := [[(.lload 0, []), (.lstore 4, []), (.lload 2, []), (.lstore 6, []), (.nop, [281001])],
  [(.lload 6, []), (.lconst 0, [0]), (.lcmp, []), (.ifCond .eq 0, [281002]), (.lload 4, []), (.lload 6, []), (.lrem, []), (.lstore 8, []), (.lload 6, []), (.lstore 4, []), (.lload 8, []), (.lstore 6, []), (.goto 0, [281001])],
  [(.lload 4, []), (.lreturn, [])]]
def sr_m281 : List (List Bool) := [[true, false, true, false, false, false, false, false, false, false], [false, false, false, false, true, false, true, false, false, false], [false, false, false, false, true, false, false, false, false, false]]
def sr_p281 : List Nat := [0, 6, 31]
/-- 282: X12_holds -/
def sr_b282 : List (List sr_I) := [[(.aload 0, []), (.sipush 0, [0]), (.putfield 0, [11, 0, 0]), (.aload 0, []), (.iload 1, []), (.invokevirtual 0, [214, 2, 11]), (.ifCond .eq 0, [282001]), (.iload 2, []), (.ifCond .lt 0, [282001]), (.iload 2, []), (.sipush 0, [6]), (.if_icmp .gt 0, [282001]), (.iload 3, []), (.ifCond .lt 0, [282001]), (.iload 3, []), (.sipush 0, [1]), (.if_icmp .le 0, [282002]), (.nop, [282001])],
  [(.lconst 0, [1, 0]), (.lreturn, [])],
  [(.lconst 0, [1]), (.lstore 4, []), (.lconst 0, [1]), (.lstore 6, []), (.sipush 0, [0]), (.istore 8, []), (.nop, [282003])],
  [(.iload 8, []), (.iload 2, []), (.if_icmp .ge 0, [282004]), (.aload 0, []), (.getfield 0, [11, 48]), (.iload 1, []), (.iaload, []), (.ifCond .eq 0, [282004]), (.lload 4, []), (.lconst 0, [100]), (.aload 0, []), (.getfield 0, [11, 3]), (.sipush 0, [6]), (.iaload, []), (.i2l, []), (.lsub, []), (.lmul, []), (.lstore 4, []), (.lload 6, []), (.lconst 0, [100]), (.lmul, []), (.lstore 6, []), (.iinc 8 0, [1]), (.goto 0, [282003])],
  [(.lload 4, []), (.lload 6, []), (.invokestatic 0, [281, 2]), (.lstore 8, []), (.iload 3, []), (.ifCond .ne 0, [282005]), (.lload 4, []), (.lload 8, []), (.ldiv, []), (.goto 0, [282006])],
  [(.lload 6, []), (.lload 8, []), (.ldiv, []), (.nop, [282006])],
  [(.lreturn, [])]]
def sr_m282 : List (List Bool) := [[true, true, true, true, false, false, false, false, false, false], [false, false, false, false, false, false, false, false, false, false], [true, true, true, true, false, false, false, false, false, false], [true, true, true, true, true, false, true, false, true, false], [false, false, false, true, true, false, true, false, false, false], [false, false, false, false, false, false, true, false, true, false], [false, false, false, false, false, false, false, false, false, false]]
def sr_p282 : List Nat := [0, 32, 36, 45, 91, 112, 117]
/-- 283: X12_nextTo -/
def sr_b283 : List (List sr_I) := [[(.aload 0, []), (.sipush 0, [0]), (.putfield 0, [11, 0, 0]), (.aload 0, []), (.iload 1, []), (.invokevirtual 0, [215, 2, 11]), (.ifCond .ne 0, [283001]), (.sipush 0, [1, 0]), (.ireturn, [])],
  [(.sipush 0, [0]), (.istore 2, []), (.sipush 0, [0]), (.istore 3, []), (.nop, [283002])],
  [(.iload 3, []), (.aload 0, []), (.getfield 0, [11, 3]), (.sipush 0, [3]), (.iaload, []), (.if_icmp .ge 0, [283005]), (.aload 0, []), (.getfield 0, [11, 50]), (.iload 3, []), (.iaload, []), (.aload 0, []), (.getfield 0, [11, 50]), (.iload 1, []), (.iaload, []), (.isub, []), (.invokestatic 0, [2]), (.aload 0, []), (.getfield 0, [11, 51]), (.iload 3, []), (.iaload, []), (.aload 0, []), (.getfield 0, [11, 51]), (.iload 1, []), (.iaload, []), (.isub, []), (.invokestatic 0, [2]), (.iadd, []), (.istore 4, []), (.iload 2, []), (.iload 3, []), (.iload 1, []), (.if_icmp .eq 0, [283003]), (.iload 4, []), (.sipush 0, [1]), (.if_icmp .gt 0, [283003]), (.sipush 0, [1]), (.iload 3, []), (.ishl, []), (.goto 0, [283004])],
  [(.sipush 0, [0]), (.nop, [283004])],
  [(.ior, []), (.istore 2, []), (.iinc 3 0, [1]), (.goto 0, [283002])],
  [(.iload 2, []), (.ireturn, [])]]
def sr_m283 : List (List Bool) := [[true, true, false, false, false], [true, true, false, false, false], [true, true, true, true, false], [true, true, false, true, false], [true, true, false, true, false], [false, false, true, false, false]]
def sr_p283 : List Nat := [0, 15, 19, 82, 83, 91]
/-- 284: X12_see -/
def sr_b284 : List (List sr_I) := [[(.aload 0, []), (.sipush 0, [0]), (.putfield 0, [11, 0, 0]), (.iload 1, []), (.sipush 0, [1]), (.if_icmp .lt 0, [284001]), (.iload 1, []), (.sipush 0, [40]), (.if_icmp .gt 0, [284001]), (.aload 0, []), (.iload 2, []), (.iload 3, []), (.invokevirtual 0, [216, 3, 11]), (.ifCond .eq 0, [284001]), (.iload 4, []), (.ifCond .lt 0, [284001]), (.iload 4, []), (.sipush 0, [4]), (.if_icmp .gt 0, [284001]), (.aload 0, []), (.getfield 0, [11, 60]), (.sipush 0, [24]), (.if_icmp .ne 0, [284002]), (.nop, [284001])],
  [(.sipush 0, [1, 0]), (.ireturn, [])],
  [(.aload 0, []), (.getfield 0, [11, 62]), (.aload 0, []), (.getfield 0, [11, 60]), (.iload 1, []), (.iastore, []), (.aload 0, []), (.getfield 0, [11, 63]), (.aload 0, []), (.getfield 0, [11, 60]), (.sipush 0, [8]), (.iload 2, []), (.imul, []), (.iload 3, []), (.iadd, []), (.iastore, []), (.aload 0, []), (.getfield 0, [11, 64]), (.aload 0, []), (.getfield 0, [11, 60]), (.iload 4, []), (.iastore, []), (.aload 0, []), (.getfield 0, [11, 65]), (.aload 0, []), (.getfield 0, [11, 60]), (.iload 5, []), (.bastore, []), (.aload 0, []), (.getfield 0, [11, 66]), (.aload 0, []), (.getfield 0, [11, 60]), (.sipush 0, [1, 0]), (.iastore, []), (.aload 0, []), (.dup, []), (.getfield 0, [11, 60]), (.sipush 0, [1]), (.iadd, []), (.putfield 0, [11, 60, 0]), (.aload 0, []), (.getfield 0, [11, 60]), (.sipush 0, [1]), (.isub, []), (.ireturn, [])]]
def sr_m284 : List (List Bool) := [[true, true, true, true, true, true], [false, false, false, false, false, false], [true, true, true, true, true, true]]
def sr_p284 : List Nat := [0, 45, 47]
/-- 285: X12_out -/
def sr_b285 : List (List sr_I) := [[(.aload 0, []), (.sipush 0, [0]), (.putfield 0, [11, 0, 0]), (.iload 1, []), (.ifCond .lt 0, [285001]), (.iload 1, []), (.aload 0, []), (.getfield 0, [11, 60]), (.if_icmp .ge 0, [285001]), (.aload 0, []), (.getfield 0, [11, 60]), (.sipush 0, [24]), (.if_icmp .ne 0, [285002]), (.nop, [285001])],
  [(.sipush 0, [1, 0]), (.ireturn, [])],
  [(.aload 0, []), (.getfield 0, [11, 66]), (.aload 0, []), (.getfield 0, [11, 60]), (.iload 1, []), (.iastore, []), (.aload 0, []), (.dup, []), (.getfield 0, [11, 60]), (.sipush 0, [1]), (.iadd, []), (.putfield 0, [11, 60, 0]), (.aload 0, []), (.getfield 0, [11, 60]), (.sipush 0, [1]), (.isub, []), (.ireturn, [])]]
def sr_m285 : List (List Bool) := [[true, true], [false, false], [true, true]]
def sr_p285 : List Nat := [0, 26, 28]
/-- 286: X12_known -/
def sr_b286 : List (List sr_I) := [[(.aload 0, []), (.sipush 0, [0]), (.putfield 0, [11, 0, 0]), (.iload 1, []), (.sipush 0, [1, 0]), (.if_icmp .lt 0, [286001]), (.iload 1, []), (.aload 0, []), (.getfield 0, [11, 60]), (.if_icmp .le 0, [286002]), (.nop, [286001])],
  [(.sipush 0, [0]), (.ireturn, [1])],
  [(.aload 0, []), (.iload 1, []), (.putfield 0, [11, 61, 0]), (.sipush 0, [1]), (.ireturn, [1])]]
def sr_m286 : List (List Bool) := [[true, true], [false, false], [true, true]]
def sr_p286 : List Nat := [0, 18, 20]
/-- 287: X12_knownMany -/
def sr_b287 : List (List sr_I) := [[(.aload 0, []), (.getfield 0, [11, 61]), (.sipush 0, [1, 0]), (.if_icmp .ne 0, [287001]), (.aload 0, []), (.getfield 0, [11, 60]), (.goto 0, [287002])],
  [(.aload 0, []), (.getfield 0, [11, 61]), (.nop, [287002])],
  [(.ireturn, [])]]
def sr_m287 : List (List Bool) := [[true], [true], [false]]
def sr_p287 : List Nat := [0, 15, 19]
/-- 288: X12_isSo -/
def sr_b288 : List (List sr_I) := [[(.sipush 0, [0]), (.istore 2, []), (.nop, [288001])],
  [(.iload 2, []), (.aload 0, []), (.invokevirtual 0, [287, 1, 11]), (.if_icmp .ge 0, [288006]), (.aload 0, []), (.getfield 0, [11, 67]), (.iload 2, []), (.baload, []), (.ifCond .ne 0, [288005]), (.aload 0, []), (.getfield 0, [11, 66]), (.iload 2, []), (.iaload, []), (.sipush 0, [1, 0]), (.if_icmp .ne 0, [288005]), (.aload 0, []), (.getfield 0, [11, 62]), (.iload 2, []), (.iaload, []), (.iload 1, []), (.if_icmp .eq 0, [288002]), (.goto 0, [288005])],
  [(.aload 0, []), (.sipush 0, [1]), (.aload 0, []), (.getfield 0, [11, 63]), (.iload 2, []), (.iaload, []), (.sipush 0, [8]), (.idiv, []), (.aload 0, []), (.getfield 0, [11, 63]), (.iload 2, []), (.iaload, []), (.sipush 0, [8]), (.irem, []), (.invokevirtual 0, [228, 4, 11]), (.aload 0, []), (.getfield 0, [11, 64]), (.iload 2, []), (.iaload, []), (.if_icmp .ne 0, [288003]), (.sipush 0, [1]), (.goto 0, [288004])],
  [(.sipush 0, [0]), (.nop, [288004])],
  [(.aload 0, []), (.getfield 0, [11, 65]), (.iload 2, []), (.baload, []), (.if_icmp .eq 0, [288005]), (.sipush 0, [0]), (.ireturn, [1])],
  [(.iinc 2 0, [1]), (.goto 0, [288001])],
  [(.sipush 0, [1]), (.ireturn, [1])]]
def sr_m288 : List (List Bool) := [[true, true, false], [true, true, true], [true, true, true], [true, true, true], [true, true, true], [true, true, true], [false, false, false]]
def sr_p288 : List Nat := [0, 2, 42, 78, 79, 90, 96]
/-- 289: X12_fitsPaint -/
def sr_b289 : List (List sr_I) := [[(.aload 0, []), (.sipush 0, [1]), (.invokevirtual 0, [211, 2, 11]), (.sipush 0, [1]), (.istore 2, []), (.nop, [289001])],
  [(.iload 2, []), (.iload 1, []), (.if_icmp .gt 0, [289003]), (.aload 0, []), (.sipush 0, [1]), (.sipush 0, [0]), (.invokevirtual 0, [244, 3, 11]), (.aload 0, []), (.iload 2, []), (.invokevirtual 0, [288, 2, 11]), (.ifCond .ne 0, [289002]), (.sipush 0, [0]), (.ireturn, [1])],
  [(.iinc 2 0, [1]), (.goto 0, [289001])],
  [(.sipush 0, [1]), (.ireturn, [1])]]
def sr_m289 : List (List Bool) := [[true, true, false], [true, true, true], [true, true, true], [false, false, false]]
def sr_p289 : List Nat := [0, 7, 28, 34]
/-- 290: X12_painted -/
def sr_b290 : List (List sr_I) := [[(.aload 0, []), (.sipush 0, [0]), (.putfield 0, [11, 0, 0]), (.aload 0, []), (.iload 1, []), (.invokevirtual 0, [214, 2, 11]), (.ifCond .ne 0, [290001]), (.sipush 0, [1, 0]), (.ireturn, [])],
  [(.sipush 0, [0]), (.istore 2, []), (.sipush 0, [0]), (.istore 3, []), (.nop, [290002])],
  [(.iload 3, []), (.aload 0, []), (.invokevirtual 0, [287, 1, 11]), (.if_icmp .ge 0, [290003]), (.aload 0, []), (.getfield 0, [11, 67]), (.iload 3, []), (.sipush 0, [0]), (.bastore, []), (.iinc 3 0, [1]), (.goto 0, [290002])],
  [(.aload 0, []), (.invokevirtual 0, [287, 1, 11]), (.sipush 0, [1]), (.isub, []), (.istore 3, []), (.nop, [290004])],
  [(.iload 3, []), (.ifCond .lt 0, [290006]), (.aload 0, []), (.getfield 0, [11, 67]), (.iload 3, []), (.baload, []), (.ifCond .ne 0, [290005]), (.aload 0, []), (.getfield 0, [11, 66]), (.iload 3, []), (.iaload, []), (.sipush 0, [1, 0]), (.if_icmp .eq 0, [290005]), (.aload 0, []), (.getfield 0, [11, 67]), (.aload 0, []), (.getfield 0, [11, 66]), (.iload 3, []), (.iaload, []), (.sipush 0, [1]), (.bastore, []), (.nop, [290005])],
  [(.iinc 3 0, [1, 0]), (.goto 0, [290004])],
  [(.sipush 0, [0]), (.istore 3, []), (.nop, [290007])],
  [(.iload 3, []), (.aload 0, []), (.invokevirtual 0, [287, 1, 11]), (.if_icmp .ge 0, [290009]), (.aload 0, []), (.getfield 0, [11, 67]), (.iload 3, []), (.baload, []), (.ifCond .ne 0, [290008]), (.aload 0, []), (.getfield 0, [11, 66]), (.iload 3, []), (.iaload, []), (.sipush 0, [1, 0]), (.if_icmp .ne 0, [290008]), (.iload 2, []), (.aload 0, []), (.getfield 0, [11, 62]), (.iload 3, []), (.iaload, []), (.invokestatic 0, [1]), (.istore 2, []), (.nop, [290008])],
  [(.iinc 3 0, [1]), (.goto 0, [290007])],
  [(.sipush 0, [0]), (.istore 3, []), (.aload 0, []), (.iload 1, []), (.putfield 0, [11, 56, 0]), (.sipush 0, [0]), (.istore 4, []), (.nop, [290010])],
  [(.iload 4, []), (.sipush 0, [4]), (.if_icmp .ge 0, [290013]), (.aload 0, []), (.iload 4, []), (.putfield 0, [11, 57, 0]), (.iload 3, []), (.aload 0, []), (.iload 2, []), (.invokevirtual 0, [289, 2, 11]), (.ifCond .eq 0, [290011]), (.sipush 0, [1]), (.iload 4, []), (.ishl, []), (.goto 0, [290012])],
  [(.sipush 0, [0]), (.nop, [290012])],
  [(.ior, []), (.istore 3, []), (.iinc 4 0, [1]), (.goto 0, [290010])],
  [(.aload 0, []), (.sipush 0, [1, 0]), (.putfield 0, [11, 56, 0]), (.iload 3, []), (.ireturn, [])]]
def sr_m290 : List (List Bool) := [[true, true, false, false, false], [true, true, false, false, false], [true, true, true, true, false], [true, true, true, false, false], [true, true, true, true, false], [true, true, true, true, false], [true, true, true, false, false], [true, true, true, true, false], [true, true, true, true, false], [true, true, true, false, false], [true, false, true, true, true], [true, false, true, false, true], [true, false, true, false, true], [true, false, false, true, false]]
def sr_p290 : List Nat := [0, 15, 19, 40, 47, 82, 88, 90, 128, 134, 144, 172, 173, 181]
/-- 291: X12_chance -/
def sr_b291 : List (List sr_I) := [[(.aload 0, []), (.sipush 0, [0]), (.putfield 0, [11, 0, 0]), (.iload 1, []), (.ifCond .lt 0, [291001]), (.iload 2, []), (.sipush 0, [1]), (.if_icmp .lt 0, [291001]), (.iload 2, []), (.sipush 0, [99]), (.if_icmp .gt 0, [291001]), (.iload 3, []), (.ifCond .lt 0, [291001]), (.iload 3, []), (.sipush 0, [20]), (.if_icmp .le 0, [291002]), (.nop, [291001])],
  [(.sipush 0, [1, 0]), (.ireturn, [])],
  [(.iload 1, []), (.istore 4, []), (.sipush 0, [0]), (.istore 5, []), (.sipush 0, [0]), (.istore 6, []), (.nop, [291003])],
  [(.iload 6, []), (.sipush 0, [10]), (.if_icmp .ge 0, [291008]), (.aload 0, []), (.sipush 0, [1]), (.sipush 0, [0]), (.invokevirtual 0, [213, 3, 11]), (.aload 0, []), (.getfield 0, [11, 43]), (.sipush 0, [1]), (.iload 4, []), (.iastore, []), (.sipush 0, [0]), (.istore 7, []), (.nop, [291004])],
  [(.iload 7, []), (.iload 2, []), (.if_icmp .ge 0, [291005]), (.aload 0, []), (.sipush 0, [1]), (.sipush 0, [1]), (.invokevirtual 0, [244, 3, 11]), (.iinc 7 0, [1]), (.goto 0, [291004])],
  [(.aload 0, []), (.getfield 0, [11, 43]), (.sipush 0, [1]), (.iaload, []), (.istore 4, []), (.iload 5, []), (.aload 0, []), (.sipush 0, [1]), (.invokevirtual 0, [229, 2, 11]), (.iload 3, []), (.if_icmp .lt 0, [291006]), (.sipush 0, [1]), (.goto 0, [291007])],
  [(.sipush 0, [0]), (.nop, [291007])],
  [(.iadd, []), (.istore 5, []), (.iinc 6 0, [1]), (.goto 0, [291003])],
  [(.iload 5, []), (.ireturn, [])]]
def sr_m291 : List (List Bool) := [[true, true, true, true, false, false, false, false], [false, false, false, false, false, false, false, false], [true, true, true, true, false, false, false, false], [true, false, true, true, true, true, true, false], [true, false, true, true, false, true, true, true], [true, false, true, true, false, true, true, false], [true, false, true, true, true, false, true, false], [true, false, true, true, true, false, true, false], [false, false, false, false, false, true, false, false]]
def sr_p291 : List Nat := [0, 30, 32, 41, 65, 83, 106, 107, 116]
/-- 292: X12_tried -/
def sr_b292 : List (List sr_I) := [[(.aload 0, []), (.sipush 0, [0]), (.putfield 0, [11, 0, 0]), (.iload 1, []), (.sipush 0, [2]), (.if_icmp .ne 0, [292001]), (.aload 0, []), (.iload 2, []), (.invokevirtual 0, [214, 2, 11]), (.goto 0, [292003])],
  [(.iload 1, []), (.ifCond .lt 0, [292002]), (.iload 1, []), (.sipush 0, [5]), (.if_icmp .gt 0, [292002]), (.iload 2, []), (.ifCond .ne 0, [292002]), (.sipush 0, [1]), (.goto 0, [292003])],
  [(.sipush 0, [0]), (.nop, [292003])],
  [(.istore 4, []), (.iload 4, []), (.ifCond .eq 0, [292004]), (.iload 3, []), (.ifCond .lt 0, [292004]), (.iload 3, []), (.sipush 0, [99]), (.if_icmp .le 0, [292005]), (.nop, [292004])],
  [(.sipush 0, [1, 0]), (.ireturn, [])],
  [(.aload 0, []), (.sipush 0, [1]), (.sipush 0, [0]), (.invokevirtual 0, [213, 3, 11]), (.sipush 0, [0]), (.istore 5, []), (.nop, [292006])],
  [(.iload 5, []), (.aload 0, []), (.getfield 0, [11, 3]), (.sipush 0, [2]), (.iaload, []), (.if_icmp .ge 0, [292007]), (.iload 1, []), (.sipush 0, [5]), (.if_icmp .ne 0, [292007]), (.aload 0, []), (.getfield 0, [11, 48]), (.sipush 0, [5]), (.iload 5, []), (.iadd, []), (.sipush 0, [1]), (.aload 0, []), (.getfield 0, [11, 8]), (.iload 5, []), (.iaload, []), (.ishl, []), (.sipush 0, [1]), (.isub, []), (.iastore, []), (.iinc 5 0, [1]), (.goto 0, [292006])],
  [(.aload 0, []), (.iload 1, []), (.putfield 0, [11, 58, 0]), (.aload 0, []), (.iload 1, []), (.sipush 0, [2]), (.if_icmp .ne 0, [292008]), (.sipush 0, [1]), (.iload 2, []), (.ishl, []), (.goto 0, [292009])],
  [(.sipush 0, [0]), (.nop, [292009])],
  [(.putfield 0, [11, 55, 0]), (.aload 0, []), (.iload 3, []), (.invokevirtual 0, [245, 2, 11]), (.aload 0, []), (.sipush 0, [0]), (.putfield 0, [11, 58, 0]), (.aload 0, []), (.sipush 0, [0]), (.putfield 0, [11, 55, 0]), (.aload 0, []), (.sipush 0, [1]), (.invokevirtual 0, [246, 2, 11]), (.aload 0, []), (.sipush 0, [0]), (.invokevirtual 0, [246, 2, 11]), (.isub, []), (.ireturn, [])]]
def sr_m292 : List (List Bool) := [[true, true, true, true, false, false], [true, true, true, true, false, false], [true, true, true, true, false, false], [true, true, true, true, false, false], [false, false, false, false, false, false], [true, true, true, true, false, false], [true, true, true, true, false, true], [true, true, true, true, false, false], [true, false, false, true, false, false], [true, false, false, true, false, false]]
def sr_p292 : List Nat := [0, 18, 35, 36, 53, 55, 64, 106, 123, 124]
/-- 293: X12_undo -/
def sr_b293 : List (List sr_I) := [[(.aload 0, []), (.sipush 0, [0]), (.putfield 0, [11, 0, 0]), (.aload 0, []), (.getfield 0, [11, 54]), (.ifCond .ne 0, [293001]), (.sipush 0, [1, 0]), (.ireturn, [])],
  [(.aload 0, []), (.dup, []), (.getfield 0, [11, 54]), (.sipush 0, [1]), (.isub, []), (.putfield 0, [11, 54, 0]), (.aload 0, []), (.sipush 0, [0]), (.sipush 0, [3]), (.aload 0, []), (.getfield 0, [11, 54]), (.iadd, []), (.invokevirtual 0, [213, 3, 11]), (.aload 0, []), (.getfield 0, [11, 54]), (.ireturn, [])]]
def sr_m293 : List (List Bool) := [[true], [true]]
def sr_p293 : List Nat := [0, 14]
/-- 294: X12_keep -/
def sr_b294 : List (List sr_I) := [[(.aload 0, []), (.sipush 0, [0]), (.putfield 0, [11, 0, 0]), (.aload 0, []), (.sipush 0, [2]), (.sipush 0, [0]), (.invokevirtual 0, [213, 3, 11]), (.aload 0, []), (.sipush 0, [1]), (.putfield 0, [11, 53, 1]), (.aload 0, []), (.getfield 0, [11, 42]), (.sipush 0, [0]), (.iaload, []), (.ireturn, [])]]
def sr_m294 : List (List Bool) := [[true]]
def sr_p294 : List Nat := [0]
/-- 295: X12_back -/
def sr_b295 : List (List sr_I) := [[(.aload 0, []), (.sipush 0, [0]), (.putfield 0, [11, 0, 0]), (.aload 0, []), (.getfield 0, [11, 53]), (.ifCond .ne 0, [295001]), (.sipush 0, [1, 0]), (.ireturn, [])],
  [(.aload 0, []), (.sipush 0, [0]), (.sipush 0, [2]), (.invokevirtual 0, [213, 3, 11]), (.aload 0, []), (.sipush 0, [0]), (.putfield 0, [11, 54, 0]), (.aload 0, []), (.getfield 0, [11, 42]), (.sipush 0, [0]), (.iaload, []), (.ireturn, [])]]
def sr_m295 : List (List Bool) := [[true], [true]]
def sr_p295 : List Nat := [0, 14]
/-- 296: X12_count -/
def sr_b296 : List (List sr_I) := [[(.aload 0, []), (.sipush 0, [0]), (.putfield 0, [11, 0, 0]), (.sipush 0, [0]), (.istore 2, []), (.iload 1, []), (.tableswitch 0 0 14 #[], [296022, 296001, 296002, 296003, 296004, 296005, 296006, 296007, 296008, 296009, 296010, 296013, 296018, 296019, 296020, 296021])],
  [(.aload 0, []), (.getfield 0, [11, 3]), (.sipush 0, [2]), (.iaload, []), (.ireturn, [])],
  [(.aload 0, []), (.getfield 0, [11, 3]), (.sipush 0, [3]), (.iaload, []), (.ireturn, [])],
  [(.aload 0, []), (.getfield 0, [11, 3]), (.sipush 0, [0]), (.iaload, []), (.ireturn, [])],
  [(.aload 0, []), (.getfield 0, [11, 3]), (.sipush 0, [1]), (.iaload, []), (.ireturn, [])],
  [(.aload 0, []), (.getfield 0, [11, 3]), (.sipush 0, [8]), (.iaload, []), (.ireturn, [])],
  [(.aload 0, []), (.getfield 0, [11, 42]), (.sipush 0, [0]), (.iaload, []), (.ireturn, [])],
  [(.aload 0, []), (.sipush 0, [0]), (.invokevirtual 0, [229, 2, 11]), (.ireturn, [])],
  [(.aload 0, []), (.getfield 0, [11, 44]), (.sipush 0, [0]), (.iaload, []), (.ireturn, [])],
  [(.aload 0, []), (.sipush 0, [0]), (.invokevirtual 0, [246, 2, 11]), (.ireturn, [])],
  [(.sipush 0, [0]), (.istore 3, []), (.nop, [296011])],
  [(.iload 3, []), (.aload 0, []), (.getfield 0, [11, 3]), (.sipush 0, [3]), (.iaload, []), (.if_icmp .ge 0, [296012]), (.iload 2, []), (.aload 0, []), (.getfield 0, [11, 49]), (.iload 3, []), (.iaload, []), (.iadd, []), (.istore 2, []), (.iinc 3 0, [1]), (.goto 0, [296011])],
  [(.iload 2, []), (.ireturn, [])],
  [(.sipush 0, [0]), (.istore 3, []), (.nop, [296014])],
  [(.iload 3, []), (.sipush 0, [64]), (.if_icmp .ge 0, [296017]), (.iload 2, []), (.aload 0, []), (.sipush 0, [0]), (.iload 3, []), (.sipush 0, [8]), (.idiv, []), (.iload 3, []), (.sipush 0, [8]), (.irem, []), (.invokevirtual 0, [237, 4, 11]), (.ifCond .eq 0, [296015]), (.sipush 0, [1]), (.goto 0, [296016])],
  [(.sipush 0, [0]), (.nop, [296016])],
  [(.iadd, []), (.istore 2, []), (.iinc 3 0, [1]), (.goto 0, [296014])],
  [(.iload 2, []), (.ireturn, [])],
  [(.aload 0, []), (.sipush 0, [0]), (.invokevirtual 0, [248, 2, 11]), (.ireturn, [])],
  [(.aload 0, []), (.getfield 0, [11, 60]), (.ireturn, [])],
  [(.aload 0, []), (.invokevirtual 0, [287, 1, 11]), (.ireturn, [])],
  [(.aload 0, []), (.getfield 0, [11, 54]), (.ireturn, [])],
  [(.sipush 0, [1, 0]), (.ireturn, [])]]
def sr_m296 : List (List Bool) := [[true, true, false, false], [true, false, false, false], [true, false, false, false], [true, false, false, false], [true, false, false, false], [true, false, false, false], [true, false, false, false], [true, false, false, false], [true, false, false, false], [true, false, false, false], [true, false, true, false], [true, false, true, true], [false, false, true, false], [true, false, true, false], [true, false, true, true], [true, false, false, true], [true, false, false, true], [false, false, true, false], [true, false, false, false], [true, false, false, false], [true, false, false, false], [true, false, false, false], [false, false, false, false]]
def sr_p296 : List Nat := [0, 84, 91, 98, 105, 112, 120, 127, 133, 140, 146, 148, 173, 175, 177, 204, 205, 213, 215, 221, 226, 231, 236]
/-- 297: J6_bitCount_0f7a4 -/
def sr_b297 : List (List sr_I) := [[(.iload 0, []), (.iload 0, []), (.sipush 0, [1]), (.iushr, []), (.sipush 0, [1431655765]), (.iand, []), (.isub, []), (.istore 0, []), (.iload 0, []), (.sipush 0, [858993459]), (.iand, []), (.iload 0, []), (.sipush 0, [2]), (.iushr, []), (.sipush 0, [858993459]), (.iand, []), (.iadd, []), (.istore 0, []), (.iload 0, []), (.iload 0, []), (.sipush 0, [4]), (.iushr, []), (.iadd, []), (.sipush 0, [252645135]), (.iand, []), (.istore 0, []), (.iload 0, []), (.iload 0, []), (.sipush 0, [8]), (.iushr, []), (.iadd, []), (.istore 0, []), (.iload 0, []), (.iload 0, []), (.sipush 0, [16]), (.iushr, []), (.iadd, []), (.istore 0, []), (.iload 0, []), (.sipush 0, [63]), (.iand, []), (.ireturn, [])]]
def sr_m297 : List (List Bool) := [[true]]
def sr_p297 : List Nat := [0]
def sr_bb_0 : List (List (List sr_I)) := [sr_b0, sr_b1, sr_b2, sr_b3, sr_b4, sr_b5, sr_b6, sr_b7, sr_b8, sr_b9, sr_b10, sr_b11, sr_b12, sr_b13, sr_b14, sr_b15, sr_b16, sr_b17, sr_b18, sr_b19]
def sr_bb_1 : List (List (List sr_I)) := [sr_b20, sr_b21, sr_b22, sr_b23, sr_b24, sr_b25, sr_b26, sr_b27, sr_b28, sr_b29, sr_b30, sr_b31, sr_b32, sr_b33, sr_b34, sr_b35, sr_b36, sr_b37, sr_b38, sr_b39]
def sr_bb_2 : List (List (List sr_I)) := [sr_b40, sr_b41, sr_b42, sr_b43, sr_b44, sr_b45, sr_b46, sr_b47, sr_b48, sr_b49, sr_b50, sr_b51, sr_b52, sr_b53, sr_b54, sr_b55, sr_b56, sr_b57, sr_b58, sr_b59]
def sr_bb_3 : List (List (List sr_I)) := [sr_b60, sr_b61, sr_b62, sr_b63, sr_b64, sr_b65, sr_b66, sr_b67, sr_b68, sr_b69, sr_b70, sr_b71, sr_b72, sr_b73, sr_b74, sr_b75, sr_b76, sr_b77, sr_b78, sr_b79]
def sr_bb_4 : List (List (List sr_I)) := [sr_b80, sr_b81, sr_b82, sr_b83, sr_b84, sr_b85, sr_b86, sr_b87, sr_b88, sr_b89, sr_b90, sr_b91, sr_b92, sr_b93, sr_b94, sr_b95, sr_b96, sr_b97, sr_b98, sr_b99]
def sr_bb_5 : List (List (List sr_I)) := [sr_b100, sr_b101, sr_b102, sr_b103, sr_b104, sr_b105, sr_b106, sr_b107, sr_b108, sr_b109, sr_b110, sr_b111, sr_b112, sr_b113, sr_b114, sr_b115, sr_b116, sr_b117, sr_b118, sr_b119]
def sr_bb_6 : List (List (List sr_I)) := [sr_b120, sr_b121, sr_b122, sr_b123, sr_b124, sr_b125, sr_b126, sr_b127, sr_b128, sr_b129, sr_b130, sr_b131, sr_b132, sr_b133, sr_b134, sr_b135, sr_b136, sr_b137, sr_b138, sr_b139]
def sr_bb_7 : List (List (List sr_I)) := [sr_b140, sr_b141, sr_b142, sr_b143, sr_b144, sr_b145, sr_b146, sr_b147, sr_b148, sr_b149, sr_b150, sr_b151, sr_b152, sr_b153, sr_b154, sr_b155, sr_b156, sr_b157, sr_b158, sr_b159]
def sr_bb_8 : List (List (List sr_I)) := [sr_b160, sr_b161, sr_b162, sr_b163, sr_b164, sr_b165, sr_b166, sr_b167, sr_b168, sr_b169, sr_b170, sr_b171, sr_b172, sr_b173, sr_b174, sr_b175, sr_b176, sr_b177, sr_b178, sr_b179]
def sr_bb_9 : List (List (List sr_I)) := [sr_b180, sr_b181, sr_b182, sr_b183, sr_b184, sr_b185, sr_b186, sr_b187, sr_b188, sr_b189, sr_b190, sr_b191, sr_b192, sr_b193, sr_b194, sr_b195, sr_b196, sr_b197, sr_b198, sr_b199]
def sr_bb_10 : List (List (List sr_I)) := [sr_b200, sr_b201, sr_b202, sr_b203, sr_b204, sr_b205, sr_b206, sr_b207, sr_b208, sr_b209, sr_b210, sr_b211, sr_b212, sr_b213, sr_b214, sr_b215, sr_b216, sr_b217, sr_b218, sr_b219]
def sr_bb_11 : List (List (List sr_I)) := [sr_b220, sr_b221, sr_b222, sr_b223, sr_b224, sr_b225, sr_b226, sr_b227, sr_b228, sr_b229, sr_b230, sr_b231, sr_b232, sr_b233, sr_b234, sr_b235, sr_b236, sr_b237, sr_b238, sr_b239]
def sr_bb_12 : List (List (List sr_I)) := [sr_b240, sr_b241, sr_b242, sr_b243, sr_b244, sr_b245, sr_b246, sr_b247, sr_b248, sr_b249, sr_b250, sr_b251, sr_b252, sr_b253, sr_b254, sr_b255, sr_b256, sr_b257, sr_b258, sr_b259]
def sr_bb_13 : List (List (List sr_I)) := [sr_b260, sr_b261, sr_b262, sr_b263, sr_b264, sr_b265, sr_b266, sr_b267, sr_b268, sr_b269, sr_b270, sr_b271, sr_b272, sr_b273, sr_b274, sr_b275, sr_b276, sr_b277, sr_b278, sr_b279]
def sr_bb_14 : List (List (List sr_I)) := [sr_b280, sr_b281, sr_b282, sr_b283, sr_b284, sr_b285, sr_b286, sr_b287, sr_b288, sr_b289, sr_b290, sr_b291, sr_b292, sr_b293, sr_b294, sr_b295, sr_b296, sr_b297]
def sr_bb : Nat → List (List (List sr_I))
  | 0 => sr_bb_0
  | 1 => sr_bb_1
  | 2 => sr_bb_2
  | 3 => sr_bb_3
  | 4 => sr_bb_4
  | 5 => sr_bb_5
  | 6 => sr_bb_6
  | 7 => sr_bb_7
  | 8 => sr_bb_8
  | 9 => sr_bb_9
  | 10 => sr_bb_10
  | 11 => sr_bb_11
  | 12 => sr_bb_12
  | 13 => sr_bb_13
  | 14 => sr_bb_14
  | _ => []
def sr_mm_0 : List (List (List Bool)) := [sr_m0, sr_m1, sr_m2, sr_m3, sr_m4, sr_m5, sr_m6, sr_m7, sr_m8, sr_m9, sr_m10, sr_m11, sr_m12, sr_m13, sr_m14, sr_m15, sr_m16, sr_m17, sr_m18, sr_m19]
def sr_mm_1 : List (List (List Bool)) := [sr_m20, sr_m21, sr_m22, sr_m23, sr_m24, sr_m25, sr_m26, sr_m27, sr_m28, sr_m29, sr_m30, sr_m31, sr_m32, sr_m33, sr_m34, sr_m35, sr_m36, sr_m37, sr_m38, sr_m39]
def sr_mm_2 : List (List (List Bool)) := [sr_m40, sr_m41, sr_m42, sr_m43, sr_m44, sr_m45, sr_m46, sr_m47, sr_m48, sr_m49, sr_m50, sr_m51, sr_m52, sr_m53, sr_m54, sr_m55, sr_m56, sr_m57, sr_m58, sr_m59]
def sr_mm_3 : List (List (List Bool)) := [sr_m60, sr_m61, sr_m62, sr_m63, sr_m64, sr_m65, sr_m66, sr_m67, sr_m68, sr_m69, sr_m70, sr_m71, sr_m72, sr_m73, sr_m74, sr_m75, sr_m76, sr_m77, sr_m78, sr_m79]
def sr_mm_4 : List (List (List Bool)) := [sr_m80, sr_m81, sr_m82, sr_m83, sr_m84, sr_m85, sr_m86, sr_m87, sr_m88, sr_m89, sr_m90, sr_m91, sr_m92, sr_m93, sr_m94, sr_m95, sr_m96, sr_m97, sr_m98, sr_m99]
def sr_mm_5 : List (List (List Bool)) := [sr_m100, sr_m101, sr_m102, sr_m103, sr_m104, sr_m105, sr_m106, sr_m107, sr_m108, sr_m109, sr_m110, sr_m111, sr_m112, sr_m113, sr_m114, sr_m115, sr_m116, sr_m117, sr_m118, sr_m119]
def sr_mm_6 : List (List (List Bool)) := [sr_m120, sr_m121, sr_m122, sr_m123, sr_m124, sr_m125, sr_m126, sr_m127, sr_m128, sr_m129, sr_m130, sr_m131, sr_m132, sr_m133, sr_m134, sr_m135, sr_m136, sr_m137, sr_m138, sr_m139]
def sr_mm_7 : List (List (List Bool)) := [sr_m140, sr_m141, sr_m142, sr_m143, sr_m144, sr_m145, sr_m146, sr_m147, sr_m148, sr_m149, sr_m150, sr_m151, sr_m152, sr_m153, sr_m154, sr_m155, sr_m156, sr_m157, sr_m158, sr_m159]
def sr_mm_8 : List (List (List Bool)) := [sr_m160, sr_m161, sr_m162, sr_m163, sr_m164, sr_m165, sr_m166, sr_m167, sr_m168, sr_m169, sr_m170, sr_m171, sr_m172, sr_m173, sr_m174, sr_m175, sr_m176, sr_m177, sr_m178, sr_m179]
def sr_mm_9 : List (List (List Bool)) := [sr_m180, sr_m181, sr_m182, sr_m183, sr_m184, sr_m185, sr_m186, sr_m187, sr_m188, sr_m189, sr_m190, sr_m191, sr_m192, sr_m193, sr_m194, sr_m195, sr_m196, sr_m197, sr_m198, sr_m199]
def sr_mm_10 : List (List (List Bool)) := [sr_m200, sr_m201, sr_m202, sr_m203, sr_m204, sr_m205, sr_m206, sr_m207, sr_m208, sr_m209, sr_m210, sr_m211, sr_m212, sr_m213, sr_m214, sr_m215, sr_m216, sr_m217, sr_m218, sr_m219]
def sr_mm_11 : List (List (List Bool)) := [sr_m220, sr_m221, sr_m222, sr_m223, sr_m224, sr_m225, sr_m226, sr_m227, sr_m228, sr_m229, sr_m230, sr_m231, sr_m232, sr_m233, sr_m234, sr_m235, sr_m236, sr_m237, sr_m238, sr_m239]
def sr_mm_12 : List (List (List Bool)) := [sr_m240, sr_m241, sr_m242, sr_m243, sr_m244, sr_m245, sr_m246, sr_m247, sr_m248, sr_m249, sr_m250, sr_m251, sr_m252, sr_m253, sr_m254, sr_m255, sr_m256, sr_m257, sr_m258, sr_m259]
def sr_mm_13 : List (List (List Bool)) := [sr_m260, sr_m261, sr_m262, sr_m263, sr_m264, sr_m265, sr_m266, sr_m267, sr_m268, sr_m269, sr_m270, sr_m271, sr_m272, sr_m273, sr_m274, sr_m275, sr_m276, sr_m277, sr_m278, sr_m279]
def sr_mm_14 : List (List (List Bool)) := [sr_m280, sr_m281, sr_m282, sr_m283, sr_m284, sr_m285, sr_m286, sr_m287, sr_m288, sr_m289, sr_m290, sr_m291, sr_m292, sr_m293, sr_m294, sr_m295, sr_m296, sr_m297]
def sr_mm : Nat → List (List (List Bool))
  | 0 => sr_mm_0
  | 1 => sr_mm_1
  | 2 => sr_mm_2
  | 3 => sr_mm_3
  | 4 => sr_mm_4
  | 5 => sr_mm_5
  | 6 => sr_mm_6
  | 7 => sr_mm_7
  | 8 => sr_mm_8
  | 9 => sr_mm_9
  | 10 => sr_mm_10
  | 11 => sr_mm_11
  | 12 => sr_mm_12
  | 13 => sr_mm_13
  | 14 => sr_mm_14
  | _ => []
def sr_pp_0 : List (List Nat) := [sr_p0, sr_p1, sr_p2, sr_p3, sr_p4, sr_p5, sr_p6, sr_p7, sr_p8, sr_p9, sr_p10, sr_p11, sr_p12, sr_p13, sr_p14, sr_p15, sr_p16, sr_p17, sr_p18, sr_p19]
def sr_pp_1 : List (List Nat) := [sr_p20, sr_p21, sr_p22, sr_p23, sr_p24, sr_p25, sr_p26, sr_p27, sr_p28, sr_p29, sr_p30, sr_p31, sr_p32, sr_p33, sr_p34, sr_p35, sr_p36, sr_p37, sr_p38, sr_p39]
def sr_pp_2 : List (List Nat) := [sr_p40, sr_p41, sr_p42, sr_p43, sr_p44, sr_p45, sr_p46, sr_p47, sr_p48, sr_p49, sr_p50, sr_p51, sr_p52, sr_p53, sr_p54, sr_p55, sr_p56, sr_p57, sr_p58, sr_p59]
def sr_pp_3 : List (List Nat) := [sr_p60, sr_p61, sr_p62, sr_p63, sr_p64, sr_p65, sr_p66, sr_p67, sr_p68, sr_p69, sr_p70, sr_p71, sr_p72, sr_p73, sr_p74, sr_p75, sr_p76, sr_p77, sr_p78, sr_p79]
def sr_pp_4 : List (List Nat) := [sr_p80, sr_p81, sr_p82, sr_p83, sr_p84, sr_p85, sr_p86, sr_p87, sr_p88, sr_p89, sr_p90, sr_p91, sr_p92, sr_p93, sr_p94, sr_p95, sr_p96, sr_p97, sr_p98, sr_p99]
def sr_pp_5 : List (List Nat) := [sr_p100, sr_p101, sr_p102, sr_p103, sr_p104, sr_p105, sr_p106, sr_p107, sr_p108, sr_p109, sr_p110, sr_p111, sr_p112, sr_p113, sr_p114, sr_p115, sr_p116, sr_p117, sr_p118, sr_p119]
def sr_pp_6 : List (List Nat) := [sr_p120, sr_p121, sr_p122, sr_p123, sr_p124, sr_p125, sr_p126, sr_p127, sr_p128, sr_p129, sr_p130, sr_p131, sr_p132, sr_p133, sr_p134, sr_p135, sr_p136, sr_p137, sr_p138, sr_p139]
def sr_pp_7 : List (List Nat) := [sr_p140, sr_p141, sr_p142, sr_p143, sr_p144, sr_p145, sr_p146, sr_p147, sr_p148, sr_p149, sr_p150, sr_p151, sr_p152, sr_p153, sr_p154, sr_p155, sr_p156, sr_p157, sr_p158, sr_p159]
def sr_pp_8 : List (List Nat) := [sr_p160, sr_p161, sr_p162, sr_p163, sr_p164, sr_p165, sr_p166, sr_p167, sr_p168, sr_p169, sr_p170, sr_p171, sr_p172, sr_p173, sr_p174, sr_p175, sr_p176, sr_p177, sr_p178, sr_p179]
def sr_pp_9 : List (List Nat) := [sr_p180, sr_p181, sr_p182, sr_p183, sr_p184, sr_p185, sr_p186, sr_p187, sr_p188, sr_p189, sr_p190, sr_p191, sr_p192, sr_p193, sr_p194, sr_p195, sr_p196, sr_p197, sr_p198, sr_p199]
def sr_pp_10 : List (List Nat) := [sr_p200, sr_p201, sr_p202, sr_p203, sr_p204, sr_p205, sr_p206, sr_p207, sr_p208, sr_p209, sr_p210, sr_p211, sr_p212, sr_p213, sr_p214, sr_p215, sr_p216, sr_p217, sr_p218, sr_p219]
def sr_pp_11 : List (List Nat) := [sr_p220, sr_p221, sr_p222, sr_p223, sr_p224, sr_p225, sr_p226, sr_p227, sr_p228, sr_p229, sr_p230, sr_p231, sr_p232, sr_p233, sr_p234, sr_p235, sr_p236, sr_p237, sr_p238, sr_p239]
def sr_pp_12 : List (List Nat) := [sr_p240, sr_p241, sr_p242, sr_p243, sr_p244, sr_p245, sr_p246, sr_p247, sr_p248, sr_p249, sr_p250, sr_p251, sr_p252, sr_p253, sr_p254, sr_p255, sr_p256, sr_p257, sr_p258, sr_p259]
def sr_pp_13 : List (List Nat) := [sr_p260, sr_p261, sr_p262, sr_p263, sr_p264, sr_p265, sr_p266, sr_p267, sr_p268, sr_p269, sr_p270, sr_p271, sr_p272, sr_p273, sr_p274, sr_p275, sr_p276, sr_p277, sr_p278, sr_p279]
def sr_pp_14 : List (List Nat) := [sr_p280, sr_p281, sr_p282, sr_p283, sr_p284, sr_p285, sr_p286, sr_p287, sr_p288, sr_p289, sr_p290, sr_p291, sr_p292, sr_p293, sr_p294, sr_p295, sr_p296, sr_p297]
def sr_pp : Nat → List (List Nat)
  | 0 => sr_pp_0
  | 1 => sr_pp_1
  | 2 => sr_pp_2
  | 3 => sr_pp_3
  | 4 => sr_pp_4
  | 5 => sr_pp_5
  | 6 => sr_pp_6
  | 7 => sr_pp_7
  | 8 => sr_pp_8
  | 9 => sr_pp_9
  | 10 => sr_pp_10
  | 11 => sr_pp_11
  | 12 => sr_pp_12
  | 13 => sr_pp_13
  | 14 => sr_pp_14
  | _ => []
/-- the block of a label, what is read behind it, where it stands: label = 1000 * method + block -/
def sr_bk (t : Nat) : List sr_I := ((sr_bb (t / 20000)).getD (t / 1000 % 20) []).getD (t % 1000) []
def sr_mk (t : Nat) : List Bool := ((sr_mm (t / 20000)).getD (t / 1000 % 20) []).getD (t % 1000) []
def sr_pc (t : Nat) : Nat := ((sr_pp (t / 20000)).getD (t / 1000 % 20) []).getD (t % 1000) 0
def sr_ml (m : Nat) : Nat := ([1, 1, 3, 3, 7, 5, 5, 7, 5, 10, 7, 10, 3, 4, 6, 5, 5, 1, 10, 4, 6, 9, 7, 7, 7, 8, 2, 4, 11, 1, 2, 2, 2, 2, 3, 8, 6, 5, 2, 8, 1, 3, 3, 2, 1, 1, 3, 2, 3, 3, 3, 3, 1, 1, 2, 3, 5, 1, 4, 1, 2, 2, 1, 5, 3, 2, 1, 1, 1, 1, 4, 3, 2, 3, 1, 1, 2, 2, 2, 2, 3, 3, 3, 1, 1, 2, 1, 1, 1, 3, 2, 2, 3, 2, 5, 6, 9, 8, 9, 8, 6, 7, 3, 2, 2, 5, 4, 1, 1, 1, 5, 2, 3, 2, 3, 4, 1, 1, 3, 3, 1, 4, 9, 9, 5, 8, 1, 7, 3, 2, 3, 3, 4, 3, 4, 3, 5, 3, 6, 4, 4, 2, 1, 4, 3, 4, 4, 4, 3, 2, 2, 3, 7, 3, 10, 5, 1, 5, 6, 2, 2, 7, 8, 5, 1, 1, 1, 2, 1, 1, 8, 1, 1, 1, 2, 2, 4, 2, 2, 2, 2, 1, 4, 5, 5, 2, 3, 5, 2, 1, 5, 5, 6, 3, 2, 3, 1, 1, 1, 2, 2, 2, 2, 3, 3, 2, 3, 1, 8, 3, 2, 5, 1, 6, 2, 2, 3, 3, 2, 2, 4, 4, 8, 5, 4, 5, 8, 8, 5, 4, 2, 7, 4, 4, 8, 1, 1, 4, 4, 7, 3, 4, 5, 5, 4, 3, 4, 6, 4, 3, 3, 3, 4, 3, 2, 4, 2, 4, 3, 3, 4, 8, 8, 6, 4, 4, 7, 7, 2, 3, 3, 5, 4, 3, 2, 5, 6, 6, 3, 3, 4, 10, 10, 5, 6, 2, 2, 1, 3, 3, 5, 8, 6, 1, 1, 1, 4, 1] : List Nat).getD m 0
/-- all the cells that are made but exceptions: the class's, the reference's, the law's row -/
def sr_mx : Nat := 187
/-- the texts, by their bytes -/
def sr_tx : Nat → List Nat
  | 0 => [114, 111, 111, 109, 32, 32, 115, 99, 114, 101, 101, 110, 102, 111, 108, 107, 32, 32, 99, 97, 114, 114, 121, 32, 115, 116, 101, 112, 32, 32, 109, 111, 116, 104, 32, 32, 115, 101, 101, 100, 32, 32, 108, 97, 119, 32, 32, 32, 97, 103, 101, 105, 110, 103, 112, 97, 121, 32, 32, 32, 99, 117, 116, 32, 32, 32, 111, 114, 32, 32, 32, 32, 97, 110, 100, 32, 32, 32, 110, 111, 116, 32, 32, 32, 115, 101, 97, 115, 111, 110, 102, 114, 111, 109, 32, 32, 97, 103, 101, 32, 32, 32, 100, 111, 110, 101, 32, 32, 110, 101, 97, 114, 32, 32, 119, 104, 111, 108, 101, 32, 104, 111, 117, 114, 32, 32]
  | 1 => [110, 111, 32, 115, 117, 99, 104, 32, 111, 110, 101, 32, 111, 102, 32, 102, 111, 108, 107]
  | 2 => [110, 111, 32, 115, 117, 99, 104, 32, 119, 104, 97, 116]
  | 3 => [114, 111, 111, 109, 32, 115, 99, 114, 101, 101, 110, 32, 102, 111, 108, 107, 32, 99, 97, 114, 114, 121, 32, 115, 116, 101, 112, 32, 109, 111, 116, 104, 32, 115, 101, 101, 100, 32, 108, 97, 119, 32, 97, 103, 101, 105, 110, 103, 32, 112, 97, 121, 32, 99, 117, 116, 32, 111, 114, 32, 97, 110, 100, 32, 110, 111, 116, 32, 115, 101, 97, 115, 111, 110, 32, 102, 114, 111, 109, 32, 97, 103, 101, 32, 100, 111, 110, 101, 32, 110, 101, 97, 114, 32, 119, 104, 111, 108, 101, 32, 104, 111, 117, 114, 32]
  | _ => []
/-! links: own class, by number; (pool index, what it is, the place of its word in lw_tbl) -/
def sr_cn : Nat → String
  | 0 => RX0
  | 1 => RX1
  | 2 => RX2
  | 3 => RX3
  | 4 => RX4
  | 5 => RX5
  | 6 => RX6
  | 7 => RX7
  | 8 => RX8
  | 9 => RX9
  | 10 => RX10
  | 11 => RX11
  | 12 => RX12
  | 13 => RJ6
  | _ => ""
def sr_cx : Nat → Nat
  | 0 => 0
  | 2 => 1
  | 3 => 2
  | 4 => 3
  | 5 => 4
  | 6 => 5
  | 7 => 6
  | 8 => 7
  | 9 => 8
  | 10 => 9
  | 11 => 10
  | 12 => 11
  | _ => 99
def sr_kc : Nat → List (Nat × List Nat × Nat)
  | 4 => [(235, [99999], 896)]
  | 5 => [(77, [1000000], 822)]
  | 10 => [(26, [1000000], 1190)]
  | 11 => [(284, [1000000], 1198), (300, [2147483648, 0], 1244)]
  | 12 => [(195, [99999], 1773), (447, [1103515245], 2078), (450, [2147483647], 2079), (514, [2147483648, 0], 2132)]
  | 13 => [(265, [1431655765], 719), (266, [858993459], 720), (267, [252645135], 721)]
  | _ => []
def sr_kd : Nat → List (Nat × List Nat × Nat)
  | 1 => [(113, [9223372036854775808, 0], 1099), (115, [9], 1100), (124, [999], 1104), (147, [99], 1140), (152, [9999], 1141), (166, [100], 1146), (172, [50], 1158)]
  | 3 => [(42, [9223372036854775808, 0], 1009), (58, [1000000000000], 1016), (60, [1000000000000, 0], 1017)]
  | 6 => [(74, [1103515245], 1154), (76, [12345], 1155), (78, [2147483647], 1156), (80, [65536], 1157)]
  | 11 => [(200, [9223372036854775808, 0], 1021), (317, [1, 0], 1286), (322, [100], 1287)]
  | 12 => [(343, [1000000000000], 1986), (345, [1000000000000, 0], 1987), (486, [9223372036854775808, 0], 1956), (539, [1, 0], 2180), (541, [100], 2181)]
  | _ => []
def sr_ks : Nat → List (Nat × Nat × Nat)
  | 5 => [(37, 0, 162)]
  | 11 => [(132, 1, 1464), (158, 2, 1499)]
  | 12 => [(200, 3, 1756)]
  | _ => []
def sr_fl : Nat → List (Nat × Nat × Nat × Nat)
  | 0 => [(13, 0, 1, 590), (17, 6, 6, 285), (22, 6, 7, 290), (25, 6, 9, 299), (28, 6, 10, 304), (35, 5, 3, 366), (38, 5, 4, 372), (39, 5, 2, 361), (52, 5, 0, 353), (7, 0, 0, 588)]
  | 1 => [(104, 6, 11, 310), (121, 5, 2, 362), (137, 5, 1, 357), (140, 5, 5, 379), (149, 5, 6, 383), (154, 6, 2, 268), (157, 6, 10, 305), (163, 8, 5, 465), (182, 8, 1, 454), (186, 6, 12, 315), (189, 6, 4, 276), (19, 5, 7, 387), (208, 6, 5, 282), (211, 6, 8, 296), (29, 5, 0, 350), (33, 8, 9, 475), (38, 8, 10, 478), (42, 8, 11, 481), (51, 6, 9, 300), (54, 8, 12, 484), (57, 8, 13, 487), (68, 5, 8, 390), (74, 8, 14, 490), (77, 8, 16, 496), (80, 8, 15, 493), (83, 5, 3, 368), (86, 5, 4, 374), (89, 8, 17, 499)]
  | 2 => [(102, 6, 5, 279), (105, 5, 5, 378), (108, 6, 2, 266), (15, 1, 1, 659), (18, 1, 2, 661), (21, 1, 3, 663), (26, 1, 4, 665), (30, 1, 5, 666), (35, 1, 6, 667), (38, 1, 7, 668), (42, 1, 8, 669), (45, 1, 9, 670), (48, 5, 0, 349), (52, 6, 6, 284), (55, 6, 7, 289), (58, 6, 9, 298), (65, 6, 0, 255), (68, 6, 1, 260), (87, 5, 1, 356), (9, 1, 0, 657), (90, 6, 3, 271), (93, 5, 3, 367), (94, 5, 4, 373)]
  | 3 => [(11, 2, 2, 426), (15, 2, 3, 427), (18, 2, 4, 428), (21, 2, 5, 429), (24, 2, 6, 430), (28, 2, 7, 431), (31, 2, 0, 422), (35, 2, 1, 425)]
  | 4 => [(125, 4, 6, 215), (128, 6, 2, 269), (131, 5, 1, 358), (134, 8, 6, 469), (141, 6, 0, 258), (144, 6, 1, 263), (15, 3, 1, 540), (154, 8, 2, 458), (157, 6, 5, 281), (160, 6, 6, 287), (163, 6, 7, 292), (166, 6, 8, 295), (169, 6, 10, 307), (172, 6, 9, 302), (179, 6, 3, 273), (185, 8, 3, 460), (188, 5, 2, 364), (191, 5, 3, 370), (192, 5, 4, 376), (193, 5, 5, 381), (196, 5, 6, 385), (199, 8, 9, 476), (202, 8, 10, 479), (205, 8, 11, 482), (208, 8, 12, 485), (21, 3, 2, 542), (211, 8, 13, 488), (214, 8, 14, 491), (217, 8, 15, 494), (220, 8, 16, 497), (223, 8, 17, 500), (226, 8, 7, 471), (229, 8, 5, 466), (232, 8, 8, 473), (236, 5, 9, 393), (239, 8, 1, 455), (28, 3, 3, 544), (286, 2, 0, 423), (32, 3, 4, 545), (35, 3, 5, 546), (40, 3, 6, 547), (44, 3, 7, 548), (47, 3, 8, 549), (50, 3, 9, 550), (53, 3, 10, 551), (57, 3, 11, 552), (67, 4, 5, 213), (74, 8, 4, 462), (77, 8, 0, 452), (80, 5, 0, 352), (9, 3, 0, 538), (91, 4, 7, 217)]
  | 5 => [(15, 4, 1, 207), (19, 4, 2, 209), (22, 4, 3, 210), (25, 4, 4, 211), (28, 4, 5, 212), (31, 4, 6, 214), (34, 4, 7, 216), (9, 4, 0, 206)]
  | 6 => [(10, 5, 0, 347), (16, 5, 2, 360), (20, 5, 3, 365), (23, 5, 4, 371), (26, 5, 5, 377), (29, 5, 6, 382), (36, 5, 1, 354), (40, 5, 7, 386), (43, 5, 8, 389), (46, 5, 9, 392), (64, 6, 11, 311)]
  | 7 => [(11, 6, 5, 278), (15, 6, 6, 283), (18, 6, 7, 288), (21, 6, 8, 293), (24, 6, 9, 297), (27, 6, 10, 303), (30, 6, 11, 308), (33, 6, 12, 314), (36, 6, 13, 316), (39, 6, 0, 256), (43, 6, 1, 261), (46, 6, 2, 267), (49, 6, 3, 272), (52, 6, 4, 275)]
  | 8 => [(15, 7, 1, 604), (18, 7, 2, 606), (22, 7, 3, 607), (25, 7, 4, 608), (28, 7, 5, 609), (32, 7, 6, 610), (35, 7, 7, 611), (52, 6, 11, 313), (9, 7, 0, 602)]
  | 9 => [(12, 8, 0, 450), (21, 8, 1, 453), (27, 8, 2, 457), (31, 8, 3, 459), (34, 8, 10, 477), (37, 8, 11, 480), (40, 8, 12, 483), (43, 8, 13, 486), (46, 8, 15, 492), (49, 8, 16, 495), (52, 8, 17, 498), (61, 8, 4, 461), (65, 8, 5, 464), (68, 8, 6, 468), (72, 8, 7, 470), (75, 8, 8, 472), (78, 8, 9, 474), (81, 8, 14, 489), (84, 5, 0, 351), (88, 6, 2, 265), (91, 5, 1, 355)]
  | 10 => [(11, 9, 0, 636), (17, 9, 1, 638), (20, 9, 2, 640), (23, 9, 3, 641), (46, 6, 11, 309), (55, 6, 0, 257), (59, 6, 1, 262)]
  | 11 => [(10, 10, 0, 745), (111, 8, 4, 463), (114, 3, 0, 539), (117, 3, 1, 541), (137, 5, 2, 363), (141, 5, 3, 369), (144, 5, 4, 375), (147, 5, 5, 380), (150, 5, 6, 384), (164, 6, 5, 280), (167, 6, 6, 286), (168, 6, 7, 291), (169, 6, 8, 294), (172, 6, 9, 301), (175, 6, 10, 306), (182, 6, 11, 312), (189, 6, 13, 317), (19, 10, 1, 746), (250, 5, 7, 388), (259, 5, 8, 391), (26, 10, 2, 747), (262, 6, 4, 277), (271, 9, 0, 637), (288, 1, 0, 658), (291, 1, 1, 660), (294, 1, 2, 662), (297, 1, 3, 664), (30, 10, 3, 748), (304, 6, 2, 270), (319, 8, 5, 467), (328, 9, 1, 639), (33, 10, 4, 749), (344, 5, 1, 359), (359, 7, 0, 603), (36, 10, 5, 750), (360, 7, 1, 605), (374, 5, 9, 394), (378, 6, 3, 274), (387, 0, 0, 589), (391, 6, 0, 259), (394, 6, 1, 264), (397, 8, 1, 456), (401, 2, 0, 424), (43, 10, 6, 751), (50, 10, 7, 752), (57, 10, 8, 753), (64, 10, 9, 754), (71, 8, 0, 451), (74, 5, 0, 348), (87, 3, 2, 543), (91, 4, 1, 208)]
  | 12 => [(102, 11, 45, 1565), (105, 11, 46, 1566), (108, 11, 47, 1567), (111, 11, 48, 1568), (114, 11, 49, 1569), (117, 11, 50, 1570), (120, 11, 51, 1571), (123, 11, 52, 1572), (126, 11, 56, 1576), (129, 11, 59, 1579), (13, 11, 3, 1523), (132, 11, 61, 1581), (135, 11, 62, 1582), (138, 11, 63, 1583), (141, 11, 64, 1584), (144, 11, 65, 1585), (148, 11, 66, 1586), (151, 11, 67, 1587), (157, 11, 0, 1520), (16, 11, 4, 1524), (160, 11, 2, 1522), (163, 11, 29, 1549), (166, 11, 28, 1548), (173, 11, 30, 1550), (176, 11, 31, 1551), (186, 11, 32, 1552), (19, 11, 5, 1525), (211, 11, 33, 1553), (214, 11, 34, 1554), (22, 11, 6, 1526), (240, 11, 26, 1546), (25, 11, 7, 1527), (267, 11, 27, 1547), (28, 11, 8, 1528), (280, 11, 38, 1558), (307, 11, 37, 1557), (31, 11, 9, 1529), (313, 11, 35, 1555), (320, 11, 60, 1580), (323, 11, 53, 1573), (327, 11, 54, 1574), (330, 11, 41, 1561), (34, 11, 10, 1530), (353, 11, 55, 1575), (356, 11, 57, 1577), (37, 11, 11, 1531), (40, 11, 12, 1532), (43, 11, 13, 1533), (441, 11, 58, 1578), (46, 11, 14, 1534), (49, 11, 15, 1535), (52, 11, 16, 1536), (55, 11, 17, 1537), (58, 11, 18, 1538), (61, 11, 19, 1539), (64, 11, 20, 1540), (67, 11, 21, 1541), (7, 11, 1, 1521), (70, 11, 22, 1542), (73, 11, 23, 1543), (76, 11, 24, 1544), (79, 11, 25, 1545), (82, 11, 36, 1556), (86, 11, 39, 1559), (90, 11, 40, 1560), (93, 11, 42, 1562), (96, 11, 43, 1563), (99, 11, 44, 1564)]
  | _ => []
def sr_sl : Nat → List (Nat × Nat × Nat)
  | 2 => [(117, 2, 1254)]
  | 7 => [(94, 0, 1086), (97, 1, 1088)]
  | _ => []
def sr_cc : Nat → List (Nat × Nat × Nat)
  | 4 => [(18, 4, 156), (25, 8, 237)]
  | 6 => [(7, 6, 249)]
  | 9 => [(18, 2, 416), (9, 5, 243)]
  | 11 => [(16, 8, 578), (23, 5, 580), (40, 0, 582), (47, 7, 596), (54, 9, 630), (61, 1, 651), (7, 3, 150)]
  | _ => []
def sr_bl : Nat → List (Nat × Nat × Nat)
  | 0 => [(1, 9, 587), (42, 6, 1060)]
  | 1 => [(126, 3, 1105)]
  | 2 => [(3, 9, 656)]
  | 3 => [(3, 9, 421)]
  | 4 => [(277, 1, 944), (3, 9, 155)]
  | 5 => [(3, 9, 161), (39, 7, 163), (49, 0, 797)]
  | 6 => [(1, 9, 248), (54, 6, 744)]
  | 7 => [(3, 9, 254), (55, 6, 741)]
  | 8 => [(3, 9, 601), (38, 0, 1349)]
  | 9 => [(3, 9, 242)]
  | 10 => [(3, 9, 635), (49, 0, 1211)]
  | 11 => [(1, 9, 147), (347, 2, 1314)]
  | 12 => [(1, 9, 1511), (202, 8, 1757), (207, 7, 1765), (337, 5, 1983), (380, 2, 1911), (407, 3, 2049), (411, 4, 2050), (439, 0, 2053), (552, 1, 2209)]
  | _ => []
def sr_ln : Nat → List (Nat × Nat × Nat × Nat)
  | 0 => [(31, 4, 0, 1056), (48, 77, 0, 1386), (56, 91, 0, 1387), (59, 94, 0, 1388)]
  | 1 => [(100, 79, 0, 1097), (107, 14, 0, 1098), (117, 13, 0, 1101), (13, 8, 0, 1131), (131, 86, 0, 1108), (134, 87, 0, 1111), (143, 15, 0, 1139), (16, 10, 0, 1136), (160, 16, 0, 1145), (168, 12, 0, 1147), (174, 103, 0, 1159), (178, 83, 0, 1150), (192, 35, 0, 1000), (196, 36, 0, 1004), (200, 78, 0, 1042), (203, 297, 0, 999), (25, 11, 0, 1142), (45, 93, 0, 1127), (60, 96, 0, 1128), (64, 94, 0, 1129), (71, 100, 0, 1130), (9, 7, 0, 1124), (92, 101, 0, 1134), (96, 9, 0, 1135)]
  | 2 => [(111, 297, 0, 1253), (120, 26, 0, 1268), (124, 100, 0, 1272), (127, 105, 0, 1273), (130, 27, 0, 1274), (134, 95, 0, 1271), (61, 20, 0, 1220), (71, 96, 0, 1226), (75, 94, 0, 1227), (79, 21, 0, 1228), (83, 19, 0, 1232), (95, 99, 0, 1224), (99, 98, 0, 1225)]
  | 3 => [(38, 31, 0, 1008), (46, 37, 0, 1010), (50, 38, 0, 1013), (54, 39, 0, 1018)]
  | 4 => [(100, 49, 0, 872), (103, 50, 0, 880), (106, 51, 0, 884), (109, 52, 0, 888), (112, 53, 0, 892), (115, 54, 0, 897), (118, 43, 0, 835), (122, 66, 0, 839), (137, 46, 0, 840), (147, 45, 0, 844), (150, 118, 0, 852), (175, 96, 0, 856), (182, 119, 0, 876), (20, 63, 0, 158), (243, 31, 0, 901), (246, 32, 0, 905), (249, 55, 0, 909), (252, 33, 0, 947), (255, 61, 0, 913), (258, 56, 0, 924), (261, 58, 0, 940), (264, 57, 0, 928), (267, 59, 0, 936), (270, 60, 0, 932), (273, 34, 0, 920), (283, 62, 0, 917), (60, 117, 0, 792), (63, 65, 0, 793), (70, 44, 0, 827), (86, 100, 0, 951), (94, 47, 0, 831), (97, 48, 0, 848), (27, 116, 1, 239)]
  | 5 => [(45, 68, 0, 203), (55, 66, 0, 800), (58, 67, 0, 804), (62, 70, 0, 807), (65, 69, 0, 815), (68, 72, 0, 818), (71, 73, 0, 823), (74, 71, 0, 811)]
  | 6 => [(32, 89, 0, 700), (50, 90, 0, 737), (60, 85, 0, 1030), (67, 78, 0, 1035), (71, 79, 0, 1413), (9, 84, 1, 251)]
  | 7 => [(61, 92, 0, 864), (65, 95, 0, 860), (69, 93, 0, 712), (73, 97, 0, 868), (77, 98, 0, 726), (81, 297, 0, 716), (87, 99, 0, 722), (90, 85, 0, 730)]
  | 8 => [(44, 109, 0, 1345), (48, 113, 0, 1354)]
  | 9 => [(55, 75, 0, 696), (58, 30, 0, 704), (11, 74, 1, 245), (20, 29, 1, 418)]
  | 10 => [(27, 121, 0, 1186), (31, 86, 0, 1191), (35, 87, 0, 1192), (38, 101, 0, 1193), (42, 124, 0, 1207), (62, 85, 0, 1299)]
  | 11 => [(101, 42, 0, 788), (105, 41, 0, 952), (109, 1, 0, 956), (110, 108, 0, 960), (120, 118, 0, 972), (124, 119, 0, 973), (127, 77, 0, 1022), (153, 79, 0, 1031), (161, 91, 0, 978), (178, 92, 0, 986), (185, 85, 0, 987), (192, 16, 0, 996), (202, 78, 0, 1026), (205, 14, 0, 1036), (209, 15, 0, 1039), (212, 138, 0, 1047), (216, 96, 0, 1051), (219, 2, 0, 1052), (223, 94, 0, 1061), (227, 102, 0, 1073), (230, 297, 0, 1077), (235, 101, 0, 1082), (239, 3, 0, 1090), (243, 9, 0, 1094), (247, 142, 0, 1118), (253, 6, 0, 1121), (256, 144, 0, 1167), (265, 105, 0, 1174), (268, 88, 0, 1171), (274, 122, 0, 1182), (278, 147, 0, 1194), (281, 123, 0, 1203), (285, 18, 0, 1216), (301, 22, 0, 1245), (307, 23, 0, 1249), (310, 153, 0, 1260), (313, 25, 0, 1264), (324, 28, 0, 1288), (331, 125, 0, 1295), (335, 86, 0, 1300), (338, 87, 0, 1301), (341, 24, 0, 1306), (352, 110, 0, 1321), (356, 111, 0, 1329), (363, 112, 0, 1341), (366, 114, 0, 1350), (370, 115, 0, 1358), (381, 104, 0, 1370), (384, 80, 0, 1374), (388, 5, 0, 1382), (404, 81, 0, 1401), (407, 106, 0, 1405), (410, 82, 0, 1409), (413, 109, 0, 1414), (68, 117, 0, 692), (78, 100, 0, 708), (83, 76, 0, 733), (97, 64, 0, 780), (18, 116, 1, 579), (25, 74, 1, 581), (42, 0, 1, 584), (49, 107, 1, 598), (56, 120, 1, 632), (63, 17, 1, 653), (9, 40, 1, 152)]
  | 12 => [(154, 212, 0, 1512), (169, 171, 0, 1745), (179, 172, 0, 1749), (183, 176, 0, 1752), (189, 177, 0, 1766), (192, 173, 0, 1770), (196, 175, 0, 1774), (217, 174, 0, 1741), (220, 178, 0, 1786), (223, 183, 0, 1809), (227, 181, 0, 1824), (230, 185, 0, 1782), (234, 188, 0, 1790), (237, 189, 0, 1794), (243, 182, 0, 1797), (247, 186, 0, 1737), (251, 193, 0, 1801), (254, 184, 0, 1805), (258, 187, 0, 1820), (261, 194, 0, 1828), (264, 180, 0, 1868), (270, 191, 0, 1816), (274, 192, 0, 1812), (277, 197, 0, 1832), (283, 198, 0, 1836), (286, 179, 0, 1844), (289, 196, 0, 1848), (292, 195, 0, 1852), (295, 199, 0, 1840), (298, 200, 0, 1856), (301, 201, 0, 1860), (304, 202, 0, 1864), (310, 190, 0, 1778), (316, 203, 0, 1872), (333, 207, 0, 1980), (347, 208, 0, 1976), (350, 211, 0, 1516), (359, 220, 0, 1907), (363, 221, 0, 1912), (366, 218, 0, 1899), (369, 222, 0, 1944), (373, 216, 0, 1932), (377, 224, 0, 2004), (382, 226, 0, 1903), (386, 227, 0, 1895), (389, 219, 0, 1916), (392, 217, 0, 1961), (395, 228, 0, 1891), (398, 229, 0, 1968), (401, 210, 0, 1952), (404, 209, 0, 1972), (414, 225, 0, 2000), (417, 223, 0, 1940), (420, 235, 0, 2028), (423, 236, 0, 2031), (426, 237, 0, 2034), (429, 231, 0, 1964), (433, 230, 0, 2042), (436, 233, 0, 2045), (444, 232, 0, 1957), (451, 242, 0, 2074), (455, 234, 0, 1996), (459, 238, 0, 2024), (462, 239, 0, 2038), (466, 240, 0, 2062), (469, 241, 0, 2066), (471, 243, 0, 2070), (475, 244, 0, 2058), (478, 215, 0, 1887), (481, 214, 0, 1924), (488, 213, 0, 1992), (491, 254, 0, 2008), (494, 245, 0, 2084), (497, 247, 0, 2088), (500, 262, 0, 2104), (503, 261, 0, 2100), (507, 263, 0, 2096), (511, 248, 0, 2120), (515, 269, 0, 2133), (518, 270, 0, 2136), (521, 272, 0, 2144), (524, 274, 0, 2164), (527, 275, 0, 2168), (530, 276, 0, 2160), (533, 278, 0, 2152), (536, 277, 0, 2156), (543, 281, 0, 2182), (546, 287, 0, 2205), (549, 288, 0, 2214), (554, 289, 0, 2210), (557, 246, 0, 2226)]
  | _ => []
def sr_ftl : Nat → List Nat
  | 0 => [0, 3]
  | 1 => [0, 0, 0, 0, 3, 3, 3, 3, 3, 3]
  | 2 => [0, 0, 3, 3, 3, 3, 3, 3]
  | 3 => [0, 0, 3, 3, 0, 0, 3, 0, 0, 0, 1, 1]
  | 4 => [3, 0, 3, 0, 0, 0, 0, 0]
  | 5 => [3, 0, 3, 3, 3, 3, 3, 0, 0, 2]
  | 6 => [0, 0, 0, 0, 0, 3, 3, 3, 3, 3, 3, 3, 3, 3]
  | 7 => [0, 0, 3, 3, 3, 3, 3, 3]
  | 8 => [3, 3, 3, 3, 0, 0, 1, 1, 1, 0, 3, 3, 3, 3, 0, 3, 3, 3]
  | 9 => [3, 3, 3, 3]
  | 10 => [3, 3, 3, 3, 3, 1, 3, 3, 3, 3]
  | 11 => [0, 3, 0, 3, 3, 3, 3, 3, 3, 3, 3, 3, 3, 3, 3, 3, 3, 3, 3, 3, 3, 3, 3, 3, 3, 3, 0, 0, 0, 0, 0, 0, 0, 0, 0, 0, 0, 0, 0, 3, 3, 0, 3, 3, 3, 3, 3, 3, 3, 3, 3, 3, 3, 1, 0, 0, 0, 0, 0, 3, 0, 0, 3, 3, 3, 3, 3, 3]
  | _ => []
def sr_ft (ci k : Nat) : Nat := (sr_ftl ci).getD k 9
def sr_fnl : Nat → List Bool
  | 0 => [false, true]
  | 1 => [false, false, false, false, true, true, true, true, true, true]
  | 2 => [false, false, true, true, true, true, true, true]
  | 3 => [false, false, true, false, false, false, true, false, false, false, false, false]
  | 4 => [true, false, true, false, false, false, false, false]
  | 5 => [true, false, true, true, true, true, true, false, false, false]
  | 6 => [false, false, false, false, false, true, true, true, true, true, true, true, true, true]
  | 7 => [false, false, true, true, true, true, true, true]
  | 8 => [true, true, true, true, false, false, false, false, false, false, true, true, true, true, false, true, true, true]
  | 9 => [true, true, true, true]
  | 10 => [true, false, true, true, true, false, true, true, true, true]
  | 11 => [false, true, false, true, true, true, true, true, true, true, true, true, true, true, true, true, true, true, true, true, true, true, true, true, true, true, false, false, false, false, false, false, false, false, false, false, false, false, false, true, true, false, true, true, true, true, true, true, true, true, true, true, true, false, false, false, false, false, false, true, false, false, true, true, true, true, true, true]
  | _ => []
def sr_fn (ci k : Nat) : Bool := (sr_fnl ci).getD k true
def sr_y_0 : List (MethodName) := [yX0_init, yX0_clear, yX0_addScreen, yX0_addFolk, yX0_add, yX0_takeBack, yX1_pass, yX1_carryAll, yX1_stepAll, yX1_enter, yX1_payAll, yX1_mothsCome, yX1_mothDrawn, yX1_within, yX1_ageingLaw, yX1_payLaw, yX1_cutLaw, yX2_init, yX2_findStand, yX2_weighStand]
def sr_y_1 : List (MethodName) := [yX2_findRivals, yX2_workingBeside, yX2_listWorkers, yX2_worthOf, yX2_fewestScreens, yX2_restBits, yX2_staysInRoom, yX2_isRest, yX2_sharedDivisor, yX3_init, yX3_clear, yX3_isTold, yX3_begin, yX3_finish, yX3_put, yX3_name, yX3_workOut, yX3_join, yX3_bounded, yX3_product]
def sr_y_2 : List (MethodName) := [yX4_init, yX4_exchange, yX4_parse, yX4_refuseHere, yX4_takeLine, yX4_takeEnd, yX4_takeNumber, yX4_takeRoom, yX4_takeScreen, yX4_takeFolk, yX4_takeCarry, yX4_takeStep, yX4_takeMoth, yX4_takeSeed, yX4_takeLaw, yX4_takeLawBody, yX4_takeOperand, yX4_takeOpen, yX4_takeBehindOperand, yX4_countKnot]
def sr_y_3 : List (MethodName) := [yX4_await, yX4_release, yX4_rankOf, yX5_init, yX5_putBytes, yX5_start, yX5_next, yX5_isLetter, yX5_letterNumber, yX5_isDigit, yX5_takeWord, yX5_wordKind, yX5_takeDigits, yX5_takeSign, yX6_init, yX6_empty, yX6_copyFrom, yX6_isFolk, yX6_cellUnder, yX6_seasonOver]
def sr_y_4 : List (MethodName) := [yX6_doneByAll, yX6_ageOfAll, yX6_atWork, yX6_drawNumber, yX7_init, yX7_cellOf, yX7_rowOf, yX7_columnOf, yX7_isAnySeason, yX7_empty, yX7_copyFrom, yX7_isScreen, yX7_isCell, yX7_isThere, yX7_place, yX7_isInRoom, yX7_fits, yX7_covers, yX7_farFrom, yX7_nearestOf]
def sr_y_5 : List (MethodName) := [yX7_refresh, yX7_beyond, yX7_firstCut, yX7_cutFirstWhole, yX7_makeAllWhole, yX7_cellsOf, yX7_freeCells, yX8_init, yX8_clear, yX8_byHowMany, yX8_addSight, yX8_addStrike, yX8_strikeAll, yX8_isKnown, yX8_lastHourKnown, yX8_agree, yX9_init, yX9_clear, yX9_screenNamed, yX9_folkNamed]
def sr_y_6 : List (MethodName) := [yX10_init, yX10_begin, yX10_walk, yX10_walkYoung, yX10_nearestOpen, yX10_meetingCell, yX11_init, yX11_feed, yX11_text, yX11_fault, yX11_named, yX11_folk, yX11_screen, yX11_season, yX11_leaf, yX11_law, yX11_carry, yX11_turn, yX11_placed, yX11_mend]
def sr_y_7 : List (MethodName) := [yX11_step, yX11_go, yX11_isSpan, yX11_ahead, yX11_isAskedAhead, yX11_steps, yX11_young, yX11_wayTo, yX11_stand, yX11_ofSeason, yX11_worth, yX11_rests, yX11_rest, yX11_areTwoScreens, yX11_holds, yX11_meet, yX11_needed, yX11_nextTo, yX11_see, yX11_out]
def sr_y_8 : List (MethodName) := [yX11_known, yX11_painted, yX11_chance, yX11_tried, yX11_undo, yX11_keep, yX11_back, yX11_count, yX12_init, yX12_thrown, yX12_feed, yX12_here, yX12_isSmall, yX12_isDigit, yX12_token, yX12_sign, yX12_word, yX12_name, yX12_wrong, yX12_isWord]
def sr_y_9 : List (MethodName) := [yX12_isSign, yX12_goOn, yX12_numeral, yX12_found, yX12_fresh, yX12_fresher, yX12_reads, yX12_toldAhead, yX12_isFull, yX12_isOnce, yX12_line, yX12_isOn, yX12_isFitting, yX12_screenLine, yX12_lawLine, yX12_puts, yX12_knot, yX12_expression, yX12_conjunction, yX12_negation]
def sr_y_10 : List (MethodName) := [yX12_sum, yX12_product, yX12_primary, yX12_half, yX12_text, yX12_fault, yX12_named, yX12_is, yX12_works, yX12_goes, yX12_hasLaw, yX12_starts, yX12_begins, yX12_copies, yX12_isScreen, yX12_isFolk, yX12_isCell, yX12_bitsOf, yX12_isHere, yX12_colourOf]
def sr_y_11 : List (MethodName) := [yX12_leafRow, yX12_leafColumn, yX12_hasLeaf, yX12_leafAt, yX12_isInRoom, yX12_fitsIn, yX12_farOf, yX12_giverOf, yX12_seasonAt, yX12_wholeMany, yX12_turnsOf, yX12_callsFolk, yX12_callsScreen, yX12_within, yX12_carries, yX12_rowBy, yX12_columnBy, yX12_isOpen, yX12_canStep, yX12_goesBy]
def sr_y_12 : List (MethodName) := [yX12_hasWork, yX12_works_, yX12_isCutNow, yX12_cuts, yX12_passes, yX12_goesOn, yX12_doneAll, yX12_cellsOf, yX12_workers, yX12_folk, yX12_screen, yX12_season, yX12_leaf, yX12_law, yX12_keepNow, yX12_carry, yX12_turn, yX12_mend, yX12_step, yX12_go]
def sr_y_13 : List (MethodName) := [yX12_ahead, yX12_layWays, yX12_isNearer, yX12_wayFor, yX12_steps, yX12_young, yX12_meet, yX12_stand, yX12_ofSeason, yX12_rowsOf, yX12_workersBy, yX12_worth, yX12_doAllWork, yX12_needed, yX12_canTurn, yX12_hasOf, yX12_isRest, yX12_restOf, yX12_areTwo, yX12_rests]
def sr_y_14 : List (MethodName) := [yX12_rest, yX12_common, yX12_holds, yX12_nextTo, yX12_see, yX12_out, yX12_known, yX12_knownMany, yX12_isSo, yX12_fitsPaint, yX12_painted, yX12_chance, yX12_tried, yX12_undo, yX12_keep, yX12_back, yX12_count, yJ6_bitCount_0f7a4]
def sr_y_c : Nat → List (MethodName)
  | 0 => sr_y_0
  | 1 => sr_y_1
  | 2 => sr_y_2
  | 3 => sr_y_3
  | 4 => sr_y_4
  | 5 => sr_y_5
  | 6 => sr_y_6
  | 7 => sr_y_7
  | 8 => sr_y_8
  | 9 => sr_y_9
  | 10 => sr_y_10
  | 11 => sr_y_11
  | 12 => sr_y_12
  | 13 => sr_y_13
  | 14 => sr_y_14
  | _ => []
def sr_y (m : Nat) : MethodName := (sr_y_c (m / 20)).getD (m % 20) ⟨"", "", ""⟩
def sr_rt_0 : List (Option FieldType) := [none, none, none, none, none, none, none, none, none, none, none, none, some .boolean, some .long, some .long, some .long, some .long, none, none, none]
def sr_rt_1 : List (Option FieldType) := [none, some .int, none, some .int, some .int, some .int, some .boolean, some .boolean, some .long, none, none, some .boolean, none, none, none, none, some .long, some .long, some .long, some .long]
def sr_rt_2 : List (Option FieldType) := [none, some (.object "ScreenRoom$Text"), some .boolean, some .boolean, some .boolean, some .boolean, some .boolean, some .boolean, some .boolean, some .boolean, some .boolean, some .boolean, some .boolean, some .boolean, some .boolean, some .boolean, some .boolean, some .boolean, some .boolean, some .boolean]
def sr_rt_3 : List (Option FieldType) := [none, none, some .int, none, none, none, none, some .boolean, some .int, some .boolean, none, some .int, none, none, none, none, none, some .boolean, some .int, some .int]
def sr_rt_4 : List (Option FieldType) := [some .int, some .int, some .int, some .int, none, some .int, some .int, some .int, some .boolean, none, none, some .boolean, some .boolean, some .boolean, none, some .boolean, some .boolean, some .boolean, some .int, some .int]
def sr_rt_5 : List (Option FieldType) := [none, some .int, some .int, none, none, some .int, some .int, none, none, some .int, some .int, some .int, none, some .boolean, some .int, some .boolean, none, none, some .int, some .int]
def sr_rt_6 : List (Option FieldType) := [none, none, none, none, some .int, some .int, none, some .int, some .int, some .int, some .int, some .int, some .int, some .int, some .int, some .long, some .boolean, some .boolean, some .boolean, some .int]
def sr_rt_7 : List (Option FieldType) := [some .int, some .int, some .boolean, some .int, some .boolean, some .int, some .int, some .int, some .int, some .int, some .int, some .int, some .int, some .boolean, some .long, some .int, some .int, some .int, some .int, some .int]
def sr_rt_8 : List (Option FieldType) := [some .boolean, some .int, some .int, some .int, some .int, some .int, some .int, some .int, none, some .int, some .int, some .int, some .boolean, some .boolean, none, none, some .int, none, none, some .boolean]
def sr_rt_9 : List (Option FieldType) := [some .boolean, none, some .int, some .int, some .int, some .int, none, some .int, some .boolean, some .boolean, none, some .boolean, some .boolean, none, none, none, none, none, none, none]
def sr_rt_10 : List (Option FieldType) := [none, none, none, none, some .int, some .int, some .int, some .long, some .boolean, some .boolean, some .boolean, none, none, none, some .boolean, some .boolean, some .boolean, some .int, some .boolean, some .int]
def sr_rt_11 : List (Option FieldType) := [some .int, some .int, some .boolean, some .int, some .boolean, some .boolean, some .int, some .int, some .int, some .int, some .int, none, none, some .int, some .boolean, some .int, some .int, some .boolean, some .boolean, none]
def sr_rt_12 : List (Option FieldType) := [some .boolean, none, some .boolean, none, none, none, some .int, some .int, some .int, some .int, some .int, some .int, some .int, some .long, none, some .boolean, some .boolean, some .int, some .int, some .int]
def sr_rt_13 : List (Option FieldType) := [some .int, none, some .boolean, some .int, some .int, some .int, some .int, some .int, some .int, some .int, some .int, some .int, some .boolean, some .int, some .boolean, some .int, some .boolean, some .int, some .boolean, some .int]
def sr_rt_14 : List (Option FieldType) := [some .int, some .long, some .long, some .int, some .int, some .int, some .boolean, some .int, some .boolean, some .boolean, some .int, some .int, some .int, some .int, some .int, some .int, some .int, some .int]
def sr_rt_c : Nat → List (Option FieldType)
  | 0 => sr_rt_0
  | 1 => sr_rt_1
  | 2 => sr_rt_2
  | 3 => sr_rt_3
  | 4 => sr_rt_4
  | 5 => sr_rt_5
  | 6 => sr_rt_6
  | 7 => sr_rt_7
  | 8 => sr_rt_8
  | 9 => sr_rt_9
  | 10 => sr_rt_10
  | 11 => sr_rt_11
  | 12 => sr_rt_12
  | 13 => sr_rt_13
  | 14 => sr_rt_14
  | _ => []
def sr_rt (m : Nat) : Option FieldType := (sr_rt_c (m / 20)).getD (m % 20) none
def sr_np_0 : List (Nat) := [0, 0, 2, 2, 5, 1, 4, 2, 2, 4, 2, 3, 2, 2, 5, 3, 3, 0, 2, 3]
def sr_np_1 : List (Nat) := [2, 2, 1, 2, 1, 3, 2, 1, 2, 0, 0, 1, 1, 1, 2, 7, 1, 3, 1, 2]
def sr_np_2 : List (Nat) := [0, 1, 1, 1, 0, 0, 2, 0, 0, 0, 0, 0, 0, 0, 0, 0, 0, 0, 0, 0]
def sr_np_3 : List (Nat) := [1, 1, 1, 0, 1, 1, 0, 1, 1, 1, 0, 1, 0, 0, 0, 0, 1, 1, 1, 1]
def sr_np_4 : List (Nat) := [0, 0, 0, 0, 0, 2, 1, 1, 1, 2, 1, 1, 2, 1, 4, 4, 4, 3, 3, 3]
def sr_np_5 : List (Nat) := [0, 3, 1, 1, 0, 1, 0, 0, 0, 0, 4, 1, 0, 1, 0, 2, 0, 0, 1, 1]
def sr_np_6 : List (Nat) := [0, 2, 3, 3, 1, 1, 0, 5, 1, 1, 2, 2, 2, 2, 2, 2, 3, 1, 4, 1]
def sr_np_7 : List (Nat) := [2, 1, 1, 3, 2, 3, 3, 2, 2, 1, 1, 2, 3, 2, 3, 3, 0, 1, 5, 1]
def sr_np_8 : List (Nat) := [1, 1, 3, 3, 0, 0, 0, 1, 0, 0, 5, 0, 1, 1, 0, 1, 0, 0, 1, 1]
def sr_np_9 : List (Nat) := [1, 0, 2, 4, 3, 1, 2, 3, 1, 1, 0, 3, 1, 1, 0, 2, 0, 0, 0, 0]
def sr_np_10 : List (Nat) := [0, 0, 0, 1, 1, 1, 2, 1, 1, 1, 1, 1, 0, 2, 1, 1, 2, 1, 1, 1]
def sr_np_11 : List (Nat) := [3, 3, 5, 3, 2, 2, 4, 3, 3, 1, 2, 5, 2, 3, 4, 1, 1, 3, 3, 3]
def sr_np_12 : List (Nat) := [2, 2, 3, 2, 2, 1, 1, 2, 1, 2, 2, 2, 2, 2, 0, 3, 1, 1, 2, 1]
def sr_np_13 : List (Nat) := [3, 4, 5, 4, 3, 3, 3, 2, 1, 1, 1, 1, 1, 0, 1, 4, 3, 3, 2, 2]
def sr_np_14 : List (Nat) := [3, 2, 3, 1, 5, 1, 1, 0, 1, 1, 1, 3, 3, 0, 0, 0, 1, 1]
def sr_np_c : Nat → List (Nat)
  | 0 => sr_np_0
  | 1 => sr_np_1
  | 2 => sr_np_2
  | 3 => sr_np_3
  | 4 => sr_np_4
  | 5 => sr_np_5
  | 6 => sr_np_6
  | 7 => sr_np_7
  | 8 => sr_np_8
  | 9 => sr_np_9
  | 10 => sr_np_10
  | 11 => sr_np_11
  | 12 => sr_np_12
  | 13 => sr_np_13
  | 14 => sr_np_14
  | _ => []
def sr_np (m : Nat) : Nat := (sr_np_c (m / 20)).getD (m % 20) 0
def sr_mc_0 : List (Nat) := [0, 0, 0, 0, 0, 0, 99, 99, 99, 99, 99, 99, 99, 99, 99, 99, 99, 1, 1, 1]
def sr_mc_1 : List (Nat) := [1, 1, 1, 1, 1, 1, 1, 1, 1, 2, 2, 2, 2, 2, 2, 2, 2, 2, 2, 2]
def sr_mc_2 : List (Nat) := [3, 3, 3, 3, 3, 3, 3, 3, 3, 3, 3, 3, 3, 3, 3, 3, 3, 3, 3, 3]
def sr_mc_3 : List (Nat) := [3, 3, 3, 4, 4, 4, 4, 4, 4, 4, 4, 4, 4, 4, 5, 5, 5, 5, 5, 5]
def sr_mc_4 : List (Nat) := [5, 5, 5, 5, 6, 6, 6, 6, 6, 6, 6, 6, 6, 6, 6, 6, 6, 6, 6, 6]
def sr_mc_5 : List (Nat) := [6, 6, 6, 6, 6, 6, 6, 7, 7, 7, 7, 7, 7, 7, 7, 7, 8, 8, 8, 8]
def sr_mc_6 : List (Nat) := [9, 9, 9, 9, 9, 9, 10, 10, 10, 10, 10, 10, 10, 10, 10, 10, 10, 10, 10, 10]
def sr_mc_7 : List (Nat) := [10, 10, 10, 10, 10, 10, 10, 10, 10, 10, 10, 10, 10, 10, 10, 10, 10, 10, 10, 10]
def sr_mc_8 : List (Nat) := [10, 10, 10, 10, 10, 10, 10, 10, 11, 11, 11, 11, 11, 11, 11, 11, 11, 11, 11, 11]
def sr_mc_9 : List (Nat) := [11, 11, 11, 11, 11, 11, 11, 11, 11, 11, 11, 11, 11, 11, 11, 11, 11, 11, 11, 11]
def sr_mc_10 : List (Nat) := [11, 11, 11, 11, 11, 11, 11, 11, 11, 11, 11, 11, 11, 11, 11, 11, 11, 11, 11, 11]
def sr_mc_11 : List (Nat) := [11, 11, 11, 11, 11, 11, 11, 11, 11, 11, 11, 11, 11, 11, 11, 11, 11, 11, 11, 11]
def sr_mc_12 : List (Nat) := [11, 11, 11, 11, 11, 11, 11, 11, 11, 11, 11, 11, 11, 11, 11, 11, 11, 11, 11, 11]
def sr_mc_13 : List (Nat) := [11, 11, 11, 11, 11, 11, 11, 11, 11, 11, 11, 11, 11, 11, 11, 11, 11, 11, 11, 11]
def sr_mc_14 : List (Nat) := [11, 11, 11, 11, 11, 11, 11, 11, 11, 11, 11, 11, 11, 11, 11, 11, 11, 99]
def sr_mc_c : Nat → List (Nat)
  | 0 => sr_mc_0
  | 1 => sr_mc_1
  | 2 => sr_mc_2
  | 3 => sr_mc_3
  | 4 => sr_mc_4
  | 5 => sr_mc_5
  | 6 => sr_mc_6
  | 7 => sr_mc_7
  | 8 => sr_mc_8
  | 9 => sr_mc_9
  | 10 => sr_mc_10
  | 11 => sr_mc_11
  | 12 => sr_mc_12
  | 13 => sr_mc_13
  | 14 => sr_mc_14
  | _ => []
def sr_mc (m : Nat) : Nat := (sr_mc_c (m / 20)).getD (m % 20) 99
def sr_mq_0 : List (Nat) := [2, 0, 0, 0, 0, 0, 1, 1, 1, 1, 1, 1, 1, 1, 1, 1, 1, 2, 0, 0]
def sr_mq_1 : List (Nat) := [0, 0, 0, 0, 0, 0, 1, 0, 1, 2, 0, 0, 0, 0, 0, 0, 0, 1, 1, 1]
def sr_mq_2 : List (Nat) := [2, 0, 0, 0, 0, 0, 0, 0, 0, 0, 0, 0, 0, 0, 0, 0, 0, 0, 0, 0]
def sr_mq_3 : List (Nat) := [0, 0, 1, 2, 0, 0, 0, 1, 1, 1, 0, 0, 0, 0, 2, 0, 0, 0, 0, 0]
def sr_mq_4 : List (Nat) := [0, 0, 0, 0, 2, 1, 1, 1, 1, 0, 0, 0, 0, 0, 0, 0, 0, 0, 0, 0]
def sr_mq_5 : List (Nat) := [0, 0, 0, 0, 0, 0, 0, 2, 0, 0, 0, 0, 0, 0, 0, 0, 2, 0, 0, 0]
def sr_mq_6 : List (Nat) := [2, 0, 0, 0, 0, 0, 2, 0, 0, 0, 0, 0, 0, 0, 0, 0, 0, 0, 0, 0]
def sr_mq_7 : List (Nat) := [0, 0, 1, 0, 0, 0, 0, 0, 0, 0, 0, 0, 0, 0, 0, 0, 0, 0, 0, 0]
def sr_mq_8 : List (Nat) := [0, 0, 0, 0, 0, 0, 0, 0, 2, 0, 0, 0, 1, 1, 0, 0, 0, 0, 0, 0]
def sr_mq_9 : List (Nat) := [0, 0, 0, 1, 0, 0, 0, 0, 0, 1, 0, 0, 0, 0, 0, 0, 0, 0, 0, 0]
def sr_mq_10 : List (Nat) := [0, 0, 0, 1, 0, 0, 0, 1, 0, 0, 0, 0, 0, 0, 0, 0, 0, 1, 0, 0]
def sr_mq_11 : List (Nat) := [0, 0, 0, 0, 0, 0, 0, 0, 0, 0, 1, 0, 0, 0, 0, 1, 1, 0, 0, 0]
def sr_mq_12 : List (Nat) := [0, 0, 0, 0, 0, 0, 0, 0, 0, 0, 0, 0, 0, 0, 0, 0, 0, 0, 0, 0]
def sr_mq_13 : List (Nat) := [0, 0, 0, 0, 0, 0, 0, 0, 0, 1, 0, 0, 0, 0, 0, 0, 0, 0, 0, 0]
def sr_mq_14 : List (Nat) := [0, 1, 0, 0, 0, 0, 0, 0, 0, 0, 0, 0, 0, 0, 0, 0, 0, 1]
def sr_mq_c : Nat → List (Nat)
  | 0 => sr_mq_0
  | 1 => sr_mq_1
  | 2 => sr_mq_2
  | 3 => sr_mq_3
  | 4 => sr_mq_4
  | 5 => sr_mq_5
  | 6 => sr_mq_6
  | 7 => sr_mq_7
  | 8 => sr_mq_8
  | 9 => sr_mq_9
  | 10 => sr_mq_10
  | 11 => sr_mq_11
  | 12 => sr_mq_12
  | 13 => sr_mq_13
  | 14 => sr_mq_14
  | _ => []
def sr_mq (m : Nat) : Nat := (sr_mq_c (m / 20)).getD (m % 20) 9
def sr_mo_0 : List (Nat) := [0, 0, 0, 0, 0, 0, 1, 1, 1, 1, 1, 1, 1, 1, 1, 1, 1, 2, 2, 2]
def sr_mo_1 : List (Nat) := [2, 2, 2, 2, 2, 2, 2, 2, 2, 3, 3, 3, 3, 3, 3, 3, 3, 3, 3, 3]
def sr_mo_2 : List (Nat) := [4, 4, 4, 4, 4, 4, 4, 4, 4, 4, 4, 4, 4, 4, 4, 4, 4, 4, 4, 4]
def sr_mo_3 : List (Nat) := [4, 4, 4, 5, 5, 5, 5, 5, 5, 5, 5, 5, 5, 5, 6, 6, 6, 6, 6, 6]
def sr_mo_4 : List (Nat) := [6, 6, 6, 6, 7, 7, 7, 7, 7, 7, 7, 7, 7, 7, 7, 7, 7, 7, 7, 7]
def sr_mo_5 : List (Nat) := [7, 7, 7, 7, 7, 7, 7, 8, 8, 8, 8, 8, 8, 8, 8, 8, 9, 9, 9, 9]
def sr_mo_6 : List (Nat) := [10, 10, 10, 10, 10, 10, 11, 11, 11, 11, 11, 11, 11, 11, 11, 11, 11, 11, 11, 11]
def sr_mo_7 : List (Nat) := [11, 11, 11, 11, 11, 11, 11, 11, 11, 11, 11, 11, 11, 11, 11, 11, 11, 11, 11, 11]
def sr_mo_8 : List (Nat) := [11, 11, 11, 11, 11, 11, 11, 11, 12, 12, 12, 12, 12, 12, 12, 12, 12, 12, 12, 12]
def sr_mo_9 : List (Nat) := [12, 12, 12, 12, 12, 12, 12, 12, 12, 12, 12, 12, 12, 12, 12, 12, 12, 12, 12, 12]
def sr_mo_10 : List (Nat) := [12, 12, 12, 12, 12, 12, 12, 12, 12, 12, 12, 12, 12, 12, 12, 12, 12, 12, 12, 12]
def sr_mo_11 : List (Nat) := [12, 12, 12, 12, 12, 12, 12, 12, 12, 12, 12, 12, 12, 12, 12, 12, 12, 12, 12, 12]
def sr_mo_12 : List (Nat) := [12, 12, 12, 12, 12, 12, 12, 12, 12, 12, 12, 12, 12, 12, 12, 12, 12, 12, 12, 12]
def sr_mo_13 : List (Nat) := [12, 12, 12, 12, 12, 12, 12, 12, 12, 12, 12, 12, 12, 12, 12, 12, 12, 12, 12, 12]
def sr_mo_14 : List (Nat) := [12, 12, 12, 12, 12, 12, 12, 12, 12, 12, 12, 12, 12, 12, 12, 12, 12, 13]
def sr_mo_c : Nat → List (Nat)
  | 0 => sr_mo_0
  | 1 => sr_mo_1
  | 2 => sr_mo_2
  | 3 => sr_mo_3
  | 4 => sr_mo_4
  | 5 => sr_mo_5
  | 6 => sr_mo_6
  | 7 => sr_mo_7
  | 8 => sr_mo_8
  | 9 => sr_mo_9
  | 10 => sr_mo_10
  | 11 => sr_mo_11
  | 12 => sr_mo_12
  | 13 => sr_mo_13
  | 14 => sr_mo_14
  | _ => []
def sr_mo (m : Nat) : Nat := (sr_mo_c (m / 20)).getD (m % 20) 99
def sr_mj_0 : List (Nat × Nat × Nat) := [(586, 585, 0), (959, 957, 958), (1055, 1053, 1054), (1093, 1091, 1092), (1059, 1058, 25), (1385, 1383, 1384), (1123, 1122, 0), (1126, 1125, 0), (1133, 1132, 0), (1096, 1095, 0), (1138, 1137, 0), (1144, 1143, 0), (1149, 1148, 0), (1103, 1102, 0), (1038, 1037, 0), (1041, 1040, 0), (998, 997, 0), (655, 654, 0), (1219, 1217, 1218), (1235, 1234, 32)]
def sr_mj_1 : List (Nat × Nat × Nat) := [(1223, 1222, 30), (1231, 1230, 31), (1248, 1246, 1247), (1252, 1250, 1251), (1309, 1307, 1308), (1267, 1265, 1266), (1270, 1269, 0), (1277, 1276, 34), (1290, 1289, 0), (420, 419, 0), (707, 705, 706), (904, 902, 903), (908, 906, 907), (950, 948, 949), (923, 921, 922), (1003, 1001, 1002), (1007, 1005, 1006), (1012, 1011, 0), (1015, 1014, 0), (1020, 1019, 0)]
def sr_mj_2 : List (Nat × Nat × Nat) := [(154, 153, 0), (955, 953, 954), (791, 789, 790), (838, 837, 6), (830, 829, 4), (847, 846, 8), (843, 842, 7), (834, 833, 5), (851, 850, 9), (875, 874, 11), (883, 882, 12), (887, 886, 13), (891, 890, 14), (895, 894, 15), (900, 899, 16), (912, 911, 17), (927, 926, 19), (931, 930, 20), (943, 942, 23), (939, 938, 22)]
def sr_mj_3 : List (Nat × Nat × Nat) := [(935, 934, 21), (916, 915, 18), (919, 918, 0), (160, 159, 0), (783, 781, 782), (796, 794, 795), (803, 801, 802), (806, 805, 0), (205, 204, 0), (817, 816, 0), (810, 809, 0), (814, 813, 1), (821, 820, 2), (826, 825, 3), (247, 246, 0), (699, 697, 698), (736, 734, 735), (1025, 1023, 1024), (1029, 1027, 1028), (1034, 1032, 1033)]
def sr_mj_4 : List (Nat × Nat × Nat) := [(1377, 1375, 1376), (1404, 1402, 1403), (1412, 1410, 1411), (1153, 1151, 1152), (253, 252, 0), (732, 731, 0), (1110, 1109, 0), (1113, 1112, 0), (1173, 1172, 0), (703, 701, 702), (740, 738, 739), (981, 979, 980), (867, 865, 866), (715, 713, 714), (1064, 1062, 1063), (863, 861, 862), (859, 857, 858), (871, 870, 10), (729, 727, 728), (725, 723, 724)]
def sr_mj_5 : List (Nat × Nat × Nat) := [(711, 709, 710), (1085, 1083, 1084), (1076, 1074, 1075), (1162, 1160, 1161), (1373, 1371, 1372), (1177, 1175, 1176), (1408, 1406, 1407), (600, 599, 0), (963, 961, 962), (1348, 1346, 1347), (1324, 1322, 1323), (1332, 1330, 1331), (1344, 1342, 1343), (1357, 1356, 35), (1353, 1351, 1352), (1361, 1359, 1360), (241, 240, 0), (695, 693, 694), (855, 853, 854), (879, 877, 878)]
def sr_mj_6 : List (Nat × Nat × Nat) := [(634, 633, 0), (1189, 1188, 27), (1185, 1183, 1184), (1206, 1204, 1205), (1210, 1209, 29), (1298, 1296, 1297), (146, 145, 0), (779, 777, 778), (787, 785, 786), (967, 965, 966), (971, 969, 970), (1423, 1421, 1422), (977, 975, 976), (985, 983, 984), (991, 989, 990), (995, 993, 994), (1046, 1044, 1045), (1068, 1066, 1067), (1050, 1049, 24), (1072, 1070, 1071)]
def sr_mj_7 : List (Nat × Nat × Nat) := [(1081, 1079, 1080), (1117, 1115, 1116), (1120, 1119, 0), (1166, 1164, 1165), (1170, 1169, 26), (1181, 1179, 1180), (1202, 1200, 1201), (1197, 1196, 28), (1215, 1213, 1214), (1239, 1237, 1238), (1243, 1241, 1242), (1259, 1257, 1258), (1281, 1279, 1280), (1263, 1262, 33), (1285, 1283, 1284), (1294, 1292, 1293), (1305, 1303, 1304), (1313, 1311, 1312), (1320, 1318, 1319), (1328, 1326, 1327)]
def sr_mj_8 : List (Nat × Nat × Nat) := [(1336, 1334, 1335), (1340, 1338, 1339), (1365, 1363, 1364), (1369, 1367, 1368), (1381, 1379, 1380), (1392, 1390, 1391), (1396, 1394, 1395), (1400, 1398, 1399), (1510, 1509, 0), (1728, 1726, 1727), (1732, 1730, 1731), (1748, 1747, 41), (1751, 1750, 0), (1772, 1771, 0), (1744, 1743, 40), (1777, 1776, 44), (1755, 1754, 42), (1769, 1768, 43), (1789, 1788, 47), (1847, 1846, 60)]
def sr_mj_9 : List (Nat × Nat × Nat) := [(1871, 1870, 66), (1827, 1826, 55), (1800, 1799, 49), (1811, 1810, 0), (1808, 1807, 51), (1785, 1784, 46), (1740, 1739, 39), (1823, 1822, 54), (1793, 1792, 48), (1796, 1795, 0), (1781, 1780, 45), (1819, 1818, 53), (1815, 1814, 52), (1804, 1803, 50), (1831, 1830, 56), (1855, 1854, 62), (1851, 1850, 61), (1835, 1834, 57), (1839, 1838, 58), (1843, 1842, 59)]
def sr_mj_10 : List (Nat × Nat × Nat) := [(1859, 1858, 63), (1863, 1862, 64), (1867, 1866, 65), (1874, 1873, 0), (1736, 1734, 1735), (1878, 1876, 1877), (1882, 1880, 1881), (1982, 1981, 0), (1979, 1978, 84), (1975, 1974, 83), (1955, 1954, 79), (1519, 1518, 38), (1515, 1514, 37), (1995, 1994, 85), (1927, 1926, 75), (1890, 1889, 67), (1935, 1934, 76), (1963, 1962, 0), (1902, 1901, 70), (1919, 1918, 74)]
def sr_mj_11 : List (Nat × Nat × Nat) := [(1910, 1909, 72), (1915, 1914, 73), (1947, 1946, 78), (1943, 1942, 77), (2007, 2006, 88), (2003, 2002, 87), (1906, 1905, 71), (1898, 1897, 69), (1894, 1893, 68), (1971, 1970, 82), (2044, 2043, 0), (1967, 1966, 81), (1960, 1959, 80), (2048, 2047, 93), (1999, 1998, 86), (2030, 2029, 0), (2033, 2032, 0), (2037, 2036, 91), (2027, 2026, 90), (2041, 2040, 92)]
def sr_mj_12 : List (Nat × Nat × Nat) := [(2065, 2064, 95), (2069, 2068, 96), (2077, 2076, 98), (2073, 2072, 97), (2061, 2060, 94), (2087, 2086, 99), (2229, 2228, 115), (2091, 2090, 100), (2123, 2122, 104), (1886, 1884, 1885), (1923, 1921, 1922), (1931, 1929, 1930), (1939, 1937, 1938), (1951, 1949, 1950), (2011, 2010, 89), (1991, 1989, 1990), (2015, 2013, 2014), (2019, 2017, 2018), (2023, 2021, 2022), (2057, 2055, 2056)]
def sr_mj_13 : List (Nat × Nat × Nat) := [(2083, 2081, 2082), (2103, 2102, 102), (2107, 2106, 103), (2099, 2098, 101), (2095, 2093, 2094), (2111, 2109, 2110), (2115, 2113, 2114), (2119, 2117, 2118), (2127, 2125, 2126), (2135, 2134, 0), (2139, 2138, 105), (2131, 2129, 2130), (2147, 2146, 106), (2143, 2141, 2142), (2167, 2166, 110), (2171, 2170, 111), (2163, 2162, 109), (2159, 2158, 108), (2155, 2154, 107), (2151, 2149, 2150)]
def sr_mj_14 : List (Nat × Nat × Nat) := [(2175, 2173, 2174), (2184, 2183, 0), (2179, 2177, 2178), (2188, 2186, 2187), (2192, 2190, 2191), (2196, 2194, 2195), (2200, 2198, 2199), (2208, 2207, 112), (2217, 2216, 114), (2213, 2212, 113), (2204, 2202, 2203), (2221, 2219, 2220), (2225, 2223, 2224), (2233, 2231, 2232), (2237, 2235, 2236), (2241, 2239, 2240), (2245, 2243, 2244), (718, 717, 0)]
def sr_mj_c : Nat → List (Nat × Nat × Nat)
  | 0 => sr_mj_0
  | 1 => sr_mj_1
  | 2 => sr_mj_2
  | 3 => sr_mj_3
  | 4 => sr_mj_4
  | 5 => sr_mj_5
  | 6 => sr_mj_6
  | 7 => sr_mj_7
  | 8 => sr_mj_8
  | 9 => sr_mj_9
  | 10 => sr_mj_10
  | 11 => sr_mj_11
  | 12 => sr_mj_12
  | 13 => sr_mj_13
  | 14 => sr_mj_14
  | _ => []
def sr_mj (m : Nat) : Nat × Nat × Nat := (sr_mj_c (m / 20)).getD (m % 20) (0, 0, 0)
/-- a method's code: what its word in the tables says -/
def sr_by (m : Nat) : ByteArray := match lw_tbl[(sr_mj m).1]? with
  | some (Jvm.Cond.code _ c _ _) => c
  | _ => ⟨#[]⟩
/-- where each class is said to be initialised, and made -/
def sr_ij : List Nat := [128, 141, 131, 127, 118, 119, 125, 126, 129, 124, 130, 117, 134, 132]
def sr_nj : List Nat := [583, 652, 417, 151, 157, 244, 250, 597, 238, 631, 143, 1507]
def sr_cj : List Nat := [128, 131, 127, 118, 119, 125, 126, 129, 124, 130, 117, 134]
def sr_lj : Nat → List Nat
  | 0 => [591, 593]
  | 1 => [671, 673, 675, 677, 679, 681, 683, 685, 687, 689]
  | 2 => [432, 434, 436, 438, 440, 442, 444, 446]
  | 3 => [553, 555, 557, 559, 561, 563, 565, 567, 569, 571, 573, 575]
  | 4 => [218, 220, 222, 224, 226, 228, 230, 232]
  | 5 => [395, 397, 399, 401, 403, 405, 407, 409, 411, 413]
  | 6 => [318, 320, 322, 324, 326, 328, 330, 332, 334, 336, 338, 340, 342, 344]
  | 7 => [612, 614, 616, 618, 620, 622, 624, 626]
  | 8 => [501, 503, 505, 507, 509, 511, 513, 515, 517, 519, 521, 523, 525, 527, 529, 531, 533, 535]
  | 9 => [642, 644, 646, 648]
  | 10 => [755, 757, 759, 761, 763, 765, 767, 769, 771, 773]
  | 11 => [1588, 1590, 1592, 1594, 1596, 1598, 1600, 1602, 1604, 1606, 1608, 1610, 1612, 1614, 1616, 1618, 1620, 1622, 1624, 1626, 1628, 1630, 1632, 1634, 1636, 1638, 1640, 1642, 1644, 1646, 1648, 1650, 1652, 1654, 1656, 1658, 1660, 1662, 1664, 1666, 1668, 1670, 1672, 1674, 1676, 1678, 1680, 1682, 1684, 1686, 1688, 1690, 1692, 1694, 1696, 1698, 1700, 1702, 1704, 1706, 1708, 1710, 1712, 1714, 1716, 1718, 1720, 1722]
  | _ => []
def sr_tR : Nat → String × Nat × String
  | 0 => ("ScreenRoom$Reader", 37, "room  screenfolk  carry step  moth  seed  law   ageingpay   cut   or    and   not   seasonfrom  age   done  near  whole hour  ")
  | 1 => ("ScreenRoom", 132, "no such one of folk")
  | 2 => ("ScreenRoom", 158, "no such what")
  | 3 => ("ScreenRoomModel", 200, "room screen folk carry step moth seed law ageing pay cut or and not season from age done near whole hour ")
  | _ => ("", 0, "")
/-- where other words stand -/
def sr_jAI : Nat := 235
def sr_jAZ : Nat := 629
def sr_jAJ : Nat := 449
def sr_jOi : Nat := 148
def sr_jOc : Nat := 149
