/-! names and words (the names of classes, fields and methods are those of the printed list) -/
def RX0 : String := "RobotCellHouse$Arm"
def TX0 : u_T := fun k => match k with
  | 0 => ("RobotCellHouse$Arm", "joint", "[LRobotCellHouse$Joint;", true)
  | 1 => ("RobotCellHouse$Arm", "x", "[I", true)
  | 2 => ("RobotCellHouse$Arm", "y", "[I", true)
  | 3 => ("RobotCellHouse$Arm", "oldX", "[I", true)
  | 4 => ("RobotCellHouse$Arm", "oldY", "[I", true)
  | 5 => ("RobotCellHouse$Arm", "spared", "[I", true)
  | 6 => ("RobotCellHouse$Arm", "variable", "[I", true)
  | 7 => ("RobotCellHouse$Arm", "code", "LRobotCellHouse$Code;", false)
  | 8 => ("RobotCellHouse$Arm", "joints", "I", false)
  | 9 => ("RobotCellHouse$Arm", "direction", "I", false)
  | 10 => ("RobotCellHouse$Arm", "reach", "I", false)
  | 11 => ("RobotCellHouse$Arm", "state", "I", false)
  | 12 => ("RobotCellHouse$Arm", "ticks", "I", false)
  | 13 => ("RobotCellHouse$Arm", "owner", "I", false)
  | 14 => ("RobotCellHouse$Arm", "held", "I", false)
  | 15 => ("RobotCellHouse$Arm", "heldRadius", "I", false)
  | 16 => ("RobotCellHouse$Arm", "faulted", "I", false)
  | 17 => ("RobotCellHouse$Arm", "way", "I", false)
  | 18 => ("RobotCellHouse$Arm", "at", "I", false)
  | _ => ("RobotCellHouse$Arm", "moved", "I", false)
def tyX0 : Nat → FieldType := fun k => match k with
  | 0 => .array (.object "RobotCellHouse$Joint")
  | 1 => .array .int
  | 2 => .array .int
  | 3 => .array .int
  | 4 => .array .int
  | 5 => .array .int
  | 6 => .array .int
  | 7 => .object "RobotCellHouse$Code"
  | 8 => .int
  | 9 => .int
  | 10 => .int
  | 11 => .int
  | 12 => .int
  | 13 => .int
  | 14 => .int
  | 15 => .int
  | 16 => .int
  | 17 => .int
  | 18 => .int
  | _ => .int
theorem nmX0 : ∀ a, a < 20 → ∀ b, b < 20 → a ≠ b → (TX0 a).2.1 ≠ (TX0 b).2.1 := by decide +kernel
theorem tyX0_ok : ∀ k, k < 20 → parseFieldDescriptor (TX0 k).2.2.1 = some (tyX0 k) := by decide +kernel
def RX1 : String := "RobotCellHouse$Code"
def TX1 : u_T := fun k => match k with
  | 0 => ("RobotCellHouse$Code", "length", "I", false)
  | 1 => ("RobotCellHouse$Code", "routines", "I", false)
  | 2 => ("RobotCellHouse$Code", "variables", "I", false)
  | 3 => ("RobotCellHouse$Code", "entry", "[I", true)
  | _ => ("RobotCellHouse$Code", "rows", "[I", true)
def tyX1 : Nat → FieldType := fun k => match k with
  | 0 => .int
  | 1 => .int
  | 2 => .int
  | 3 => .array .int
  | _ => .array .int
theorem nmX1 : ∀ a, a < 5 → ∀ b, b < 5 → a ≠ b → (TX1 a).2.1 ≠ (TX1 b).2.1 := by decide +kernel
theorem tyX1_ok : ∀ k, k < 5 → parseFieldDescriptor (TX1 k).2.2.1 = some (tyX1 k) := by decide +kernel
def RX2 : String := "RobotCellHouse$Core"
def TX2 : u_T := fun k => match k with
  | 0 => ("RobotCellHouse$Core", "time", "I", false)
  | 1 => ("RobotCellHouse$Core", "events", "I", false)
  | 2 => ("RobotCellHouse$Core", "inputs", "I", false)
  | 3 => ("RobotCellHouse$Core", "power", "Z", false)
  | 4 => ("RobotCellHouse$Core", "causeKind", "I", false)
  | 5 => ("RobotCellHouse$Core", "causeNumber", "I", false)
  | 6 => ("RobotCellHouse$Core", "causeTick", "I", false)
  | 7 => ("RobotCellHouse$Core", "apart", "Z", false)
  | 8 => ("RobotCellHouse$Core", "log", "[I", true)
  | 9 => ("RobotCellHouse$Core", "differ", "[I", true)
  | 10 => ("RobotCellHouse$Core", "may", "[Z", true)
  | 11 => ("RobotCellHouse$Core", "one", "[Z", true)
  | 12 => ("RobotCellHouse$Core", "other", "[Z", true)
  | 13 => ("RobotCellHouse$Core", "faulty", "[Z", true)
  | _ => ("RobotCellHouse$Core", "differed", "[I", true)
def tyX2 : Nat → FieldType := fun k => match k with
  | 0 => .int
  | 1 => .int
  | 2 => .int
  | 3 => .boolean
  | 4 => .int
  | 5 => .int
  | 6 => .int
  | 7 => .boolean
  | 8 => .array .int
  | 9 => .array .int
  | 10 => .array .boolean
  | 11 => .array .boolean
  | 12 => .array .boolean
  | 13 => .array .boolean
  | _ => .array .int
theorem nmX2 : ∀ a, a < 15 → ∀ b, b < 15 → a ≠ b → (TX2 a).2.1 ≠ (TX2 b).2.1 := by decide +kernel
theorem tyX2_ok : ∀ k, k < 15 → parseFieldDescriptor (TX2 k).2.2.1 = some (tyX2 k) := by decide +kernel
def RX3 : String := "RobotCellHouse$Doer"
def TX3 : u_T := fun k => match k with
  | 0 => ("RobotCellHouse$Doer", "arms", "[LRobotCellHouse$Arm;", true)
  | 1 => ("RobotCellHouse$Doer", "points", "LRobotCellHouse$Points;", true)
  | 2 => ("RobotCellHouse$Doer", "floor", "LRobotCellHouse$Floor;", true)
  | 3 => ("RobotCellHouse$Doer", "core", "LRobotCellHouse$Core;", true)
  | 4 => ("RobotCellHouse$Doer", "tasks", "[LRobotCellHouse$Task;", true)
  | 5 => ("RobotCellHouse$Doer", "locks", "[I", true)
  | 6 => ("RobotCellHouse$Doer", "stack", "[I", true)
  | 7 => ("RobotCellHouse$Doer", "goals", "[I", true)
  | 8 => ("RobotCellHouse$Doer", "top", "I", false)
  | 9 => ("RobotCellHouse$Doer", "waits", "I", false)
  | 10 => ("RobotCellHouse$Doer", "raisedError", "I", false)
  | _ => ("RobotCellHouse$Doer", "raised", "Z", false)
def tyX3 : Nat → FieldType := fun k => match k with
  | 0 => .array (.object "RobotCellHouse$Arm")
  | 1 => .object "RobotCellHouse$Points"
  | 2 => .object "RobotCellHouse$Floor"
  | 3 => .object "RobotCellHouse$Core"
  | 4 => .array (.object "RobotCellHouse$Task")
  | 5 => .array .int
  | 6 => .array .int
  | 7 => .array .int
  | 8 => .int
  | 9 => .int
  | 10 => .int
  | _ => .boolean
theorem nmX3 : ∀ a, a < 12 → ∀ b, b < 12 → a ≠ b → (TX3 a).2.1 ≠ (TX3 b).2.1 := by decide +kernel
theorem tyX3_ok : ∀ k, k < 12 → parseFieldDescriptor (TX3 k).2.2.1 = some (tyX3 k) := by decide +kernel
def RX4 : String := "RobotCellHouse$Floor"
def TX4 : u_T := fun k => match k with
  | 0 => ("RobotCellHouse$Floor", "belts", "I", false)
  | 1 => ("RobotCellHouse$Floor", "parts", "I", false)
  | 2 => ("RobotCellHouse$Floor", "length", "[I", true)
  | 3 => ("RobotCellHouse$Floor", "speed", "[I", true)
  | 4 => ("RobotCellHouse$Floor", "point", "[I", true)
  | 5 => ("RobotCellHouse$Floor", "from", "[I", true)
  | 6 => ("RobotCellHouse$Floor", "to", "[I", true)
  | 7 => ("RobotCellHouse$Floor", "x", "[I", true)
  | 8 => ("RobotCellHouse$Floor", "y", "[I", true)
  | 9 => ("RobotCellHouse$Floor", "stepX", "[I", true)
  | 10 => ("RobotCellHouse$Floor", "stepY", "[I", true)
  | 11 => ("RobotCellHouse$Floor", "width", "[I", true)
  | 12 => ("RobotCellHouse$Floor", "order", "[[I", true)
  | 13 => ("RobotCellHouse$Floor", "ordered", "[I", true)
  | 14 => ("RobotCellHouse$Floor", "where", "[I", true)
  | 15 => ("RobotCellHouse$Floor", "way", "[I", true)
  | 16 => ("RobotCellHouse$Floor", "radius", "[I", true)
  | 17 => ("RobotCellHouse$Floor", "placeX", "[I", true)
  | 18 => ("RobotCellHouse$Floor", "placeY", "[I", true)
  | _ => ("RobotCellHouse$Floor", "first", "[[I", true)
def tyX4 : Nat → FieldType := fun k => match k with
  | 0 => .int
  | 1 => .int
  | 2 => .array .int
  | 3 => .array .int
  | 4 => .array .int
  | 5 => .array .int
  | 6 => .array .int
  | 7 => .array .int
  | 8 => .array .int
  | 9 => .array .int
  | 10 => .array .int
  | 11 => .array .int
  | 12 => .array (.array .int)
  | 13 => .array .int
  | 14 => .array .int
  | 15 => .array .int
  | 16 => .array .int
  | 17 => .array .int
  | 18 => .array .int
  | _ => .array (.array .int)
theorem nmX4 : ∀ a, a < 20 → ∀ b, b < 20 → a ≠ b → (TX4 a).2.1 ≠ (TX4 b).2.1 := by decide +kernel
theorem tyX4_ok : ∀ k, k < 20 → parseFieldDescriptor (TX4 k).2.2.1 = some (tyX4 k) := by decide +kernel
def RX5 : String := "RobotCellHouse$Joint"
def TX5 : u_T := fun k => match k with
  | 0 => ("RobotCellHouse$Joint", "kind", "I", false)
  | 1 => ("RobotCellHouse$Joint", "low", "I", false)
  | 2 => ("RobotCellHouse$Joint", "high", "I", false)
  | 3 => ("RobotCellHouse$Joint", "length", "I", false)
  | 4 => ("RobotCellHouse$Joint", "radius", "I", false)
  | 5 => ("RobotCellHouse$Joint", "speed", "I", false)
  | 6 => ("RobotCellHouse$Joint", "gain", "I", false)
  | 7 => ("RobotCellHouse$Joint", "value", "I", false)
  | 8 => ("RobotCellHouse$Joint", "step", "I", false)
  | 9 => ("RobotCellHouse$Joint", "goal", "I", false)
  | 10 => ("RobotCellHouse$Joint", "begun", "I", false)
  | _ => ("RobotCellHouse$Joint", "before", "I", false)
def tyX5 : Nat → FieldType := fun k => match k with
  | 0 => .int
  | 1 => .int
  | 2 => .int
  | 3 => .int
  | 4 => .int
  | 5 => .int
  | 6 => .int
  | 7 => .int
  | 8 => .int
  | 9 => .int
  | 10 => .int
  | _ => .int
theorem nmX5 : ∀ a, a < 12 → ∀ b, b < 12 → a ≠ b → (TX5 a).2.1 ≠ (TX5 b).2.1 := by decide +kernel
theorem tyX5_ok : ∀ k, k < 12 → parseFieldDescriptor (TX5 k).2.2.1 = some (tyX5 k) := by decide +kernel
def RX6 : String := "RobotCellHouse$Planner"
def TX6 : u_T := fun k => match k with
  | 0 => ("RobotCellHouse$Planner", "plans", "I", false)
  | 1 => ("RobotCellHouse$Planner", "wide", "I", false)
  | 2 => ("RobotCellHouse$Planner", "margin", "I", false)
  | 3 => ("RobotCellHouse$Planner", "origin", "I", false)
  | 4 => ("RobotCellHouse$Planner", "values", "[I", true)
  | 5 => ("RobotCellHouse$Planner", "down", "[I", true)
  | 6 => ("RobotCellHouse$Planner", "size", "[I", true)
  | 7 => ("RobotCellHouse$Planner", "stride", "[I", true)
  | 8 => ("RobotCellHouse$Planner", "queue", "[I", true)
  | 9 => ("RobotCellHouse$Planner", "came", "[I", true)
  | 10 => ("RobotCellHouse$Planner", "steps", "[B", true)
  | 11 => ("RobotCellHouse$Planner", "lengths", "[I", true)
  | _ => ("RobotCellHouse$Planner", "widths", "[I", true)
def tyX6 : Nat → FieldType := fun k => match k with
  | 0 => .int
  | 1 => .int
  | 2 => .int
  | 3 => .int
  | 4 => .array .int
  | 5 => .array .int
  | 6 => .array .int
  | 7 => .array .int
  | 8 => .array .int
  | 9 => .array .int
  | 10 => .array .byte
  | 11 => .array .int
  | _ => .array .int
theorem nmX6 : ∀ a, a < 13 → ∀ b, b < 13 → a ≠ b → (TX6 a).2.1 ≠ (TX6 b).2.1 := by decide +kernel
theorem tyX6_ok : ∀ k, k < 13 → parseFieldDescriptor (TX6 k).2.2.1 = some (tyX6 k) := by decide +kernel
def RX7 : String := "RobotCellHouse$Points"
def TX7 : u_T := fun k => match k with
  | 0 => ("RobotCellHouse$Points", "own", "[I", true)
  | 1 => ("RobotCellHouse$Points", "value", "[I", true)
  | 2 => ("RobotCellHouse$Points", "rises", "[I", true)
  | 3 => ("RobotCellHouse$Points", "forcedTo", "[I", true)
  | 4 => ("RobotCellHouse$Points", "source", "[I", true)
  | 5 => ("RobotCellHouse$Points", "forced", "[Z", true)
  | 6 => ("RobotCellHouse$Points", "turned", "[Z", true)
  | _ => ("RobotCellHouse$Points", "order", "[I", true)
def tyX7 : Nat → FieldType := fun k => match k with
  | 0 => .array .int
  | 1 => .array .int
  | 2 => .array .int
  | 3 => .array .int
  | 4 => .array .int
  | 5 => .array .boolean
  | 6 => .array .boolean
  | _ => .array .int
theorem nmX7 : ∀ a, a < 8 → ∀ b, b < 8 → a ≠ b → (TX7 a).2.1 ≠ (TX7 b).2.1 := by decide +kernel
theorem tyX7_ok : ∀ k, k < 8 → parseFieldDescriptor (TX7 k).2.2.1 = some (tyX7 k) := by decide +kernel
def RX8 : String := "RobotCellHouse$Reader"
def TX8 : u_T := fun k => match k with
  | 0 => ("RobotCellHouse$Reader", "length", "I", false)
  | 1 => ("RobotCellHouse$Reader", "fault", "I", false)
  | 2 => ("RobotCellHouse$Reader", "place", "I", false)
  | 3 => ("RobotCellHouse$Reader", "code", "LRobotCellHouse$Code;", false)
  | 4 => ("RobotCellHouse$Reader", "text", "[B", true)
  | 5 => ("RobotCellHouse$Reader", "kind", "I", false)
  | 6 => ("RobotCellHouse$Reader", "at", "I", false)
  | 7 => ("RobotCellHouse$Reader", "next", "I", false)
  | 8 => ("RobotCellHouse$Reader", "number", "I", false)
  | 9 => ("RobotCellHouse$Reader", "sense", "I", false)
  | 10 => ("RobotCellHouse$Reader", "sensePlace", "I", false)
  | 11 => ("RobotCellHouse$Reader", "open", "I", false)
  | 12 => ("RobotCellHouse$Reader", "tries", "I", false)
  | 13 => ("RobotCellHouse$Reader", "loop", "I", false)
  | 14 => ("RobotCellHouse$Reader", "routines", "I", false)
  | 15 => ("RobotCellHouse$Reader", "variableAt", "[I", true)
  | _ => ("RobotCellHouse$Reader", "routineAt", "[I", true)
def tyX8 : Nat → FieldType := fun k => match k with
  | 0 => .int
  | 1 => .int
  | 2 => .int
  | 3 => .object "RobotCellHouse$Code"
  | 4 => .array .byte
  | 5 => .int
  | 6 => .int
  | 7 => .int
  | 8 => .int
  | 9 => .int
  | 10 => .int
  | 11 => .int
  | 12 => .int
  | 13 => .int
  | 14 => .int
  | 15 => .array .int
  | _ => .array .int
theorem nmX8 : ∀ a, a < 17 → ∀ b, b < 17 → a ≠ b → (TX8 a).2.1 ≠ (TX8 b).2.1 := by decide +kernel
theorem tyX8_ok : ∀ k, k < 17 → parseFieldDescriptor (TX8 k).2.2.1 = some (tyX8 k) := by decide +kernel
def RX9 : String := "RobotCellHouse$Shapes"
def TX9 : u_T := fun k => match k with
  | 0 => ("RobotCellHouse$Shapes", "solids", "I", false)
  | 1 => ("RobotCellHouse$Shapes", "zones", "I", false)
  | 2 => ("RobotCellHouse$Shapes", "x", "[I", true)
  | 3 => ("RobotCellHouse$Shapes", "y", "[I", true)
  | 4 => ("RobotCellHouse$Shapes", "w", "[I", true)
  | 5 => ("RobotCellHouse$Shapes", "h", "[I", true)
  | 6 => ("RobotCellHouse$Shapes", "\x72", "[I", true)
  | 7 => ("RobotCellHouse$Shapes", "zoneArm", "[I", true)
  | 8 => ("RobotCellHouse$Shapes", "most", "[I", true)
  | 9 => ("RobotCellHouse$Shapes", "left", "[I", true)
  | 10 => ("RobotCellHouse$Shapes", "low", "[I", true)
  | 11 => ("RobotCellHouse$Shapes", "right", "[I", true)
  | 12 => ("RobotCellHouse$Shapes", "high", "[I", true)
  | 13 => ("RobotCellHouse$Shapes", "ax", "I", false)
  | 14 => ("RobotCellHouse$Shapes", "ay", "I", false)
  | 15 => ("RobotCellHouse$Shapes", "bx", "I", false)
  | _ => ("RobotCellHouse$Shapes", "by", "I", false)
def tyX9 : Nat → FieldType := fun k => match k with
  | 0 => .int
  | 1 => .int
  | 2 => .array .int
  | 3 => .array .int
  | 4 => .array .int
  | 5 => .array .int
  | 6 => .array .int
  | 7 => .array .int
  | 8 => .array .int
  | 9 => .array .int
  | 10 => .array .int
  | 11 => .array .int
  | 12 => .array .int
  | 13 => .int
  | 14 => .int
  | 15 => .int
  | _ => .int
theorem nmX9 : ∀ a, a < 17 → ∀ b, b < 17 → a ≠ b → (TX9 a).2.1 ≠ (TX9 b).2.1 := by decide +kernel
theorem tyX9_ok : ∀ k, k < 17 → parseFieldDescriptor (TX9 k).2.2.1 = some (tyX9 k) := by decide +kernel
def RX10 : String := "RobotCellHouse$Task"
def TX10 : u_T := fun k => match k with
  | 0 => ("RobotCellHouse$Task", "number", "I", true)
  | 1 => ("RobotCellHouse$Task", "state", "I", false)
  | 2 => ("RobotCellHouse$Task", "arm", "I", false)
  | 3 => ("RobotCellHouse$Task", "pc", "I", false)
  | 4 => ("RobotCellHouse$Task", "frames", "I", false)
  | 5 => ("RobotCellHouse$Task", "error", "I", false)
  | 6 => ("RobotCellHouse$Task", "caught", "I", false)
  | 7 => ("RobotCellHouse$Task", "born", "I", false)
  | 8 => ("RobotCellHouse$Task", "awaited", "I", false)
  | 9 => ("RobotCellHouse$Task", "since", "I", false)
  | 10 => ("RobotCellHouse$Task", "broken", "Z", false)
  | 11 => ("RobotCellHouse$Task", "watched", "I", false)
  | 12 => ("RobotCellHouse$Task", "watcher", "I", false)
  | 13 => ("RobotCellHouse$Task", "kept", "I", false)
  | 14 => ("RobotCellHouse$Task", "watchFrame", "I", false)
  | 15 => ("RobotCellHouse$Task", "tries", "I", false)
  | 16 => ("RobotCellHouse$Task", "returnTo", "[I", true)
  | 17 => ("RobotCellHouse$Task", "triesBelow", "[I", true)
  | 18 => ("RobotCellHouse$Task", "tryAt", "[I", true)
  | 19 => ("RobotCellHouse$Task", "tryPart", "[I", true)
  | _ => ("RobotCellHouse$Task", "tryValue", "[I", true)
def tyX10 : Nat → FieldType := fun k => match k with
  | 0 => .int
  | 1 => .int
  | 2 => .int
  | 3 => .int
  | 4 => .int
  | 5 => .int
  | 6 => .int
  | 7 => .int
  | 8 => .int
  | 9 => .int
  | 10 => .boolean
  | 11 => .int
  | 12 => .int
  | 13 => .int
  | 14 => .int
  | 15 => .int
  | 16 => .array .int
  | 17 => .array .int
  | 18 => .array .int
  | 19 => .array .int
  | _ => .array .int
theorem nmX10 : ∀ a, a < 21 → ∀ b, b < 21 → a ≠ b → (TX10 a).2.1 ≠ (TX10 b).2.1 := by decide +kernel
theorem tyX10_ok : ∀ k, k < 21 → parseFieldDescriptor (TX10 k).2.2.1 = some (tyX10 k) := by decide +kernel
def RX11 : String := "RobotCellHouse"
def TX11 : u_T := fun k => match k with
  | 0 => ("RobotCellHouse", "reader", "LRobotCellHouse$Reader;", true)
  | 1 => ("RobotCellHouse", "doer", "LRobotCellHouse$Doer;", true)
  | 2 => ("RobotCellHouse", "arms", "[LRobotCellHouse$Arm;", true)
  | 3 => ("RobotCellHouse", "points", "LRobotCellHouse$Points;", true)
  | 4 => ("RobotCellHouse", "floor", "LRobotCellHouse$Floor;", true)
  | 5 => ("RobotCellHouse", "core", "LRobotCellHouse$Core;", true)
  | 6 => ("RobotCellHouse", "shapes", "LRobotCellHouse$Shapes;", true)
  | 7 => ("RobotCellHouse", "planner", "LRobotCellHouse$Planner;", true)
  | 8 => ("RobotCellHouse", "aims", "[I", true)
  | 9 => ("RobotCellHouse", "book", "[I", true)
  | 10 => ("RobotCellHouse", "never", "[I", true)
  | 11 => ("RobotCellHouse", "armCount", "I", false)
  | 12 => ("RobotCellHouse", "rows", "I", false)
  | 13 => ("RobotCellHouse", "isOpen", "Z", false)
  | _ => ("RobotCellHouse", "counting", "Z", false)
def tyX11 : Nat → FieldType := fun k => match k with
  | 0 => .object "RobotCellHouse$Reader"
  | 1 => .object "RobotCellHouse$Doer"
  | 2 => .array (.object "RobotCellHouse$Arm")
  | 3 => .object "RobotCellHouse$Points"
  | 4 => .object "RobotCellHouse$Floor"
  | 5 => .object "RobotCellHouse$Core"
  | 6 => .object "RobotCellHouse$Shapes"
  | 7 => .object "RobotCellHouse$Planner"
  | 8 => .array .int
  | 9 => .array .int
  | 10 => .array .int
  | 11 => .int
  | 12 => .int
  | 13 => .boolean
  | _ => .boolean
theorem nmX11 : ∀ a, a < 15 → ∀ b, b < 15 → a ≠ b → (TX11 a).2.1 ≠ (TX11 b).2.1 := by decide +kernel
theorem tyX11_ok : ∀ k, k < 15 → parseFieldDescriptor (TX11 k).2.2.1 = some (tyX11 k) := by decide +kernel
def RX12 : String := "RobotCellHouseModel"
def TX12 : u_T := fun k => match k with
  | 0 => ("RobotCellHouseModel", "now", "[I", true)
  | 1 => ("RobotCellHouseModel", "opened", "[I", true)
  | 2 => ("RobotCellHouseModel", "shots", "[I", true)
  | 3 => ("RobotCellHouseModel", "isOpen", "Z", false)
  | 4 => ("RobotCellHouseModel", "book", "[I", true)
  | 5 => ("RobotCellHouseModel", "rows", "I", false)
  | 6 => ("RobotCellHouseModel", "isAgain", "Z", false)
  | 7 => ("RobotCellHouseModel", "counted", "[I", true)
  | 8 => ("RobotCellHouseModel", "tape", "[B", true)
  | 9 => ("RobotCellHouseModel", "taped", "I", false)
  | 10 => ("RobotCellHouseModel", "arms", "I", false)
  | 11 => ("RobotCellHouseModel", "baseX", "[I", true)
  | 12 => ("RobotCellHouseModel", "baseY", "[I", true)
  | 13 => ("RobotCellHouseModel", "direction", "[I", true)
  | 14 => ("RobotCellHouseModel", "reach", "[I", true)
  | 15 => ("RobotCellHouseModel", "joints", "[I", true)
  | 16 => ("RobotCellHouseModel", "turns", "[I", true)
  | 17 => ("RobotCellHouseModel", "low", "[I", true)
  | 18 => ("RobotCellHouseModel", "high", "[I", true)
  | 19 => ("RobotCellHouseModel", "speed", "[I", true)
  | 20 => ("RobotCellHouseModel", "gain", "[I", true)
  | 21 => ("RobotCellHouseModel", "length", "[I", true)
  | 22 => ("RobotCellHouseModel", "radius", "[I", true)
  | 23 => ("RobotCellHouseModel", "solids", "I", false)
  | 24 => ("RobotCellHouseModel", "isBox", "[Z", true)
  | 25 => ("RobotCellHouseModel", "solidX", "[I", true)
  | 26 => ("RobotCellHouseModel", "solidY", "[I", true)
  | 27 => ("RobotCellHouseModel", "solidW", "[I", true)
  | 28 => ("RobotCellHouseModel", "solidH", "[I", true)
  | 29 => ("RobotCellHouseModel", "spared", "[Z", true)
  | 30 => ("RobotCellHouseModel", "belts", "I", false)
  | 31 => ("RobotCellHouseModel", "beltX", "[I", true)
  | 32 => ("RobotCellHouseModel", "beltY", "[I", true)
  | 33 => ("RobotCellHouseModel", "quarter", "[I", true)
  | 34 => ("RobotCellHouseModel", "beltLength", "[I", true)
  | 35 => ("RobotCellHouseModel", "beltSpeed", "[I", true)
  | 36 => ("RobotCellHouseModel", "beltWidth", "[I", true)
  | 37 => ("RobotCellHouseModel", "sensorPoint", "[I", true)
  | 38 => ("RobotCellHouseModel", "sensorFrom", "[I", true)
  | 39 => ("RobotCellHouseModel", "sensorTo", "[I", true)
  | 40 => ("RobotCellHouseModel", "parts", "I", false)
  | 41 => ("RobotCellHouseModel", "partRadius", "[I", true)
  | 42 => ("RobotCellHouseModel", "zones", "I", false)
  | 43 => ("RobotCellHouseModel", "zoneArm", "[I", true)
  | 44 => ("RobotCellHouseModel", "zoneX", "[I", true)
  | 45 => ("RobotCellHouseModel", "zoneY", "[I", true)
  | 46 => ("RobotCellHouseModel", "zoneW", "[I", true)
  | 47 => ("RobotCellHouseModel", "zoneH", "[I", true)
  | 48 => ("RobotCellHouseModel", "zoneMost", "[I", true)
  | 49 => ("RobotCellHouseModel", "inputs", "I", false)
  | 50 => ("RobotCellHouseModel", "differ", "[I", true)
  | 51 => ("RobotCellHouseModel", "may", "[Z", true)
  | 52 => ("RobotCellHouseModel", "wireFrom", "[I", true)
  | 53 => ("RobotCellHouseModel", "isTurned", "[Z", true)
  | 54 => ("RobotCellHouseModel", "sines", "[I", true)
  | 55 => ("RobotCellHouseModel", "pointX", "[I", true)
  | 56 => ("RobotCellHouseModel", "pointY", "[I", true)
  | 57 => ("RobotCellHouseModel", "trial", "[I", true)
  | 58 => ("RobotCellHouseModel", "lineFrom", "I", false)
  | 59 => ("RobotCellHouseModel", "lineTo", "I", false)
  | 60 => ("RobotCellHouseModel", "lineRadius", "I", false)
  | 61 => ("RobotCellHouseModel", "one", "[I", true)
  | 62 => ("RobotCellHouseModel", "two", "[I", true)
  | 63 => ("RobotCellHouseModel", "path", "[I", true)
  | 64 => ("RobotCellHouseModel", "wasNought", "[Z", true)
  | 65 => ("RobotCellHouseModel", "ops", "[I", true)
  | 66 => ("RobotCellHouseModel", "args", "[I", true)
  | 67 => ("RobotCellHouseModel", "regions", "[I", true)
  | 68 => ("RobotCellHouseModel", "tryIn", "[I", true)
  | 69 => ("RobotCellHouseModel", "tryCatch", "[I", true)
  | 70 => ("RobotCellHouseModel", "tryFinally", "[I", true)
  | 71 => ("RobotCellHouseModel", "tryEnd", "[I", true)
  | 72 => ("RobotCellHouseModel", "whileIn", "[I", true)
  | 73 => ("RobotCellHouseModel", "whileEnd", "[I", true)
  | 74 => ("RobotCellHouseModel", "routineAt", "[I", true)
  | 75 => ("RobotCellHouseModel", "routines", "[I", true)
  | 76 => ("RobotCellHouseModel", "variables", "[I", true)
  | 77 => ("RobotCellHouseModel", "hasProgram", "[Z", true)
  | 78 => ("RobotCellHouseModel", "size", "I", false)
  | 79 => ("RobotCellHouseModel", "tries", "I", false)
  | 80 => ("RobotCellHouseModel", "whiles", "I", false)
  | 81 => ("RobotCellHouseModel", "region", "I", false)
  | 82 => ("RobotCellHouseModel", "inWhile", "I", false)
  | 83 => ("RobotCellHouseModel", "opens", "I", false)
  | 84 => ("RobotCellHouseModel", "kind", "I", false)
  | 85 => ("RobotCellHouseModel", "what", "I", false)
  | 86 => ("RobotCellHouseModel", "tokenAt", "I", false)
  | 87 => ("RobotCellHouseModel", "tokenEnd", "I", false)
  | 88 => ("RobotCellHouseModel", "faultKind", "I", false)
  | 89 => ("RobotCellHouseModel", "faultPlace", "I", false)
  | 90 => ("RobotCellHouseModel", "nameKind", "[I", true)
  | 91 => ("RobotCellHouseModel", "nameAt", "[I", true)
  | 92 => ("RobotCellHouseModel", "nameSize", "[I", true)
  | 93 => ("RobotCellHouseModel", "nameCode", "[I", true)
  | 94 => ("RobotCellHouseModel", "names", "I", false)
  | 95 => ("RobotCellHouseModel", "hasRead", "Z", false)
  | 96 => ("RobotCellHouseModel", "turn", "I", false)
  | 97 => ("RobotCellHouseModel", "at", "I", false)
  | 98 => ("RobotCellHouseModel", "its", "I", false)
  | 99 => ("RobotCellHouseModel", "begun", "I", false)
  | 100 => ("RobotCellHouseModel", "isOver", "Z", false)
  | 101 => ("RobotCellHouseModel", "stack", "[I", true)
  | 102 => ("RobotCellHouseModel", "depth", "I", false)
  | 103 => ("RobotCellHouseModel", "stepBefore", "[I", true)
  | 104 => ("RobotCellHouseModel", "nodes", "[I", true)
  | 105 => ("RobotCellHouseModel", "first", "[I", true)
  | 106 => ("RobotCellHouseModel", "far", "[I", true)
  | 107 => ("RobotCellHouseModel", "queue", "[I", true)
  | 108 => ("RobotCellHouseModel", "isFree", "[I", true)
  | 109 => ("RobotCellHouseModel", "edges", "[I", true)
  | 110 => ("RobotCellHouseModel", "planArm", "I", false)
  | 111 => ("RobotCellHouseModel", "planWide", "I", false)
  | 112 => ("RobotCellHouseModel", "planMargin", "I", false)
  | 113 => ("RobotCellHouseModel", "found", "[I", true)
  | 114 => ("RobotCellHouseModel", "ways", "[I", true)
  | 115 => ("RobotCellHouseModel", "wayFrom", "[I", true)
  | 116 => ("RobotCellHouseModel", "wayEnd", "[I", true)
  | 117 => ("RobotCellHouseModel", "againRow", "I", false)
  | _ => ("RobotCellHouseModel", "plans", "I", false)
def tyX12 : Nat → FieldType := fun k => match k with
  | 0 => .array .int
  | 1 => .array .int
  | 2 => .array .int
  | 3 => .boolean
  | 4 => .array .int
  | 5 => .int
  | 6 => .boolean
  | 7 => .array .int
  | 8 => .array .byte
  | 9 => .int
  | 10 => .int
  | 11 => .array .int
  | 12 => .array .int
  | 13 => .array .int
  | 14 => .array .int
  | 15 => .array .int
  | 16 => .array .int
  | 17 => .array .int
  | 18 => .array .int
  | 19 => .array .int
  | 20 => .array .int
  | 21 => .array .int
  | 22 => .array .int
  | 23 => .int
  | 24 => .array .boolean
  | 25 => .array .int
  | 26 => .array .int
  | 27 => .array .int
  | 28 => .array .int
  | 29 => .array .boolean
  | 30 => .int
  | 31 => .array .int
  | 32 => .array .int
  | 33 => .array .int
  | 34 => .array .int
  | 35 => .array .int
  | 36 => .array .int
  | 37 => .array .int
  | 38 => .array .int
  | 39 => .array .int
  | 40 => .int
  | 41 => .array .int
  | 42 => .int
  | 43 => .array .int
  | 44 => .array .int
  | 45 => .array .int
  | 46 => .array .int
  | 47 => .array .int
  | 48 => .array .int
  | 49 => .int
  | 50 => .array .int
  | 51 => .array .boolean
  | 52 => .array .int
  | 53 => .array .boolean
  | 54 => .array .int
  | 55 => .array .int
  | 56 => .array .int
  | 57 => .array .int
  | 58 => .int
  | 59 => .int
  | 60 => .int
  | 61 => .array .int
  | 62 => .array .int
  | 63 => .array .int
  | 64 => .array .boolean
  | 65 => .array .int
  | 66 => .array .int
  | 67 => .array .int
  | 68 => .array .int
  | 69 => .array .int
  | 70 => .array .int
  | 71 => .array .int
  | 72 => .array .int
  | 73 => .array .int
  | 74 => .array .int
  | 75 => .array .int
  | 76 => .array .int
  | 77 => .array .boolean
  | 78 => .int
  | 79 => .int
  | 80 => .int
  | 81 => .int
  | 82 => .int
  | 83 => .int
  | 84 => .int
  | 85 => .int
  | 86 => .int
  | 87 => .int
  | 88 => .int
  | 89 => .int
  | 90 => .array .int
  | 91 => .array .int
  | 92 => .array .int
  | 93 => .array .int
  | 94 => .int
  | 95 => .boolean
  | 96 => .int
  | 97 => .int
  | 98 => .int
  | 99 => .int
  | 100 => .boolean
  | 101 => .array .int
  | 102 => .int
  | 103 => .array .int
  | 104 => .array .int
  | 105 => .array .int
  | 106 => .array .int
  | 107 => .array .int
  | 108 => .array .int
  | 109 => .array .int
  | 110 => .int
  | 111 => .int
  | 112 => .int
  | 113 => .array .int
  | 114 => .array .int
  | 115 => .array .int
  | 116 => .array .int
  | 117 => .int
  | _ => .int
theorem nmX12 : ∀ a, a < 119 → ∀ b, b < 119 → a ≠ b → (TX12 a).2.1 ≠ (TX12 b).2.1 := by decide +kernel
theorem tyX12_ok : ∀ k, k < 119 → parseFieldDescriptor (TX12 k).2.2.1 = some (tyX12 k) := by decide +kernel
def RJ7 : String := "java/util/Arrays"
abbrev cls : List vw_C := [(RX0, TX0, 20), (RX1, TX1, 5), (RX2, TX2, 15), (RX3, TX3, 12), (RX4, TX4, 20), (RX5, TX5, 12), (RX6, TX6, 13), (RX7, TX7, 8), (RX8, TX8, 17), (RX9, TX9, 17), (RX10, TX10, 21), (RX11, TX11, 15), (RX12, TX12, 119)]
theorem in_t1 : ∀ {w : Cond}, w ∈ tables_1_1 → goodWord w = true → w ∈ x_tbl := fun h hg => x_tb (List.mem_append_right _ (show _ ∈ tables_1 from (List.mem_append_left _ h))) hg
theorem in_t2 : ∀ {w : Cond}, w ∈ tables_1_2 → goodWord w = true → w ∈ x_tbl := fun h hg => x_tb (List.mem_append_right _ (show _ ∈ tables_1 from (List.mem_append_right _ (List.mem_append_left _ h)))) hg
theorem in_t3 : ∀ {w : Cond}, w ∈ tables_1_3 → goodWord w = true → w ∈ x_tbl := fun h hg => x_tb (List.mem_append_right _ (show _ ∈ tables_1 from (List.mem_append_right _ (List.mem_append_right _ (List.mem_append_left _ h))))) hg
theorem in_t4 : ∀ {w : Cond}, w ∈ tables_1_4 → goodWord w = true → w ∈ x_tbl := fun h hg => x_tb (List.mem_append_right _ (show _ ∈ tables_1 from (List.mem_append_right _ (List.mem_append_right _ (List.mem_append_right _ (List.mem_append_left _ h)))))) hg
theorem in_t5 : ∀ {w : Cond}, w ∈ tables_1_5 → goodWord w = true → w ∈ x_tbl := fun h hg => x_tb (List.mem_append_right _ (show _ ∈ tables_1 from (List.mem_append_right _ (List.mem_append_right _ (List.mem_append_right _ (List.mem_append_right _ (List.mem_append_left _ h))))))) hg
theorem in_t6 : ∀ {w : Cond}, w ∈ tables_1_6 → goodWord w = true → w ∈ x_tbl := fun h hg => x_tb (List.mem_append_right _ (show _ ∈ tables_1 from (List.mem_append_right _ (List.mem_append_right _ (List.mem_append_right _ (List.mem_append_right _ (List.mem_append_right _ (List.mem_append_left _ h)))))))) hg
theorem in_t7 : ∀ {w : Cond}, w ∈ tables_1_7 → goodWord w = true → w ∈ x_tbl := fun h hg => x_tb (List.mem_append_right _ (show _ ∈ tables_1 from (List.mem_append_right _ (List.mem_append_right _ (List.mem_append_right _ (List.mem_append_right _ (List.mem_append_right _ (List.mem_append_right _ (List.mem_append_left _ h))))))))) hg
theorem in_t8 : ∀ {w : Cond}, w ∈ tables_1_8 → goodWord w = true → w ∈ x_tbl := fun h hg => x_tb (List.mem_append_right _ (show _ ∈ tables_1 from (List.mem_append_right _ (List.mem_append_right _ (List.mem_append_right _ (List.mem_append_right _ (List.mem_append_right _ (List.mem_append_right _ (List.mem_append_right _ (List.mem_append_left _ h)))))))))) hg
theorem in_t9 : ∀ {w : Cond}, w ∈ tables_1_9 → goodWord w = true → w ∈ x_tbl := fun h hg => x_tb (List.mem_append_right _ (show _ ∈ tables_1 from (List.mem_append_right _ (List.mem_append_right _ (List.mem_append_right _ (List.mem_append_right _ (List.mem_append_right _ (List.mem_append_right _ (List.mem_append_right _ (List.mem_append_right _ (List.mem_append_left _ h))))))))))) hg
theorem in_t10 : ∀ {w : Cond}, w ∈ tables_1_10 → goodWord w = true → w ∈ x_tbl := fun h hg => x_tb (List.mem_append_right _ (show _ ∈ tables_1 from (List.mem_append_right _ (List.mem_append_right _ (List.mem_append_right _ (List.mem_append_right _ (List.mem_append_right _ (List.mem_append_right _ (List.mem_append_right _ (List.mem_append_right _ (List.mem_append_right _ (List.mem_append_left _ h)))))))))))) hg
theorem in_t11 : ∀ {w : Cond}, w ∈ tables_1_11 → goodWord w = true → w ∈ x_tbl := fun h hg => x_tb (List.mem_append_right _ (show _ ∈ tables_1 from (List.mem_append_right _ (List.mem_append_right _ (List.mem_append_right _ (List.mem_append_right _ (List.mem_append_right _ (List.mem_append_right _ (List.mem_append_right _ (List.mem_append_right _ (List.mem_append_right _ (List.mem_append_right _ (List.mem_append_left _ h))))))))))))) hg
theorem in_t12 : ∀ {w : Cond}, w ∈ tables_1_12 → goodWord w = true → w ∈ x_tbl := fun h hg => x_tb (List.mem_append_right _ (show _ ∈ tables_1 from (List.mem_append_right _ (List.mem_append_right _ (List.mem_append_right _ (List.mem_append_right _ (List.mem_append_right _ (List.mem_append_right _ (List.mem_append_right _ (List.mem_append_right _ (List.mem_append_right _ (List.mem_append_right _ (List.mem_append_right _ (List.mem_append_left _ h)))))))))))))) hg
theorem in_t13 : ∀ {w : Cond}, w ∈ tables_1_13 → goodWord w = true → w ∈ x_tbl := fun h hg => x_tb (List.mem_append_right _ (show _ ∈ tables_1 from (List.mem_append_right _ (List.mem_append_right _ (List.mem_append_right _ (List.mem_append_right _ (List.mem_append_right _ (List.mem_append_right _ (List.mem_append_right _ (List.mem_append_right _ (List.mem_append_right _ (List.mem_append_right _ (List.mem_append_right _ (List.mem_append_right _ (List.mem_append_left _ h))))))))))))))) hg
theorem in_t14 : ∀ {w : Cond}, w ∈ tables_1_14 → goodWord w = true → w ∈ x_tbl := fun h hg => x_tb (List.mem_append_right _ (show _ ∈ tables_1 from (List.mem_append_right _ (List.mem_append_right _ (List.mem_append_right _ (List.mem_append_right _ (List.mem_append_right _ (List.mem_append_right _ (List.mem_append_right _ (List.mem_append_right _ (List.mem_append_right _ (List.mem_append_right _ (List.mem_append_right _ (List.mem_append_right _ (List.mem_append_right _ h))))))))))))))) hg
theorem in_s1 {q : MethodName × Nat} (h : q ∈ lw_privs_1) : Cond.selects q.1.cls q.1 q.1 ∈ x_tbl := x_tb (List.mem_append_left _ (List.mem_map.mpr ⟨q, (show q ∈ lw_privs from (List.mem_append_left _ h)), rfl⟩)) rfl
theorem in_s2 {q : MethodName × Nat} (h : q ∈ lw_privs_2) : Cond.selects q.1.cls q.1 q.1 ∈ x_tbl := x_tb (List.mem_append_left _ (List.mem_map.mpr ⟨q, (show q ∈ lw_privs from (List.mem_append_right _ (List.mem_append_left _ h))), rfl⟩)) rfl
theorem in_s3 {q : MethodName × Nat} (h : q ∈ lw_privs_3) : Cond.selects q.1.cls q.1 q.1 ∈ x_tbl := x_tb (List.mem_append_left _ (List.mem_map.mpr ⟨q, (show q ∈ lw_privs from (List.mem_append_right _ (List.mem_append_right _ (List.mem_append_left _ h)))), rfl⟩)) rfl
theorem in_s4 {q : MethodName × Nat} (h : q ∈ lw_privs_4) : Cond.selects q.1.cls q.1 q.1 ∈ x_tbl := x_tb (List.mem_append_left _ (List.mem_map.mpr ⟨q, (show q ∈ lw_privs from (List.mem_append_right _ (List.mem_append_right _ (List.mem_append_right _ (List.mem_append_left _ h))))), rfl⟩)) rfl
theorem in_s5 {q : MethodName × Nat} (h : q ∈ lw_privs_5) : Cond.selects q.1.cls q.1 q.1 ∈ x_tbl := x_tb (List.mem_append_left _ (List.mem_map.mpr ⟨q, (show q ∈ lw_privs from (List.mem_append_right _ (List.mem_append_right _ (List.mem_append_right _ (List.mem_append_right _ (List.mem_append_left _ h)))))), rfl⟩)) rfl
theorem in_s6 {q : MethodName × Nat} (h : q ∈ lw_privs_6) : Cond.selects q.1.cls q.1 q.1 ∈ x_tbl := x_tb (List.mem_append_left _ (List.mem_map.mpr ⟨q, (show q ∈ lw_privs from (List.mem_append_right _ (List.mem_append_right _ (List.mem_append_right _ (List.mem_append_right _ (List.mem_append_right _ (List.mem_append_left _ h))))))), rfl⟩)) rfl
theorem in_s7 {q : MethodName × Nat} (h : q ∈ lw_privs_7) : Cond.selects q.1.cls q.1 q.1 ∈ x_tbl := x_tb (List.mem_append_left _ (List.mem_map.mpr ⟨q, (show q ∈ lw_privs from (List.mem_append_right _ (List.mem_append_right _ (List.mem_append_right _ (List.mem_append_right _ (List.mem_append_right _ (List.mem_append_right _ (List.mem_append_left _ h)))))))), rfl⟩)) rfl
theorem in_s8 {q : MethodName × Nat} (h : q ∈ lw_privs_8) : Cond.selects q.1.cls q.1 q.1 ∈ x_tbl := x_tb (List.mem_append_left _ (List.mem_map.mpr ⟨q, (show q ∈ lw_privs from (List.mem_append_right _ (List.mem_append_right _ (List.mem_append_right _ (List.mem_append_right _ (List.mem_append_right _ (List.mem_append_right _ (List.mem_append_right _ (List.mem_append_left _ h))))))))), rfl⟩)) rfl
theorem in_s9 {q : MethodName × Nat} (h : q ∈ lw_privs_9) : Cond.selects q.1.cls q.1 q.1 ∈ x_tbl := x_tb (List.mem_append_left _ (List.mem_map.mpr ⟨q, (show q ∈ lw_privs from (List.mem_append_right _ (List.mem_append_right _ (List.mem_append_right _ (List.mem_append_right _ (List.mem_append_right _ (List.mem_append_right _ (List.mem_append_right _ (List.mem_append_right _ (List.mem_append_left _ h)))))))))), rfl⟩)) rfl
theorem in_s10 {q : MethodName × Nat} (h : q ∈ lw_privs_10) : Cond.selects q.1.cls q.1 q.1 ∈ x_tbl := x_tb (List.mem_append_left _ (List.mem_map.mpr ⟨q, (show q ∈ lw_privs from (List.mem_append_right _ (List.mem_append_right _ (List.mem_append_right _ (List.mem_append_right _ (List.mem_append_right _ (List.mem_append_right _ (List.mem_append_right _ (List.mem_append_right _ (List.mem_append_right _ (List.mem_append_left _ h))))))))))), rfl⟩)) rfl
theorem in_s11 {q : MethodName × Nat} (h : q ∈ lw_privs_11) : Cond.selects q.1.cls q.1 q.1 ∈ x_tbl := x_tb (List.mem_append_left _ (List.mem_map.mpr ⟨q, (show q ∈ lw_privs from (List.mem_append_right _ (List.mem_append_right _ (List.mem_append_right _ (List.mem_append_right _ (List.mem_append_right _ (List.mem_append_right _ (List.mem_append_right _ (List.mem_append_right _ (List.mem_append_right _ (List.mem_append_right _ (List.mem_append_left _ h)))))))))))), rfl⟩)) rfl
theorem in_s12 {q : MethodName × Nat} (h : q ∈ lw_privs_12) : Cond.selects q.1.cls q.1 q.1 ∈ x_tbl := x_tb (List.mem_append_left _ (List.mem_map.mpr ⟨q, (show q ∈ lw_privs from (List.mem_append_right _ (List.mem_append_right _ (List.mem_append_right _ (List.mem_append_right _ (List.mem_append_right _ (List.mem_append_right _ (List.mem_append_right _ (List.mem_append_right _ (List.mem_append_right _ (List.mem_append_right _ (List.mem_append_right _ (List.mem_append_left _ h))))))))))))), rfl⟩)) rfl
theorem in_s13 {q : MethodName × Nat} (h : q ∈ lw_privs_13) : Cond.selects q.1.cls q.1 q.1 ∈ x_tbl := x_tb (List.mem_append_left _ (List.mem_map.mpr ⟨q, (show q ∈ lw_privs from (List.mem_append_right _ (List.mem_append_right _ (List.mem_append_right _ (List.mem_append_right _ (List.mem_append_right _ (List.mem_append_right _ (List.mem_append_right _ (List.mem_append_right _ (List.mem_append_right _ (List.mem_append_right _ (List.mem_append_right _ (List.mem_append_right _ (List.mem_append_left _ h)))))))))))))), rfl⟩)) rfl
theorem in_s14 {q : MethodName × Nat} (h : q ∈ lw_privs_14) : Cond.selects q.1.cls q.1 q.1 ∈ x_tbl := x_tb (List.mem_append_left _ (List.mem_map.mpr ⟨q, (show q ∈ lw_privs from (List.mem_append_right _ (List.mem_append_right _ (List.mem_append_right _ (List.mem_append_right _ (List.mem_append_right _ (List.mem_append_right _ (List.mem_append_right _ (List.mem_append_right _ (List.mem_append_right _ (List.mem_append_right _ (List.mem_append_right _ (List.mem_append_right _ (List.mem_append_right _ (List.mem_append_left _ h))))))))))))))), rfl⟩)) rfl
theorem in_s15 {q : MethodName × Nat} (h : q ∈ lw_privs_15) : Cond.selects q.1.cls q.1 q.1 ∈ x_tbl := x_tb (List.mem_append_left _ (List.mem_map.mpr ⟨q, (show q ∈ lw_privs from (List.mem_append_right _ (List.mem_append_right _ (List.mem_append_right _ (List.mem_append_right _ (List.mem_append_right _ (List.mem_append_right _ (List.mem_append_right _ (List.mem_append_right _ (List.mem_append_right _ (List.mem_append_right _ (List.mem_append_right _ (List.mem_append_right _ (List.mem_append_right _ (List.mem_append_right _ h))))))))))))))), rfl⟩)) rfl
set_option maxRecDepth 20000 in
theorem in_X0 : ∀ w ∈ u_ws RX0 TX0 20, w ∈ x_tbl := fun w h => x_tb (x_words (gs := [669, 1, 1, 1, 1, 1, 1, 1, 1, 1, 1, 1, 1, 1, 1, 1, 1, 1, 1, 1]) (by decide +kernel) w h) (List.all_eq_true.mp (show (u_ws RX0 TX0 20).all goodWord = true by decide +kernel) w h)
set_option maxRecDepth 20000 in
theorem in_X1 : ∀ w ∈ u_ws RX1 TX1 5, w ∈ x_tbl := fun w h => x_tb (x_words (gs := [279, 1, 1, 1, 1]) (by decide +kernel) w h) (List.all_eq_true.mp (show (u_ws RX1 TX1 5).all goodWord = true by decide +kernel) w h)
set_option maxRecDepth 20000 in
theorem in_X2 : ∀ w ∈ u_ws RX2 TX2 15, w ∈ x_tbl := fun w h => x_tb (x_words (gs := [507, 1, 1, 1, 1, 1, 1, 1, 1, 1, 1, 1, 1, 1, 1]) (by decide +kernel) w h) (List.all_eq_true.mp (show (u_ws RX2 TX2 15).all goodWord = true by decide +kernel) w h)
set_option maxRecDepth 20000 in
theorem in_X3 : ∀ w ∈ u_ws RX3 TX3 12, w ∈ x_tbl := fun w h => x_tb (x_words (gs := [812, 1, 1, 1, 1, 1, 1, 1, 1, 1, 1, 1]) (by decide +kernel) w h) (List.all_eq_true.mp (show (u_ws RX3 TX3 12).all goodWord = true by decide +kernel) w h)
set_option maxRecDepth 20000 in
theorem in_X4 : ∀ w ∈ u_ws RX4 TX4 20, w ∈ x_tbl := fun w h => x_tb (x_words (gs := [431, 1, 1, 1, 1, 1, 1, 1, 1, 1, 1, 1, 1, 1, 1, 1, 1, 1, 1, 1]) (by decide +kernel) w h) (List.all_eq_true.mp (show (u_ws RX4 TX4 20).all goodWord = true by decide +kernel) w h)
set_option maxRecDepth 20000 in
theorem in_X5 : ∀ w ∈ u_ws RX5 TX5 12, w ∈ x_tbl := fun w h => x_tb (x_words (gs := [585, 1, 1, 1, 1, 1, 1, 1, 1, 1, 1, 1]) (by decide +kernel) w h) (List.all_eq_true.mp (show (u_ws RX5 TX5 12).all goodWord = true by decide +kernel) w h)
set_option maxRecDepth 20000 in
theorem in_X6 : ∀ w ∈ u_ws RX6 TX6 13, w ∈ x_tbl := fun w h => x_tb (x_words (gs := [918, 1, 1, 1, 1, 1, 1, 1, 1, 1, 1, 1, 1]) (by decide +kernel) w h) (List.all_eq_true.mp (show (u_ws RX6 TX6 13).all goodWord = true by decide +kernel) w h)
set_option maxRecDepth 20000 in
theorem in_X7 : ∀ w ∈ u_ws RX7 TX7 8, w ∈ x_tbl := fun w h => x_tb (x_words (gs := [375, 1, 1, 1, 1, 1, 1, 1]) (by decide +kernel) w h) (List.all_eq_true.mp (show (u_ws RX7 TX7 8).all goodWord = true by decide +kernel) w h)
set_option maxRecDepth 20000 in
theorem in_X8 : ∀ w ∈ u_ws RX8 TX8 17, w ∈ x_tbl := fun w h => x_tb (x_words (gs := [312, 1, 1, 1, 1, 1, 1, 1, 1, 1, 1, 1, 1, 1, 1, 1, 1]) (by decide +kernel) w h) (List.all_eq_true.mp (show (u_ws RX8 TX8 17).all goodWord = true by decide +kernel) w h)
set_option maxRecDepth 20000 in
theorem in_X9 : ∀ w ∈ u_ws RX9 TX9 17, w ∈ x_tbl := fun w h => x_tb (x_words (gs := [863, 1, 1, 1, 1, 1, 1, 1, 1, 1, 1, 1, 1, 1, 1, 1, 1]) (by decide +kernel) w h) (List.all_eq_true.mp (show (u_ws RX9 TX9 17).all goodWord = true by decide +kernel) w h)
set_option maxRecDepth 20000 in
theorem in_X10 : ∀ w ∈ u_ws RX10 TX10 21, w ∈ x_tbl := fun w h => x_tb (x_words (gs := [751, 1, 1, 1, 1, 1, 1, 1, 1, 1, 1, 1, 1, 1, 1, 1, 1, 1, 1, 1, 1]) (by decide +kernel) w h) (List.all_eq_true.mp (show (u_ws RX10 TX10 21).all goodWord = true by decide +kernel) w h)
set_option maxRecDepth 20000 in
theorem in_X11 : ∀ w ∈ u_ws RX11 TX11 15, w ∈ x_tbl := fun w h => x_tb (x_words (gs := [1069, 1, 1, 1, 1, 1, 1, 1, 1, 1, 1, 1, 1, 1, 1]) (by decide +kernel) w h) (List.all_eq_true.mp (show (u_ws RX11 TX11 15).all goodWord = true by decide +kernel) w h)
set_option maxRecDepth 20000 in
theorem in_X12 : ∀ w ∈ u_ws RX12 TX12 119, w ∈ x_tbl := fun w h => x_tb (x_words (gs := [2380, 1, 1, 1, 1, 1, 1, 1, 1, 1, 1, 1, 1, 1, 1, 1, 1, 1, 1, 1, 1, 1, 1, 1, 1, 1, 1, 1, 1, 1, 1, 1, 1, 1, 1, 1, 1, 1, 1, 1, 1, 1, 1, 1, 1, 1, 1, 1, 1, 1, 1, 1, 1, 1, 1, 1, 1, 1, 1, 1, 1, 1, 1, 1, 1, 1, 1, 1, 1, 1, 1, 1, 1, 1, 1, 1, 1, 1, 1, 1, 1, 1, 1, 1, 1, 1, 1, 1, 1, 1, 1, 1, 1, 1, 1, 1, 1, 1, 1, 1, 1, 1, 1, 1, 1, 1, 1, 1, 1, 1, 1, 1, 1, 1, 1, 1, 1, 1, 1]) (by decide +kernel) w h) (List.all_eq_true.mp (show (u_ws RX12 TX12 119).all goodWord = true by decide +kernel) w h)
