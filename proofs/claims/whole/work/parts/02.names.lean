-- names of the program (by gen_tabs.py, out of the claim's own names)
def RX0 : String := "PostBus$Fleet"
def RX1 : String := "PostBus$Freight"
def RX2 : String := "PostBus$Reader"
def RX3 : String := "PostBus$Road"
def RX4 : String := "PostBus$Rules"
def RX5 : String := "PostBus$Tape"
def RX6 : String := "PostBus$World"
def RX7 : String := "PostBus"
def RX8 : String := "PostBusModel"
def RL : String := "PostBusLaw"
def RJ0 : String := "java/lang/String"
def RJ1 : String := "java/lang/StringLatin1"
def RJ3 : String := "jdk/internal/util/Preconditions"
def RJ9 : String := "java/lang/Math"
def TX0 : u_T := fun k => match k with
  | 0 => ("PostBus$Fleet", "size", "I", false)
  | 1 => ("PostBus$Fleet", "up", "[Z", true)
  | 2 => ("PostBus$Fleet", "seats", "[I", true)
  | 3 => ("PostBus$Fleet", "room", "[I", true)
  | 4 => ("PostBus$Fleet", "minute", "[I", true)
  | 5 => ("PostBus$Fleet", "state", "[I", true)
  | 6 => ("PostBus$Fleet", "place", "[I", true)
  | 7 => ("PostBus$Fleet", "left", "[I", true)
  | 8 => ("PostBus$Fleet", "people", "[I", true)
  | 9 => ("PostBus$Fleet", "things", "[I", true)
  | 10 => ("PostBus$Fleet", "coins", "[I", true)
  | 11 => ("PostBus$Fleet", "over", "[I", true)
  | _ => ("PostBus$Fleet", "since", "[I", true)
def tyX0 : Nat → FieldType := fun k => match k with
  | 0 => .int
  | 1 => .array .boolean
  | 2 => .array .int
  | 3 => .array .int
  | 4 => .array .int
  | 5 => .array .int
  | 6 => .array .int
  | 7 => .array .int
  | 8 => .array .int
  | 9 => .array .int
  | 10 => .array .int
  | 11 => .array .int
  | _ => .array .int
theorem nmX0 : ∀ a, a < 13 → ∀ b, b < 13 → a ≠ b → (TX0 a).2.1 ≠ (TX0 b).2.1 := by decide +kernel
theorem tyX0_ok : ∀ k, k < 13 → parseFieldDescriptor (TX0 k).2.2.1 = some (tyX0 k) := by decide +kernel
def TX1 : u_T := fun k => match k with
  | 0 => ("PostBus$Freight", "size", "I", false)
  | 1 => ("PostBus$Freight", "kind", "[I", true)
  | 2 => ("PostBus$Freight", "from", "[I", true)
  | 3 => ("PostBus$Freight", "to", "[I", true)
  | 4 => ("PostBus$Freight", "minute", "[I", true)
  | 5 => ("PostBus$Freight", "state", "[I", true)
  | 6 => ("PostBus$Freight", "run", "[I", true)
  | 7 => ("PostBus$Freight", "out", "[I", true)
  | _ => ("PostBus$Freight", "paid", "[I", true)
def tyX1 : Nat → FieldType := fun k => match k with
  | 0 => .int
  | 1 => .array .int
  | 2 => .array .int
  | 3 => .array .int
  | 4 => .array .int
  | 5 => .array .int
  | 6 => .array .int
  | 7 => .array .int
  | _ => .array .int
theorem nmX1 : ∀ a, a < 9 → ∀ b, b < 9 → a ≠ b → (TX1 a).2.1 ≠ (TX1 b).2.1 := by decide +kernel
theorem tyX1_ok : ∀ k, k < 9 → parseFieldDescriptor (TX1 k).2.2.1 = some (tyX1 k) := by decide +kernel
def TX2 : u_T := fun k => match k with
  | 0 => ("PostBus$Reader", "draft", "LPostBus$Rules;", true)
  | 1 => ("PostBus$Reader", "kinds", "[I", true)
  | 2 => ("PostBus$Reader", "numbers", "[I", true)
  | 3 => ("PostBus$Reader", "spots", "[I", true)
  | 4 => ("PostBus$Reader", "tokens", "I", false)
  | _ => ("PostBus$Reader", "next", "I", false)
def tyX2 : Nat → FieldType := fun k => match k with
  | 0 => .object "PostBus$Rules"
  | 1 => .array .int
  | 2 => .array .int
  | 3 => .array .int
  | 4 => .int
  | _ => .int
theorem nmX2 : ∀ a, a < 6 → ∀ b, b < 6 → a ≠ b → (TX2 a).2.1 ≠ (TX2 b).2.1 := by decide +kernel
theorem tyX2_ok : ∀ k, k < 6 → parseFieldDescriptor (TX2 k).2.2.1 = some (tyX2 k) := by decide +kernel
def TX3 : u_T := fun k => match k with
  | 0 => ("PostBus$Road", "places", "I", false)
  | 1 => ("PostBus$Road", "stretchMinutes", "[I", true)
  | 2 => ("PostBus$Road", "passing", "[Z", true)
  | 3 => ("PostBus$Road", "snows", "I", false)
  | 4 => ("PostBus$Road", "snowStretch", "[I", true)
  | 5 => ("PostBus$Road", "snowLow", "[I", true)
  | 6 => ("PostBus$Road", "snowHigh", "[I", true)
  | 7 => ("PostBus$Road", "trainPlace", "[I", true)
  | _ => ("PostBus$Road", "trainMinute", "[I", true)
def tyX3 : Nat → FieldType := fun k => match k with
  | 0 => .int
  | 1 => .array .int
  | 2 => .array .boolean
  | 3 => .int
  | 4 => .array .int
  | 5 => .array .int
  | 6 => .array .int
  | 7 => .array .int
  | _ => .array .int
theorem nmX3 : ∀ a, a < 9 → ∀ b, b < 9 → a ≠ b → (TX3 a).2.1 ≠ (TX3 b).2.1 := by decide +kernel
theorem tyX3_ok : ∀ k, k < 9 → parseFieldDescriptor (TX3 k).2.2.1 = some (tyX3 k) := by decide +kernel
def TX4 : u_T := fun k => match k with
  | 0 => ("PostBus$Rules", "lines", "I", false)
  | 1 => ("PostBus$Rules", "place", "[I", true)
  | 2 => ("PostBus$Rules", "wait", "[I", true)
  | 3 => ("PostBus$Rules", "end", "[I", true)
  | 4 => ("PostBus$Rules", "steps", "[I", true)
  | _ => ("PostBus$Rules", "size", "I", false)
def tyX4 : Nat → FieldType := fun k => match k with
  | 0 => .int
  | 1 => .array .int
  | 2 => .array .int
  | 3 => .array .int
  | 4 => .array .int
  | _ => .int
theorem nmX4 : ∀ a, a < 6 → ∀ b, b < 6 → a ≠ b → (TX4 a).2.1 ≠ (TX4 b).2.1 := by decide +kernel
theorem tyX4_ok : ∀ k, k < 6 → parseFieldDescriptor (TX4 k).2.2.1 = some (tyX4 k) := by decide +kernel
def TX5 : u_T := fun k => match k with
  | 0 => ("PostBus$Tape", "signs", "[C", true)
  | _ => ("PostBus$Tape", "length", "I", false)
def tyX5 : Nat → FieldType := fun k => match k with
  | 0 => .array .char
  | _ => .int
theorem nmX5 : ∀ a, a < 2 → ∀ b, b < 2 → a ≠ b → (TX5 a).2.1 ≠ (TX5 b).2.1 := by decide +kernel
theorem tyX5_ok : ∀ k, k < 2 → parseFieldDescriptor (TX5 k).2.2.1 = some (tyX5 k) := by decide +kernel
def TX6 : u_T := fun k => match k with
  | 0 => ("PostBus$World", "road", "LPostBus$Road;", true)
  | 1 => ("PostBus$World", "rules", "LPostBus$Rules;", true)
  | 2 => ("PostBus$World", "fleet", "LPostBus$Fleet;", true)
  | 3 => ("PostBus$World", "freight", "LPostBus$Freight;", true)
  | 4 => ("PostBus$World", "stack", "[I", true)
  | _ => ("PostBus$World", "now", "I", false)
def tyX6 : Nat → FieldType := fun k => match k with
  | 0 => .object "PostBus$Road"
  | 1 => .object "PostBus$Rules"
  | 2 => .object "PostBus$Fleet"
  | 3 => .object "PostBus$Freight"
  | 4 => .array .int
  | _ => .int
theorem nmX6 : ∀ a, a < 6 → ∀ b, b < 6 → a ≠ b → (TX6 a).2.1 ≠ (TX6 b).2.1 := by decide +kernel
theorem tyX6_ok : ∀ k, k < 6 → parseFieldDescriptor (TX6 k).2.2.1 = some (tyX6 k) := by decide +kernel
def TX7 : u_T := fun k => match k with
  | 0 => ("PostBus", "road", "LPostBus$Road;", true)
  | 1 => ("PostBus", "tape", "LPostBus$Tape;", true)
  | 2 => ("PostBus", "rules", "LPostBus$Rules;", true)
  | 3 => ("PostBus", "reader", "LPostBus$Reader;", true)
  | 4 => ("PostBus", "world", "LPostBus$World;", true)
  | 5 => ("PostBus", "eve", "LPostBus$World;", true)
  | 6 => ("PostBus", "trial", "LPostBus$World;", true)
  | _ => ("PostBus", "minutesOnTheWay", "I", false)
def tyX7 : Nat → FieldType := fun k => match k with
  | 0 => .object "PostBus$Road"
  | 1 => .object "PostBus$Tape"
  | 2 => .object "PostBus$Rules"
  | 3 => .object "PostBus$Reader"
  | 4 => .object "PostBus$World"
  | 5 => .object "PostBus$World"
  | 6 => .object "PostBus$World"
  | _ => .int
theorem nmX7 : ∀ a, a < 8 → ∀ b, b < 8 → a ≠ b → (TX7 a).2.1 ≠ (TX7 b).2.1 := by decide +kernel
theorem tyX7_ok : ∀ k, k < 8 → parseFieldDescriptor (TX7 k).2.2.1 = some (tyX7 k) := by decide +kernel
def TX8 : u_T := fun k => match k with
  | 0 => ("PostBusModel", "thrown", "I", false)
  | 1 => ("PostBusModel", "tape", "[I", true)
  | 2 => ("PostBusModel", "taped", "I", false)
  | 3 => ("PostBusModel", "size", "I", false)
  | 4 => ("PostBusModel", "sort", "[I", true)
  | 5 => ("PostBusModel", "place", "[I", true)
  | 6 => ("PostBusModel", "value", "[J", true)
  | 7 => ("PostBusModel", "at", "I", false)
  | 8 => ("PostBusModel", "fault", "I", false)
  | 9 => ("PostBusModel", "words", "[J", true)
  | 10 => ("PostBusModel", "places", "I", false)
  | 11 => ("PostBusModel", "wide", "[I", true)
  | 12 => ("PostBusModel", "isPassing", "[Z", true)
  | 13 => ("PostBusModel", "runs", "I", false)
  | 14 => ("PostBusModel", "isUp", "[Z", true)
  | 15 => ("PostBusModel", "begins", "[I", true)
  | 16 => ("PostBusModel", "seats", "[I", true)
  | 17 => ("PostBusModel", "room", "[I", true)
  | 18 => ("PostBusModel", "loads", "I", false)
  | 19 => ("PostBusModel", "kind", "[I", true)
  | 20 => ("PostBusModel", "from", "[I", true)
  | 21 => ("PostBusModel", "to", "[I", true)
  | 22 => ("PostBusModel", "since", "[I", true)
  | 23 => ("PostBusModel", "now", "I", false)
  | 24 => ("PostBusModel", "row", "[I", true)
  | 25 => ("PostBusModel", "kept", "[I", true)
  | 26 => ("PostBusModel", "trainPlace", "[I", true)
  | 27 => ("PostBusModel", "trainMinute", "[I", true)
  | 28 => ("PostBusModel", "snows", "I", false)
  | 29 => ("PostBusModel", "snowStretch", "[I", true)
  | 30 => ("PostBusModel", "snowLow", "[I", true)
  | 31 => ("PostBusModel", "snowHigh", "[I", true)
  | 32 => ("PostBusModel", "lines", "[I", true)
  | 33 => ("PostBusModel", "linePlace", "[I", true)
  | 34 => ("PostBusModel", "lineWait", "[I", true)
  | 35 => ("PostBusModel", "lineAt", "[I", true)
  | 36 => ("PostBusModel", "op", "[I", true)
  | 37 => ("PostBusModel", "one", "[I", true)
  | 38 => ("PostBusModel", "holds", "I", false)
  | 39 => ("PostBusModel", "next", "I", false)
  | 40 => ("PostBusModel", "codes", "I", false)
  | 41 => ("PostBusModel", "deep", "I", false)
  | 42 => ("PostBusModel", "sumWaits", "[I", true)
  | 43 => ("PostBusModel", "signWaits", "[I", true)
  | 44 => ("PostBusModel", "andWaits", "[I", true)
  | 45 => ("PostBusModel", "pile", "[I", true)
  | _ => ("PostBusModel", "latest", "I", false)
def tyX8 : Nat → FieldType := fun k => match k with
  | 0 => .int
  | 1 => .array .int
  | 2 => .int
  | 3 => .int
  | 4 => .array .int
  | 5 => .array .int
  | 6 => .array .long
  | 7 => .int
  | 8 => .int
  | 9 => .array .long
  | 10 => .int
  | 11 => .array .int
  | 12 => .array .boolean
  | 13 => .int
  | 14 => .array .boolean
  | 15 => .array .int
  | 16 => .array .int
  | 17 => .array .int
  | 18 => .int
  | 19 => .array .int
  | 20 => .array .int
  | 21 => .array .int
  | 22 => .array .int
  | 23 => .int
  | 24 => .array .int
  | 25 => .array .int
  | 26 => .array .int
  | 27 => .array .int
  | 28 => .int
  | 29 => .array .int
  | 30 => .array .int
  | 31 => .array .int
  | 32 => .array .int
  | 33 => .array .int
  | 34 => .array .int
  | 35 => .array .int
  | 36 => .array .int
  | 37 => .array .int
  | 38 => .int
  | 39 => .int
  | 40 => .int
  | 41 => .int
  | 42 => .array .int
  | 43 => .array .int
  | 44 => .array .int
  | 45 => .array .int
  | _ => .int
theorem nmX8 : ∀ a, a < 47 → ∀ b, b < 47 → a ≠ b → (TX8 a).2.1 ≠ (TX8 b).2.1 := by decide +kernel
theorem tyX8_ok : ∀ k, k < 47 → parseFieldDescriptor (TX8 k).2.2.1 = some (tyX8 k) := by decide +kernel
abbrev vwCl : List vw_C := [(RX0, TX0, 13), (RX1, TX1, 9), (RX2, TX2, 6), (RX3, TX3, 9), (RX4, TX4, 6), (RX5, TX5, 2), (RX6, TX6, 6), (RX7, TX7, 8), (RX8, TX8, 47)]
