/-! classes, fields: out of the printed names -/
def RX0 : String := "WreckSky$Foresight"
def TX0 : u_T := fun k => match k with
  | 0 => ("WreckSky$Foresight", "then", "LWreckSky$Sky;", true)
  | 1 => ("WreckSky$Foresight", "blocked", "[I", true)
  | 2 => ("WreckSky$Foresight", "sums", "[I", true)
  | 3 => ("WreckSky$Foresight", "chosen", "I", false)
  | _ => ("WreckSky$Foresight", "amount", "I", false)
def tyX0 : Nat → FieldType := fun k => match k with
  | 0 => .object "WreckSky$Sky"
  | 1 => .array .int
  | 2 => .array .int
  | 3 => .int
  | _ => .int
theorem nmX0 : ∀ a, a < 5 → ∀ b, b < 5 → a ≠ b → (TX0 a).2.1 ≠ (TX0 b).2.1 := by decide +kernel
theorem tyX0_ok : ∀ k, k < 5 → parseFieldDescriptor (TX0 k).2.2.1 = some (tyX0 k) := by decide +kernel
def RX1 : String := "WreckSky$Reader"
def TX1 : u_T := fun k => match k with
  | 0 => ("WreckSky$Reader", "tape", "LWreckSky$Tape;", true)
  | 1 => ("WreckSky$Reader", "row", "[I", true)
  | 2 => ("WreckSky$Reader", "rowLength", "I", false)
  | 3 => ("WreckSky$Reader", "operands", "I", false)
  | 4 => ("WreckSky$Reader", "names", "Ljava/lang/String;", false)
  | 5 => ("WreckSky$Reader", "sort", "I", false)
  | 6 => ("WreckSky$Reader", "start", "I", false)
  | 7 => ("WreckSky$Reader", "end", "I", false)
  | 8 => ("WreckSky$Reader", "glued", "Z", false)
  | _ => ("WreckSky$Reader", "fault", "I", false)
def tyX1 : Nat → FieldType := fun k => match k with
  | 0 => .object "WreckSky$Tape"
  | 1 => .array .int
  | 2 => .int
  | 3 => .int
  | 4 => .object "java/lang/String"
  | 5 => .int
  | 6 => .int
  | 7 => .int
  | 8 => .boolean
  | _ => .int
theorem nmX1 : ∀ a, a < 10 → ∀ b, b < 10 → a ≠ b → (TX1 a).2.1 ≠ (TX1 b).2.1 := by decide +kernel
theorem tyX1_ok : ∀ k, k < 10 → parseFieldDescriptor (TX1 k).2.2.1 = some (tyX1 k) := by decide +kernel
def RX2 : String := "WreckSky$Sheet"
def TX2 : u_T := fun k => match k with
  | 0 => ("WreckSky$Sheet", "cells", "[I", true)
  | 1 => ("WreckSky$Sheet", "sort", "I", false)
  | _ => ("WreckSky$Sheet", "size", "I", false)
def tyX2 : Nat → FieldType := fun k => match k with
  | 0 => .array .int
  | 1 => .int
  | _ => .int
theorem nmX2 : ∀ a, a < 3 → ∀ b, b < 3 → a ≠ b → (TX2 a).2.1 ≠ (TX2 b).2.1 := by decide +kernel
theorem tyX2_ok : ∀ k, k < 3 → parseFieldDescriptor (TX2 k).2.2.1 = some (tyX2 k) := by decide +kernel
def RX3 : String := "WreckSky$Sky"
def TX3 : u_T := fun k => match k with
  | 0 => ("WreckSky$Sky", "wrecks", "[LWreckSky$Wreck;", true)
  | 1 => ("WreckSky$Sky", "texts", "[LWreckSky$Text;", true)
  | 2 => ("WreckSky$Sky", "stack", "[I", true)
  | 3 => ("WreckSky$Sky", "wreckCount", "I", false)
  | 4 => ("WreckSky$Sky", "textCount", "I", false)
  | 5 => ("WreckSky$Sky", "drag", "I", false)
  | 6 => ("WreckSky$Sky", "broken", "I", false)
  | 7 => ("WreckSky$Sky", "burnt", "I", false)
  | 8 => ("WreckSky$Sky", "swept", "I", false)
  | 9 => ("WreckSky$Sky", "hour", "I", false)
  | _ => ("WreckSky$Sky", "z", "I", false)
def tyX3 : Nat → FieldType := fun k => match k with
  | 0 => .array (.object "WreckSky$Wreck")
  | 1 => .array (.object "WreckSky$Text")
  | 2 => .array .int
  | 3 => .int
  | 4 => .int
  | 5 => .int
  | 6 => .int
  | 7 => .int
  | 8 => .int
  | 9 => .int
  | _ => .int
theorem nmX3 : ∀ a, a < 11 → ∀ b, b < 11 → a ≠ b → (TX3 a).2.1 ≠ (TX3 b).2.1 := by decide +kernel
theorem tyX3_ok : ∀ k, k < 11 → parseFieldDescriptor (TX3 k).2.2.1 = some (tyX3 k) := by decide +kernel
def RX4 : String := "WreckSky$Slot"
def TX4 : u_T := fun k => match k with
  | 0 => ("WreckSky$Slot", "wreck", "LWreckSky$Wreck;", true)
  | 1 => ("WreckSky$Slot", "sheet", "LWreckSky$Sheet;", true)
  | 2 => ("WreckSky$Slot", "number", "I", false)
  | _ => ("WreckSky$Slot", "thing", "I", false)
def tyX4 : Nat → FieldType := fun k => match k with
  | 0 => .object "WreckSky$Wreck"
  | 1 => .object "WreckSky$Sheet"
  | 2 => .int
  | _ => .int
theorem nmX4 : ∀ a, a < 4 → ∀ b, b < 4 → a ≠ b → (TX4 a).2.1 ≠ (TX4 b).2.1 := by decide +kernel
theorem tyX4_ok : ∀ k, k < 4 → parseFieldDescriptor (TX4 k).2.2.1 = some (tyX4 k) := by decide +kernel
def RX5 : String := "WreckSky$Tape"
def TX5 : u_T := fun k => match k with
  | 0 => ("WreckSky$Tape", "bytes", "[I", true)
  | _ => ("WreckSky$Tape", "length", "I", false)
def tyX5 : Nat → FieldType := fun k => match k with
  | 0 => .array .int
  | _ => .int
theorem nmX5 : ∀ a, a < 2 → ∀ b, b < 2 → a ≠ b → (TX5 a).2.1 ≠ (TX5 b).2.1 := by decide +kernel
theorem tyX5_ok : ∀ k, k < 2 → parseFieldDescriptor (TX5 k).2.2.1 = some (tyX5 k) := by decide +kernel
def RX6 : String := "WreckSky$Text"
def TX6 : u_T := fun k => match k with
  | 0 => ("WreckSky$Text", "key", "I", true)
  | 1 => ("WreckSky$Text", "operands", "I", true)
  | _ => ("WreckSky$Text", "row", "[I", true)
def tyX6 : Nat → FieldType := fun k => match k with
  | 0 => .int
  | 1 => .int
  | _ => .array .int
theorem nmX6 : ∀ a, a < 3 → ∀ b, b < 3 → a ≠ b → (TX6 a).2.1 ≠ (TX6 b).2.1 := by decide +kernel
theorem tyX6_ok : ∀ k, k < 3 → parseFieldDescriptor (TX6 k).2.2.1 = some (tyX6 k) := by decide +kernel
def RX7 : String := "WreckSky$Wreck"
def TX7 : u_T := fun k => match k with
  | 0 => ("WreckSky$Wreck", "kind", "I", false)
  | 1 => ("WreckSky$Wreck", "height", "I", false)
  | 2 => ("WreckSky$Wreck", "place", "I", false)
  | 3 => ("WreckSky$Wreck", "pace", "I", false)
  | 4 => ("WreckSky$Wreck", "mass", "I", false)
  | _ => ("WreckSky$Wreck", "up", "Z", false)
def tyX7 : Nat → FieldType := fun k => match k with
  | 0 => .int
  | 1 => .int
  | 2 => .int
  | 3 => .int
  | 4 => .int
  | _ => .boolean
theorem nmX7 : ∀ a, a < 6 → ∀ b, b < 6 → a ≠ b → (TX7 a).2.1 ≠ (TX7 b).2.1 := by decide +kernel
theorem tyX7_ok : ∀ k, k < 6 → parseFieldDescriptor (TX7 k).2.2.1 = some (tyX7 k) := by decide +kernel
def RX8 : String := "WreckSky"
def TX8 : u_T := fun k => match k with
  | 0 => ("WreckSky", "now", "LWreckSky$Sky;", true)
  | 1 => ("WreckSky", "image", "LWreckSky$Sky;", true)
  | 2 => ("WreckSky", "foresight", "LWreckSky$Foresight;", true)
  | 3 => ("WreckSky", "tape", "LWreckSky$Tape;", true)
  | 4 => ("WreckSky", "reader", "LWreckSky$Reader;", true)
  | 5 => ("WreckSky", "sheets", "[LWreckSky$Sheet;", true)
  | 6 => ("WreckSky", "slots", "[LWreckSky$Slot;", true)
  | 7 => ("WreckSky", "waiting", "[I", true)
  | 8 => ("WreckSky", "waitingCount", "I", false)
  | _ => ("WreckSky", "hasImage", "Z", false)
def tyX8 : Nat → FieldType := fun k => match k with
  | 0 => .object "WreckSky$Sky"
  | 1 => .object "WreckSky$Sky"
  | 2 => .object "WreckSky$Foresight"
  | 3 => .object "WreckSky$Tape"
  | 4 => .object "WreckSky$Reader"
  | 5 => .array (.object "WreckSky$Sheet")
  | 6 => .array (.object "WreckSky$Slot")
  | 7 => .array .int
  | 8 => .int
  | _ => .boolean
theorem nmX8 : ∀ a, a < 10 → ∀ b, b < 10 → a ≠ b → (TX8 a).2.1 ≠ (TX8 b).2.1 := by decide +kernel
theorem tyX8_ok : ∀ k, k < 10 → parseFieldDescriptor (TX8 k).2.2.1 = some (tyX8 k) := by decide +kernel
def RX9 : String := "WreckSkyModel"
def TX9 : u_T := fun k => match k with
  | 0 => ("WreckSkyModel", "now", "[I", true)
  | 1 => ("WreckSkyModel", "image", "[I", true)
  | 2 => ("WreckSkyModel", "aside", "[I", true)
  | 3 => ("WreckSkyModel", "hasImage", "Z", false)
  | 4 => ("WreckSkyModel", "before", "[I", true)
  | 5 => ("WreckSkyModel", "over", "[I", true)
  | 6 => ("WreckSkyModel", "hoursOver", "[I", true)
  | 7 => ("WreckSkyModel", "differ", "[I", true)
  | 8 => ("WreckSkyModel", "tape", "[I", true)
  | 9 => ("WreckSkyModel", "taped", "I", false)
  | 10 => ("WreckSkyModel", "next", "I", false)
  | 11 => ("WreckSkyModel", "from", "I", false)
  | 12 => ("WreckSkyModel", "token", "I", false)
  | 13 => ("WreckSkyModel", "value", "I", false)
  | 14 => ("WreckSkyModel", "ended", "I", false)
  | 15 => ("WreckSkyModel", "key", "I", false)
  | 16 => ("WreckSkyModel", "keys", "[C", true)
  | 17 => ("WreckSkyModel", "keyAt", "[I", true)
  | 18 => ("WreckSkyModel", "code", "[I", true)
  | 19 => ("WreckSkyModel", "codes", "I", false)
  | 20 => ("WreckSkyModel", "atoms", "I", false)
  | 21 => ("WreckSkyModel", "waits", "[I", true)
  | 22 => ("WreckSkyModel", "held", "I", false)
  | 23 => ("WreckSkyModel", "tested", "[Z", true)
  | 24 => ("WreckSkyModel", "stack", "[I", true)
  | 25 => ("WreckSkyModel", "facts", "[I", true)
  | 26 => ("WreckSkyModel", "sorts", "[I", true)
  | 27 => ("WreckSkyModel", "sizes", "[I", true)
  | 28 => ("WreckSkyModel", "cells", "[I", true)
  | 29 => ("WreckSkyModel", "holds", "[I", true)
  | 30 => ("WreckSkyModel", "holdsA", "[I", true)
  | 31 => ("WreckSkyModel", "holdsB", "[I", true)
  | 32 => ("WreckSkyModel", "heldCells", "[I", true)
  | 33 => ("WreckSkyModel", "moved", "[I", true)
  | 34 => ("WreckSkyModel", "tells", "[I", true)
  | _ => ("WreckSkyModel", "waiting", "I", false)
def tyX9 : Nat → FieldType := fun k => match k with
  | 0 => .array .int
  | 1 => .array .int
  | 2 => .array .int
  | 3 => .boolean
  | 4 => .array .int
  | 5 => .array .int
  | 6 => .array .int
  | 7 => .array .int
  | 8 => .array .int
  | 9 => .int
  | 10 => .int
  | 11 => .int
  | 12 => .int
  | 13 => .int
  | 14 => .int
  | 15 => .int
  | 16 => .array .char
  | 17 => .array .int
  | 18 => .array .int
  | 19 => .int
  | 20 => .int
  | 21 => .array .int
  | 22 => .int
  | 23 => .array .boolean
  | 24 => .array .int
  | 25 => .array .int
  | 26 => .array .int
  | 27 => .array .int
  | 28 => .array .int
  | 29 => .array .int
  | 30 => .array .int
  | 31 => .array .int
  | 32 => .array .int
  | 33 => .array .int
  | 34 => .array .int
  | _ => .int
theorem nmX9 : ∀ a, a < 36 → ∀ b, b < 36 → a ≠ b → (TX9 a).2.1 ≠ (TX9 b).2.1 := by decide +kernel
theorem tyX9_ok : ∀ k, k < 36 → parseFieldDescriptor (TX9 k).2.2.1 = some (tyX9 k) := by decide +kernel
abbrev vwCl : List vw_C := [(RX0, TX0, 5), (RX1, TX1, 10), (RX2, TX2, 3), (RX3, TX3, 11), (RX4, TX4, 4), (RX5, TX5, 2), (RX6, TX6, 3), (RX7, TX7, 6), (RX8, TX8, 10), (RX9, TX9, 36)]
