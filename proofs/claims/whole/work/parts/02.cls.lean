def RX0 : String := "MainsLetters$Contention"
def TX0 : u_T := fun k => match k with
  | 0 => ("MainsLetters$Contention", "wire", "LMainsLetters$Wire;", true)
  | 1 => ("MainsLetters$Contention", "stations", "[LMainsLetters$Station;", true)
  | 2 => ("MainsLetters$Contention", "seedNow", "I", false)
  | 3 => ("MainsLetters$Contention", "slots", "I", false)
  | 4 => ("MainsLetters$Contention", "arrived", "I", false)
  | 5 => ("MainsLetters$Contention", "dropped", "I", false)
  | _ => ("MainsLetters$Contention", "collided", "I", false)
def tyX0 : Nat → FieldType := fun k => match k with
  | 0 => .object "MainsLetters$Wire"
  | 1 => .array (.object "MainsLetters$Station")
  | 2 => .int
  | 3 => .int
  | 4 => .int
  | 5 => .int
  | _ => .int
abbrev wsX00 : List Cond := u_ws RX0 TX0 7
theorem nmX0 : ∀ a, a < 7 → ∀ b, b < 7 → a ≠ b → (TX0 a).2.1 ≠ (TX0 b).2.1 := by decide +kernel
theorem tyX0_ok : ∀ k, k < 7 → parseFieldDescriptor (TX0 k).2.2.1 = some (tyX0 k) := by decide +kernel
def RX2 : String := "MainsLetters$Flow"
def TX2 : u_T := fun k => match k with
  | 0 => ("MainsLetters$Flow", "seedNow", "I", false)
  | 1 => ("MainsLetters$Flow", "all", "I", false)
  | 2 => ("MainsLetters$Flow", "taken", "I", false)
  | 3 => ("MainsLetters$Flow", "answered", "I", false)
  | 4 => ("MainsLetters$Flow", "frames", "I", false)
  | 5 => ("MainsLetters$Flow", "partsSent", "I", false)
  | 6 => ("MainsLetters$Flow", "doubles", "I", false)
  | _ => ("MainsLetters$Flow", "ahead", "I", false)
def tyX2 : Nat → FieldType := fun k => match k with
  | 0 => .int
  | 1 => .int
  | 2 => .int
  | 3 => .int
  | 4 => .int
  | 5 => .int
  | 6 => .int
  | _ => .int
abbrev wsX20 : List Cond := u_ws RX2 TX2 8
theorem nmX2 : ∀ a, a < 8 → ∀ b, b < 8 → a ≠ b → (TX2 a).2.1 ≠ (TX2 b).2.1 := by decide +kernel
theorem tyX2_ok : ∀ k, k < 8 → parseFieldDescriptor (TX2 k).2.2.1 = some (tyX2 k) := by decide +kernel
def RX3 : String := "MainsLetters$Networks"
def TX3 : u_T := fun k => match k with
  | 0 => ("MainsLetters$Networks", "wire", "LMainsLetters$Wire;", true)
  | 1 => ("MainsLetters$Networks", "disturbed", "[I", true)
  | _ => ("MainsLetters$Networks", "turns", "[I", true)
def tyX3 : Nat → FieldType := fun k => match k with
  | 0 => .object "MainsLetters$Wire"
  | 1 => .array .int
  | _ => .array .int
abbrev wsX30 : List Cond := u_ws RX3 TX3 3
theorem nmX3 : ∀ a, a < 3 → ∀ b, b < 3 → a ≠ b → (TX3 a).2.1 ≠ (TX3 b).2.1 := by decide +kernel
theorem tyX3_ok : ∀ k, k < 3 → parseFieldDescriptor (TX3 k).2.2.1 = some (tyX3 k) := by decide +kernel
def RX5 : String := "MainsLetters$Station"
def TX5 : u_T := fun k => match k with
  | 0 => ("MainsLetters$Station", "phase", "I", false)
  | 1 => ("MainsLetters$Station", "to", "I", false)
  | 2 => ("MainsLetters$Station", "rank", "I", false)
  | 3 => ("MainsLetters$Station", "bytes", "I", false)
  | 4 => ("MainsLetters$Station", "stage", "I", false)
  | 5 => ("MainsLetters$Station", "count", "I", false)
  | 6 => ("MainsLetters$Station", "defer", "I", false)
  | 7 => ("MainsLetters$Station", "slotsToGo", "I", false)
  | 8 => ("MainsLetters$Station", "spoilt", "Z", false)
  | 9 => ("MainsLetters$Station", "arrived", "I", false)
  | 10 => ("MainsLetters$Station", "collided", "I", false)
  | _ => ("MainsLetters$Station", "came", "I", false)
def tyX5 : Nat → FieldType := fun k => match k with
  | 0 => .int
  | 1 => .int
  | 2 => .int
  | 3 => .int
  | 4 => .int
  | 5 => .int
  | 6 => .int
  | 7 => .int
  | 8 => .boolean
  | 9 => .int
  | 10 => .int
  | _ => .int
abbrev wsX50 : List Cond := u_ws RX5 TX5 12
theorem nmX5 : ∀ a, a < 12 → ∀ b, b < 12 → a ≠ b → (TX5 a).2.1 ≠ (TX5 b).2.1 := by decide +kernel
theorem tyX5_ok : ∀ k, k < 12 → parseFieldDescriptor (TX5 k).2.2.1 = some (tyX5 k) := by decide +kernel
def RX6 : String := "MainsLetters$Ways"
def TX6 : u_T := fun k => match k with
  | 0 => ("MainsLetters$Ways", "wire", "LMainsLetters$Wire;", true)
  | 1 => ("MainsLetters$Ways", "costs", "[I", true)
  | 2 => ("MainsLetters$Ways", "distances", "[I", true)
  | 3 => ("MainsLetters$Ways", "best", "[I", true)
  | 4 => ("MainsLetters$Ways", "bestStations", "I", false)
  | _ => ("MainsLetters$Ways", "bestSymbols", "I", false)
def tyX6 : Nat → FieldType := fun k => match k with
  | 0 => .object "MainsLetters$Wire"
  | 1 => .array .int
  | 2 => .array .int
  | 3 => .array .int
  | 4 => .int
  | _ => .int
abbrev wsX60 : List Cond := u_ws RX6 TX6 6
theorem nmX6 : ∀ a, a < 6 → ∀ b, b < 6 → a ≠ b → (TX6 a).2.1 ≠ (TX6 b).2.1 := by decide +kernel
theorem tyX6_ok : ∀ k, k < 6 → parseFieldDescriptor (TX6 k).2.2.1 = some (tyX6 k) := by decide +kernel
def RX7 : String := "MainsLetters$Wire"
def TX7 : u_T := fun k => match k with
  | 0 => ("MainsLetters$Wire", "losses", "[I", true)
  | 1 => ("MainsLetters$Wire", "noises", "[I", true)
  | 2 => ("MainsLetters$Wire", "keys", "[I", true)
  | 3 => ("MainsLetters$Wire", "speeds", "[I", true)
  | 4 => ("MainsLetters$Wire", "heard", "[I", true)
  | _ => ("MainsLetters$Wire", "spare", "I", false)
def tyX7 : Nat → FieldType := fun k => match k with
  | 0 => .array .int
  | 1 => .array .int
  | 2 => .array .int
  | 3 => .array .int
  | 4 => .array .int
  | _ => .int
abbrev wsX70 : List Cond := u_ws RX7 TX7 6
theorem nmX7 : ∀ a, a < 6 → ∀ b, b < 6 → a ≠ b → (TX7 a).2.1 ≠ (TX7 b).2.1 := by decide +kernel
theorem tyX7_ok : ∀ k, k < 6 → parseFieldDescriptor (TX7 k).2.2.1 = some (tyX7 k) := by decide +kernel
def RX8 : String := "MainsLetters"
def TX8 : u_T := fun k => match k with
  | 0 => ("MainsLetters", "wire", "LMainsLetters$Wire;", true)
  | 1 => ("MainsLetters", "ways", "LMainsLetters$Ways;", true)
  | 2 => ("MainsLetters", "contention", "LMainsLetters$Contention;", true)
  | 3 => ("MainsLetters", "parts", "LMainsLetters$Flow;", true)
  | _ => ("MainsLetters", "networks", "LMainsLetters$Networks;", true)
def tyX8 : Nat → FieldType := fun k => match k with
  | 0 => .object "MainsLetters$Wire"
  | 1 => .object "MainsLetters$Ways"
  | 2 => .object "MainsLetters$Contention"
  | 3 => .object "MainsLetters$Flow"
  | _ => .object "MainsLetters$Networks"
abbrev wsX80 : List Cond := u_ws RX8 TX8 5
theorem nmX8 : ∀ a, a < 5 → ∀ b, b < 5 → a ≠ b → (TX8 a).2.1 ≠ (TX8 b).2.1 := by decide +kernel
theorem tyX8_ok : ∀ k, k < 5 → parseFieldDescriptor (TX8 k).2.2.1 = some (tyX8 k) := by decide +kernel
def RX9 : String := "MainsLettersModel"
def TX9 : u_T := fun k => match k with
  | 0 => ("MainsLettersModel", "lossOf", "[I", true)
  | 1 => ("MainsLettersModel", "noiseOf", "[I", true)
  | 2 => ("MainsLettersModel", "keyOf", "[I", true)
  | 3 => ("MainsLettersModel", "marginNow", "I", false)
  | 4 => ("MainsLettersModel", "costOf", "[I", true)
  | 5 => ("MainsLettersModel", "hopOf", "[I", true)
  | 6 => ("MainsLettersModel", "seedNow", "I", false)
  | 7 => ("MainsLettersModel", "isOf", "[I", true)
  | 8 => ("MainsLettersModel", "toOf", "[I", true)
  | 9 => ("MainsLettersModel", "classOf", "[I", true)
  | 10 => ("MainsLettersModel", "bytesOf", "[I", true)
  | 11 => ("MainsLettersModel", "stageOf", "[I", true)
  | 12 => ("MainsLettersModel", "countOf", "[I", true)
  | 13 => ("MainsLettersModel", "deferOf", "[I", true)
  | 14 => ("MainsLettersModel", "goOf", "[I", true)
  | 15 => ("MainsLettersModel", "isSpoilt", "[Z", true)
  | 16 => ("MainsLettersModel", "arrivedOf", "[I", true)
  | 17 => ("MainsLettersModel", "collidedOf", "[I", true)
  | 18 => ("MainsLettersModel", "cameTo", "[I", true)
  | 19 => ("MainsLettersModel", "slots", "I", false)
  | 20 => ("MainsLettersModel", "dropped", "I", false)
  | 21 => ("MainsLettersModel", "flowSeed", "I", false)
  | 22 => ("MainsLettersModel", "flowFrames", "I", false)
  | 23 => ("MainsLettersModel", "flowSent", "I", false)
  | 24 => ("MainsLettersModel", "flowDoubles", "I", false)
  | 25 => ("MainsLettersModel", "flowAhead", "I", false)
  | 26 => ("MainsLettersModel", "taken", "I", false)
  | 27 => ("MainsLettersModel", "answered", "I", false)
  | 28 => ("MainsLettersModel", "networks", "I", false)
  | 29 => ("MainsLettersModel", "network", "[I", true)
  | 30 => ("MainsLettersModel", "disturbOf", "[I", true)
  | _ => ("MainsLettersModel", "turnOf", "[I", true)
def tyX9 : Nat → FieldType := fun k => match k with
  | 0 => .array .int
  | 1 => .array .int
  | 2 => .array .int
  | 3 => .int
  | 4 => .array .int
  | 5 => .array .int
  | 6 => .int
  | 7 => .array .int
  | 8 => .array .int
  | 9 => .array .int
  | 10 => .array .int
  | 11 => .array .int
  | 12 => .array .int
  | 13 => .array .int
  | 14 => .array .int
  | 15 => .array .boolean
  | 16 => .array .int
  | 17 => .array .int
  | 18 => .array .int
  | 19 => .int
  | 20 => .int
  | 21 => .int
  | 22 => .int
  | 23 => .int
  | 24 => .int
  | 25 => .int
  | 26 => .int
  | 27 => .int
  | 28 => .int
  | 29 => .array .int
  | 30 => .array .int
  | _ => .array .int
abbrev wsX90 : List Cond := u_ws RX9 TX9 32
theorem nmX9 : ∀ a, a < 32 → ∀ b, b < 32 → a ≠ b → (TX9 a).2.1 ≠ (TX9 b).2.1 := by decide +kernel
theorem tyX9_ok : ∀ k, k < 32 → parseFieldDescriptor (TX9 k).2.2.1 = some (tyX9 k) := by decide +kernel
abbrev vwCl : List vw_C := [(RX0, TX0, 7), (RX2, TX2, 8), (RX3, TX3, 3), (RX5, TX5, 12), (RX6, TX6, 6), (RX7, TX7, 6), (RX8, TX8, 5), (RX9, TX9, 32)]
