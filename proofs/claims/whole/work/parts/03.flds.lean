/-! names of the classes and their fields (out of the printed names) -/
def RX0 : String := "CirclePacker$1"
def RX1 : String := "CirclePacker$History"
def RX2 : String := "CirclePacker$Layout"
def RX3 : String := "CirclePacker$Net"
def RX4 : String := "CirclePacker$NetReader"
def RX5 : String := "CirclePacker$Packing"
def RX6 : String := "CirclePacker$Page"
def RX7 : String := "CirclePacker$Script"
def RX8 : String := "CirclePacker$Solver"
def RX9 : String := "CirclePacker$Text"
def RX10 : String := "CirclePacker$Tokens"
def RX11 : String := "CirclePacker$Word"
def RX12 : String := "CirclePacker"
def RX13 : String := "CirclePackerModel"
def TX0 : u_T := fun k => match k with
  | _ => ("", "", "", false)
def tyX0 : Nat → FieldType := fun k => match k with
  | _ => .int
abbrev wsX00 : List Cond := u_ws RX0 TX0 0
theorem nmX0 : ∀ a, a < 0 → ∀ b, b < 0 → a ≠ b → (TX0 a).2.1 ≠ (TX0 b).2.1 := by decide +kernel
theorem tyX0_ok : ∀ k, k < 0 → parseFieldDescriptor (TX0 k).2.2.1 = some (tyX0 k) := by decide +kernel
def TX1 : u_T := fun k => match k with
  | 0 => ("CirclePacker$History", "slots", "[LCirclePacker$Packing;", true)
  | 1 => ("CirclePacker$History", "next", "I", false)
  | _ => ("CirclePacker$History", "size", "I", false)
def tyX1 : Nat → FieldType := fun k => match k with
  | 0 => .array (.object "CirclePacker$Packing")
  | 1 => .int
  | _ => .int
abbrev wsX10 : List Cond := u_ws RX1 TX1 3
theorem nmX1 : ∀ a, a < 3 → ∀ b, b < 3 → a ≠ b → (TX1 a).2.1 ≠ (TX1 b).2.1 := by decide +kernel
theorem tyX1_ok : ∀ k, k < 3 → parseFieldDescriptor (TX1 k).2.2.1 = some (tyX1 k) := by decide +kernel
def TX2 : u_T := fun k => match k with
  | 0 => ("CirclePacker$Layout", "net", "LCirclePacker$Net;", true)
  | _ => ("CirclePacker$Layout", "packing", "LCirclePacker$Packing;", true)
def tyX2 : Nat → FieldType := fun k => match k with
  | 0 => .object "CirclePacker$Net"
  | _ => .object "CirclePacker$Packing"
abbrev wsX20 : List Cond := u_ws RX2 TX2 2
theorem nmX2 : ∀ a, a < 2 → ∀ b, b < 2 → a ≠ b → (TX2 a).2.1 ≠ (TX2 b).2.1 := by decide +kernel
theorem tyX2_ok : ∀ k, k < 2 → parseFieldDescriptor (TX2 k).2.2.1 = some (tyX2 k) := by decide +kernel
def TX3 : u_T := fun k => match k with
  | 0 => ("CirclePacker$Net", "circles", "I", false)
  | 1 => ("CirclePacker$Net", "faces", "I", false)
  | 2 => ("CirclePacker$Net", "scale", "I", false)
  | 3 => ("CirclePacker$Net", "names", "[J", true)
  | 4 => ("CirclePacker$Net", "degrees", "[I", true)
  | 5 => ("CirclePacker$Net", "fixedRadii", "[I", true)
  | 6 => ("CirclePacker$Net", "corners", "[I", true)
  | 7 => ("CirclePacker$Net", "sides", "[I", true)
  | 8 => ("CirclePacker$Net", "rows", "[I", true)
  | 9 => ("CirclePacker$Net", "rowLengths", "[I", true)
  | _ => ("CirclePacker$Net", "isRing", "[Z", true)
def tyX3 : Nat → FieldType := fun k => match k with
  | 0 => .int
  | 1 => .int
  | 2 => .int
  | 3 => .array .long
  | 4 => .array .int
  | 5 => .array .int
  | 6 => .array .int
  | 7 => .array .int
  | 8 => .array .int
  | 9 => .array .int
  | _ => .array .boolean
abbrev wsX30 : List Cond := u_ws RX3 TX3 11
theorem nmX3 : ∀ a, a < 11 → ∀ b, b < 11 → a ≠ b → (TX3 a).2.1 ≠ (TX3 b).2.1 := by decide +kernel
theorem tyX3_ok : ∀ k, k < 11 → parseFieldDescriptor (TX3 k).2.2.1 = some (tyX3 k) := by decide +kernel
def TX4 : u_T := fun k => match k with
  | 0 => ("CirclePacker$NetReader", "tokens", "LCirclePacker$Tokens;", true)
  | 1 => ("CirclePacker$NetReader", "draft", "LCirclePacker$Net;", true)
  | 2 => ("CirclePacker$NetReader", "statements", "I", false)
  | _ => ("CirclePacker$NetReader", "hasScale", "Z", false)
def tyX4 : Nat → FieldType := fun k => match k with
  | 0 => .object "CirclePacker$Tokens"
  | 1 => .object "CirclePacker$Net"
  | 2 => .int
  | _ => .boolean
abbrev wsX40 : List Cond := u_ws RX4 TX4 4
theorem nmX4 : ∀ a, a < 4 → ∀ b, b < 4 → a ≠ b → (TX4 a).2.1 ≠ (TX4 b).2.1 := by decide +kernel
theorem tyX4_ok : ∀ k, k < 4 → parseFieldDescriptor (TX4 k).2.2.1 = some (tyX4 k) := by decide +kernel
def TX5 : u_T := fun k => match k with
  | 0 => ("CirclePacker$Packing", "radii", "[I", true)
  | 1 => ("CirclePacker$Packing", "xs", "[I", true)
  | 2 => ("CirclePacker$Packing", "ys", "[I", true)
  | 3 => ("CirclePacker$Packing", "isPlaced", "[Z", true)
  | 4 => ("CirclePacker$Packing", "order", "[I", true)
  | _ => ("CirclePacker$Packing", "puts", "I", false)
def tyX5 : Nat → FieldType := fun k => match k with
  | 0 => .array .int
  | 1 => .array .int
  | 2 => .array .int
  | 3 => .array .boolean
  | 4 => .array .int
  | _ => .int
abbrev wsX50 : List Cond := u_ws RX5 TX5 6
theorem nmX5 : ∀ a, a < 6 → ∀ b, b < 6 → a ≠ b → (TX5 a).2.1 ≠ (TX5 b).2.1 := by decide +kernel
theorem tyX5_ok : ∀ k, k < 6 → parseFieldDescriptor (TX5 k).2.2.1 = some (tyX5 k) := by decide +kernel
def TX6 : u_T := fun k => match k with
  | 0 => ("CirclePacker$Page", "bytes", "[B", true)
  | _ => ("CirclePacker$Page", "length", "I", false)
def tyX6 : Nat → FieldType := fun k => match k with
  | 0 => .array .byte
  | _ => .int
abbrev wsX60 : List Cond := u_ws RX6 TX6 2
theorem nmX6 : ∀ a, a < 2 → ∀ b, b < 2 → a ≠ b → (TX6 a).2.1 ≠ (TX6 b).2.1 := by decide +kernel
theorem tyX6_ok : ∀ k, k < 2 → parseFieldDescriptor (TX6 k).2.2.1 = some (tyX6 k) := by decide +kernel
def TX7 : u_T := fun k => match k with
  | 0 => ("CirclePacker$Script", "tokens", "LCirclePacker$Tokens;", true)
  | 1 => ("CirclePacker$Script", "verbs", "[LCirclePacker$Word;", true)
  | 2 => ("CirclePacker$Script", "circles", "[I", true)
  | 3 => ("CirclePacker$Script", "numbers", "[I", true)
  | 4 => ("CirclePacker$Script", "roundsLeft", "[I", true)
  | 5 => ("CirclePacker$Script", "openRepeats", "[I", true)
  | 6 => ("CirclePacker$Script", "entries", "I", false)
  | 7 => ("CirclePacker$Script", "commands", "I", false)
  | _ => ("CirclePacker$Script", "open", "I", false)
def tyX7 : Nat → FieldType := fun k => match k with
  | 0 => .object "CirclePacker$Tokens"
  | 1 => .array (.object "CirclePacker$Word")
  | 2 => .array .int
  | 3 => .array .int
  | 4 => .array .int
  | 5 => .array .int
  | 6 => .int
  | 7 => .int
  | _ => .int
abbrev wsX70 : List Cond := u_ws RX7 TX7 9
theorem nmX7 : ∀ a, a < 9 → ∀ b, b < 9 → a ≠ b → (TX7 a).2.1 ≠ (TX7 b).2.1 := by decide +kernel
theorem tyX7_ok : ∀ k, k < 9 → parseFieldDescriptor (TX7 k).2.2.1 = some (tyX7 k) := by decide +kernel
def TX8 : u_T := fun k => match k with
  | 0 => ("CirclePacker$Solver", "net", "LCirclePacker$Net;", true)
  | _ => ("CirclePacker$Solver", "packing", "LCirclePacker$Packing;", true)
def tyX8 : Nat → FieldType := fun k => match k with
  | 0 => .object "CirclePacker$Net"
  | _ => .object "CirclePacker$Packing"
abbrev wsX80 : List Cond := u_ws RX8 TX8 2
theorem nmX8 : ∀ a, a < 2 → ∀ b, b < 2 → a ≠ b → (TX8 a).2.1 ≠ (TX8 b).2.1 := by decide +kernel
theorem tyX8_ok : ∀ k, k < 2 → parseFieldDescriptor (TX8 k).2.2.1 = some (tyX8 k) := by decide +kernel
def TX9 : u_T := fun k => match k with
  | 0 => ("CirclePacker$Text", "bytes", "[B", true)
  | _ => ("CirclePacker$Text", "length", "I", false)
def tyX9 : Nat → FieldType := fun k => match k with
  | 0 => .array .byte
  | _ => .int
abbrev wsX90 : List Cond := u_ws RX9 TX9 2
theorem nmX9 : ∀ a, a < 2 → ∀ b, b < 2 → a ≠ b → (TX9 a).2.1 ≠ (TX9 b).2.1 := by decide +kernel
theorem tyX9_ok : ∀ k, k < 2 → parseFieldDescriptor (TX9 k).2.2.1 = some (tyX9 k) := by decide +kernel
def TX10 : u_T := fun k => match k with
  | 0 => ("CirclePacker$Tokens", "text", "LCirclePacker$Text;", true)
  | 1 => ("CirclePacker$Tokens", "kind", "I", false)
  | 2 => ("CirclePacker$Tokens", "start", "I", false)
  | 3 => ("CirclePacker$Tokens", "behind", "I", false)
  | 4 => ("CirclePacker$Tokens", "word", "LCirclePacker$Word;", false)
  | 5 => ("CirclePacker$Tokens", "letters", "J", false)
  | 6 => ("CirclePacker$Tokens", "number", "I", false)
  | 7 => ("CirclePacker$Tokens", "errorCode", "I", false)
  | _ => ("CirclePacker$Tokens", "errorPosition", "I", false)
def tyX10 : Nat → FieldType := fun k => match k with
  | 0 => .object "CirclePacker$Text"
  | 1 => .int
  | 2 => .int
  | 3 => .int
  | 4 => .object "CirclePacker$Word"
  | 5 => .long
  | 6 => .int
  | 7 => .int
  | _ => .int
abbrev wsX100 : List Cond := u_ws RX10 TX10 9
theorem nmX10 : ∀ a, a < 9 → ∀ b, b < 9 → a ≠ b → (TX10 a).2.1 ≠ (TX10 b).2.1 := by decide +kernel
theorem tyX10_ok : ∀ k, k < 9 → parseFieldDescriptor (TX10 k).2.2.1 = some (tyX10 k) := by decide +kernel
def TX11 : u_T := fun k => match k with
  | _ => ("", "", "", false)
def tyX11 : Nat → FieldType := fun k => match k with
  | _ => .int
abbrev wsX110 : List Cond := u_ws RX11 TX11 0
theorem nmX11 : ∀ a, a < 0 → ∀ b, b < 0 → a ≠ b → (TX11 a).2.1 ≠ (TX11 b).2.1 := by decide +kernel
theorem tyX11_ok : ∀ k, k < 0 → parseFieldDescriptor (TX11 k).2.2.1 = some (tyX11 k) := by decide +kernel
def TX12 : u_T := fun k => match k with
  | 0 => ("CirclePacker", "text", "LCirclePacker$Text;", true)
  | 1 => ("CirclePacker", "tokens", "LCirclePacker$Tokens;", true)
  | 2 => ("CirclePacker", "net", "LCirclePacker$Net;", true)
  | 3 => ("CirclePacker", "netReader", "LCirclePacker$NetReader;", true)
  | 4 => ("CirclePacker", "script", "LCirclePacker$Script;", true)
  | 5 => ("CirclePacker", "packing", "LCirclePacker$Packing;", true)
  | 6 => ("CirclePacker", "solver", "LCirclePacker$Solver;", true)
  | 7 => ("CirclePacker", "layout", "LCirclePacker$Layout;", true)
  | 8 => ("CirclePacker", "history", "LCirclePacker$History;", true)
  | 9 => ("CirclePacker", "savedNet", "LCirclePacker$Net;", true)
  | 10 => ("CirclePacker", "savedPacking", "LCirclePacker$Packing;", true)
  | 11 => ("CirclePacker", "page", "LCirclePacker$Page;", true)
  | 12 => ("CirclePacker", "ways", "[J", true)
  | _ => ("CirclePacker", "isSaved", "Z", false)
def tyX12 : Nat → FieldType := fun k => match k with
  | 0 => .object "CirclePacker$Text"
  | 1 => .object "CirclePacker$Tokens"
  | 2 => .object "CirclePacker$Net"
  | 3 => .object "CirclePacker$NetReader"
  | 4 => .object "CirclePacker$Script"
  | 5 => .object "CirclePacker$Packing"
  | 6 => .object "CirclePacker$Solver"
  | 7 => .object "CirclePacker$Layout"
  | 8 => .object "CirclePacker$History"
  | 9 => .object "CirclePacker$Net"
  | 10 => .object "CirclePacker$Packing"
  | 11 => .object "CirclePacker$Page"
  | 12 => .array .long
  | _ => .boolean
abbrev wsX120 : List Cond := u_ws RX12 TX12 14
theorem nmX12 : ∀ a, a < 14 → ∀ b, b < 14 → a ≠ b → (TX12 a).2.1 ≠ (TX12 b).2.1 := by decide +kernel
theorem tyX12_ok : ∀ k, k < 14 → parseFieldDescriptor (TX12 k).2.2.1 = some (tyX12 k) := by decide +kernel
def TX13 : u_T := fun k => match k with
  | 0 => ("CirclePackerModel", "code", "I", false)
  | 1 => ("CirclePackerModel", "buffer", "[I", true)
  | 2 => ("CirclePackerModel", "filled", "I", false)
  | 3 => ("CirclePackerModel", "bytes", "I", false)
  | 4 => ("CirclePackerModel", "at", "I", false)
  | 5 => ("CirclePackerModel", "place", "I", false)
  | 6 => ("CirclePackerModel", "sort", "I", false)
  | 7 => ("CirclePackerModel", "value", "I", false)
  | 8 => ("CirclePackerModel", "error", "I", false)
  | 9 => ("CirclePackerModel", "errorPlace", "I", false)
  | 10 => ("CirclePackerModel", "toldError", "I", false)
  | 11 => ("CirclePackerModel", "toldPlace", "I", false)
  | 12 => ("CirclePackerModel", "word", "J", false)
  | 13 => ("CirclePackerModel", "circles", "[I", true)
  | 14 => ("CirclePackerModel", "faces", "[I", true)
  | 15 => ("CirclePackerModel", "degrees", "[I", true)
  | 16 => ("CirclePackerModel", "radius", "[I", true)
  | 17 => ("CirclePackerModel", "corner", "[I", true)
  | 18 => ("CirclePackerModel", "follows", "[I", true)
  | 19 => ("CirclePackerModel", "names", "[J", true)
  | 20 => ("CirclePackerModel", "puts", "[I", true)
  | 21 => ("CirclePackerModel", "order", "[I", true)
  | 22 => ("CirclePackerModel", "placeX", "[I", true)
  | 23 => ("CirclePackerModel", "placeY", "[I", true)
  | 24 => ("CirclePackerModel", "hasSaved", "Z", false)
  | 25 => ("CirclePackerModel", "hasScale", "Z", false)
  | 26 => ("CirclePackerModel", "scale", "I", false)
  | 27 => ("CirclePackerModel", "statements", "I", false)
  | 28 => ("CirclePackerModel", "reached", "[I", true)
  | 29 => ("CirclePackerModel", "length", "[J", true)
  | 30 => ("CirclePackerModel", "past", "[I", true)
  | 31 => ("CirclePackerModel", "undos", "I", false)
  | 32 => ("CirclePackerModel", "widest", "I", false)
  | 33 => ("CirclePackerModel", "widestPair", "I", false)
  | 34 => ("CirclePackerModel", "script", "[I", true)
  | 35 => ("CirclePackerModel", "one", "[I", true)
  | 36 => ("CirclePackerModel", "two", "[I", true)
  | 37 => ("CirclePackerModel", "begun", "[I", true)
  | 38 => ("CirclePackerModel", "laps", "[I", true)
  | 39 => ("CirclePackerModel", "scripted", "I", false)
  | 40 => ("CirclePackerModel", "wordsHad", "I", false)
  | 41 => ("CirclePackerModel", "open", "I", false)
  | 42 => ("CirclePackerModel", "aside", "[I", true)
  | 43 => ("CirclePackerModel", "told", "[I", true)
  | 44 => ("CirclePackerModel", "tellings", "I", false)
  | _ => ("CirclePackerModel", "hasReport", "Z", false)
def tyX13 : Nat → FieldType := fun k => match k with
  | 0 => .int
  | 1 => .array .int
  | 2 => .int
  | 3 => .int
  | 4 => .int
  | 5 => .int
  | 6 => .int
  | 7 => .int
  | 8 => .int
  | 9 => .int
  | 10 => .int
  | 11 => .int
  | 12 => .long
  | 13 => .array .int
  | 14 => .array .int
  | 15 => .array .int
  | 16 => .array .int
  | 17 => .array .int
  | 18 => .array .int
  | 19 => .array .long
  | 20 => .array .int
  | 21 => .array .int
  | 22 => .array .int
  | 23 => .array .int
  | 24 => .boolean
  | 25 => .boolean
  | 26 => .int
  | 27 => .int
  | 28 => .array .int
  | 29 => .array .long
  | 30 => .array .int
  | 31 => .int
  | 32 => .int
  | 33 => .int
  | 34 => .array .int
  | 35 => .array .int
  | 36 => .array .int
  | 37 => .array .int
  | 38 => .array .int
  | 39 => .int
  | 40 => .int
  | 41 => .int
  | 42 => .array .int
  | 43 => .array .int
  | 44 => .int
  | _ => .boolean
abbrev wsX130 : List Cond := u_ws RX13 TX13 46
theorem nmX13 : ∀ a, a < 46 → ∀ b, b < 46 → a ≠ b → (TX13 a).2.1 ≠ (TX13 b).2.1 := by decide +kernel
theorem tyX13_ok : ∀ k, k < 46 → parseFieldDescriptor (TX13 k).2.2.1 = some (tyX13 k) := by decide +kernel
abbrev vwCl : List vw_C := [(RX1, TX1, 3), (RX2, TX2, 2), (RX3, TX3, 11), (RX4, TX4, 4), (RX5, TX5, 6), (RX6, TX6, 2), (RX7, TX7, 9), (RX8, TX8, 2), (RX9, TX9, 2), (RX10, TX10, 9), (RX12, TX12, 14), (RX13, TX13, 46)]
theorem z_inX1 : ∀ w ∈ wsX10, w ∈ lw_tbl := by decide +kernel
theorem z_inX2 : ∀ w ∈ wsX20, w ∈ lw_tbl := by decide +kernel
theorem z_inX3 : ∀ w ∈ wsX30, w ∈ lw_tbl := by decide +kernel
theorem z_inX4 : ∀ w ∈ wsX40, w ∈ lw_tbl := by decide +kernel
theorem z_inX5 : ∀ w ∈ wsX50, w ∈ lw_tbl := by decide +kernel
theorem z_inX6 : ∀ w ∈ wsX60, w ∈ lw_tbl := by decide +kernel
theorem z_inX7 : ∀ w ∈ wsX70, w ∈ lw_tbl := by decide +kernel
theorem z_inX8 : ∀ w ∈ wsX80, w ∈ lw_tbl := by decide +kernel
theorem z_inX9 : ∀ w ∈ wsX90, w ∈ lw_tbl := by decide +kernel
theorem z_inX10 : ∀ w ∈ wsX100, w ∈ lw_tbl := by decide +kernel
theorem z_inX12 : ∀ w ∈ wsX120, w ∈ lw_tbl := by decide +kernel
theorem z_inX13 : ∀ w ∈ wsX130, w ∈ lw_tbl := by decide +kernel
