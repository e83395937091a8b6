def RX0 : String := "CodeExchange$Entries"
def TX0 : u_T := fun k => match k with
  | 0 => ("CodeExchange$Entries", "states", "[I", true)
  | 1 => ("CodeExchange$Entries", "texts", "[I", true)
  | 2 => ("CodeExchange$Entries", "lengths", "[I", true)
  | 3 => ("CodeExchange$Entries", "points", "[I", true)
  | 4 => ("CodeExchange$Entries", "preferred", "[Z", true)
  | _ => ("CodeExchange$Entries", "count", "I", false)
def tyX0 : Nat → FieldType := fun k => match k with
  | 0 => .array .int
  | 1 => .array .int
  | 2 => .array .int
  | 3 => .array .int
  | 4 => .array .boolean
  | _ => .int
theorem nmX0 : ∀ a, a < 6 → ∀ b, b < 6 → a ≠ b → (TX0 a).2.1 ≠ (TX0 b).2.1 := by decide +kernel
theorem tyX0_ok : ∀ k, k < 6 → parseFieldDescriptor (TX0 k).2.2.1 = some (tyX0 k) := by decide +kernel
theorem inX0 : ∀ w ∈ u_ws RX0 TX0 6, w ∈ tables_1 := by decide +kernel
def RX1 : String := "CodeExchange$Forms"
def TX1 : u_T := fun _ => ("", "", "", false)
def tyX1 : Nat → FieldType := fun _ => .int
theorem nmX1 : ∀ a, a < 0 → ∀ b, b < 0 → a ≠ b → (TX1 a).2.1 ≠ (TX1 b).2.1 := by decide +kernel
theorem tyX1_ok : ∀ k, k < 0 → parseFieldDescriptor (TX1 k).2.2.1 = some (tyX1 k) := by decide +kernel
theorem inX1 : ∀ w ∈ u_ws RX1 TX1 0, w ∈ tables_1 := by decide +kernel
def RX2 : String := "CodeExchange$Found"
def TX2 : u_T := fun k => match k with
  | 0 => ("CodeExchange$Found", "what", "I", false)
  | 1 => ("CodeExchange$Found", "length", "I", false)
  | 2 => ("CodeExchange$Found", "point", "I", false)
  | 3 => ("CodeExchange$Found", "goal", "I", false)
  | _ => ("CodeExchange$Found", "sticky", "Z", false)
def tyX2 : Nat → FieldType := fun k => match k with
  | 0 => .int
  | 1 => .int
  | 2 => .int
  | 3 => .int
  | _ => .boolean
theorem nmX2 : ∀ a, a < 5 → ∀ b, b < 5 → a ≠ b → (TX2 a).2.1 ≠ (TX2 b).2.1 := by decide +kernel
theorem tyX2_ok : ∀ k, k < 5 → parseFieldDescriptor (TX2 k).2.2.1 = some (tyX2 k) := by decide +kernel
theorem inX2 : ∀ w ∈ u_ws RX2 TX2 5, w ∈ tables_1 := by decide +kernel
def RX3 : String := "CodeExchange$Machine"
def TX3 : u_T := fun k => match k with
  | 0 => ("CodeExchange$Machine", "reader", "LCodeExchange$Reader;", true)
  | 1 => ("CodeExchange$Machine", "writer", "LCodeExchange$Writer;", true)
  | 2 => ("CodeExchange$Machine", "writes", "Z", false)
  | 3 => ("CodeExchange$Machine", "phase", "I", false)
  | 4 => ("CodeExchange$Machine", "kept", "[I", true)
  | 5 => ("CodeExchange$Machine", "keeps", "I", false)
  | 6 => ("CodeExchange$Machine", "fed", "I", false)
  | 7 => ("CodeExchange$Machine", "place", "I", false)
  | 8 => ("CodeExchange$Machine", "burst", "LCodeExchange$Row;", true)
  | 9 => ("CodeExchange$Machine", "ring", "[I", true)
  | 10 => ("CodeExchange$Machine", "first", "I", false)
  | _ => ("CodeExchange$Machine", "waiting", "I", false)
def tyX3 : Nat → FieldType := fun k => match k with
  | 0 => .object "CodeExchange$Reader"
  | 1 => .object "CodeExchange$Writer"
  | 2 => .boolean
  | 3 => .int
  | 4 => .array .int
  | 5 => .int
  | 6 => .int
  | 7 => .int
  | 8 => .object "CodeExchange$Row"
  | 9 => .array .int
  | 10 => .int
  | _ => .int
theorem nmX3 : ∀ a, a < 12 → ∀ b, b < 12 → a ≠ b → (TX3 a).2.1 ≠ (TX3 b).2.1 := by decide +kernel
theorem tyX3_ok : ∀ k, k < 12 → parseFieldDescriptor (TX3 k).2.2.1 = some (tyX3 k) := by decide +kernel
theorem inX3 : ∀ w ∈ u_ws RX3 TX3 12, w ∈ tables_1 := by decide +kernel
def RX4 : String := "CodeExchange$Page"
def TX4 : u_T := fun k => match k with
  | 0 => ("CodeExchange$Page", "kind", "I", true)
  | 1 => ("CodeExchange$Page", "closed", "Z", false)
  | 2 => ("CodeExchange$Page", "entries", "LCodeExchange$Entries;", true)
  | 3 => ("CodeExchange$Page", "shifts", "LCodeExchange$Shifts;", true)
  | 4 => ("CodeExchange$Page", "routes", "LCodeExchange$Routes;", true)
  | 5 => ("CodeExchange$Page", "heads", "[I", true)
  | 6 => ("CodeExchange$Page", "nexts", "[I", true)
  | 7 => ("CodeExchange$Page", "order", "[I", true)
  | 8 => ("CodeExchange$Page", "ordered", "I", false)
  | _ => ("CodeExchange$Page", "reached", "I", false)
def tyX4 : Nat → FieldType := fun k => match k with
  | 0 => .int
  | 1 => .boolean
  | 2 => .object "CodeExchange$Entries"
  | 3 => .object "CodeExchange$Shifts"
  | 4 => .object "CodeExchange$Routes"
  | 5 => .array .int
  | 6 => .array .int
  | 7 => .array .int
  | 8 => .int
  | _ => .int
theorem nmX4 : ∀ a, a < 10 → ∀ b, b < 10 → a ≠ b → (TX4 a).2.1 ≠ (TX4 b).2.1 := by decide +kernel
theorem tyX4_ok : ∀ k, k < 10 → parseFieldDescriptor (TX4 k).2.2.1 = some (tyX4 k) := by decide +kernel
theorem inX4 : ∀ w ∈ u_ws RX4 TX4 10, w ∈ tables_1 := by decide +kernel
def RX5 : String := "CodeExchange$Reader"
def TX5 : u_T := fun k => match k with
  | 0 => ("CodeExchange$Reader", "rules", "LCodeExchange$Rules;", true)
  | 1 => ("CodeExchange$Reader", "found", "LCodeExchange$Found;", true)
  | 2 => ("CodeExchange$Reader", "page", "LCodeExchange$Page;", false)
  | 3 => ("CodeExchange$Reader", "rule", "I", false)
  | 4 => ("CodeExchange$Reader", "state", "I", false)
  | 5 => ("CodeExchange$Reader", "pending", "I", false)
  | _ => ("CodeExchange$Reader", "malformed", "I", false)
def tyX5 : Nat → FieldType := fun k => match k with
  | 0 => .object "CodeExchange$Rules"
  | 1 => .object "CodeExchange$Found"
  | 2 => .object "CodeExchange$Page"
  | 3 => .int
  | 4 => .int
  | 5 => .int
  | _ => .int
theorem nmX5 : ∀ a, a < 7 → ∀ b, b < 7 → a ≠ b → (TX5 a).2.1 ≠ (TX5 b).2.1 := by decide +kernel
theorem tyX5_ok : ∀ k, k < 7 → parseFieldDescriptor (TX5 k).2.2.1 = some (tyX5 k) := by decide +kernel
theorem inX5 : ∀ w ∈ u_ws RX5 TX5 7, w ∈ tables_1 := by decide +kernel
def RX6 : String := "CodeExchange$Routes"
def TX6 : u_T := fun k => match k with
  | 0 => ("CodeExchange$Routes", "texts", "[I", true)
  | 1 => ("CodeExchange$Routes", "lengths", "[I", true)
  | 2 => ("CodeExchange$Routes", "after", "[I", true)
  | _ => ("CodeExchange$Routes", "steps", "[I", true)
def tyX6 : Nat → FieldType := fun k => match k with
  | 0 => .array .int
  | 1 => .array .int
  | 2 => .array .int
  | _ => .array .int
theorem nmX6 : ∀ a, a < 4 → ∀ b, b < 4 → a ≠ b → (TX6 a).2.1 ≠ (TX6 b).2.1 := by decide +kernel
theorem tyX6_ok : ∀ k, k < 4 → parseFieldDescriptor (TX6 k).2.2.1 = some (tyX6 k) := by decide +kernel
theorem inX6 : ∀ w ∈ u_ws RX6 TX6 4, w ∈ tables_1 := by decide +kernel
def RX7 : String := "CodeExchange$Row"
def TX7 : u_T := fun k => match k with
  | 0 => ("CodeExchange$Row", "values", "[I", true)
  | _ => ("CodeExchange$Row", "count", "I", false)
def tyX7 : Nat → FieldType := fun k => match k with
  | 0 => .array .int
  | _ => .int
theorem nmX7 : ∀ a, a < 2 → ∀ b, b < 2 → a ≠ b → (TX7 a).2.1 ≠ (TX7 b).2.1 := by decide +kernel
theorem tyX7_ok : ∀ k, k < 2 → parseFieldDescriptor (TX7 k).2.2.1 = some (tyX7 k) := by decide +kernel
theorem inX7 : ∀ w ∈ u_ws RX7 TX7 2, w ∈ tables_1 := by decide +kernel
def RX8 : String := "CodeExchange$Rules"
def TX8 : u_T := fun k => match k with
  | 0 => ("CodeExchange$Rules", "readSign", "I", false)
  | 1 => ("CodeExchange$Rules", "writeSign", "I", false)
  | 2 => ("CodeExchange$Rules", "count", "I", false)
  | 3 => ("CodeExchange$Rules", "points", "[I", true)
  | 4 => ("CodeExchange$Rules", "lengths", "[I", true)
  | 5 => ("CodeExchange$Rules", "parts", "[I", true)
  | _ => ("CodeExchange$Rules", "wholes", "[I", true)
def tyX8 : Nat → FieldType := fun k => match k with
  | 0 => .int
  | 1 => .int
  | 2 => .int
  | 3 => .array .int
  | 4 => .array .int
  | 5 => .array .int
  | _ => .array .int
theorem nmX8 : ∀ a, a < 7 → ∀ b, b < 7 → a ≠ b → (TX8 a).2.1 ≠ (TX8 b).2.1 := by decide +kernel
theorem tyX8_ok : ∀ k, k < 7 → parseFieldDescriptor (TX8 k).2.2.1 = some (tyX8 k) := by decide +kernel
theorem inX8 : ∀ w ∈ u_ws RX8 TX8 7, w ∈ tables_1 := by decide +kernel
def RX9 : String := "CodeExchange$Shifts"
def TX9 : u_T := fun k => match k with
  | 0 => ("CodeExchange$Shifts", "states", "[I", true)
  | 1 => ("CodeExchange$Shifts", "values", "[I", true)
  | 2 => ("CodeExchange$Shifts", "goals", "[I", true)
  | 3 => ("CodeExchange$Shifts", "sticky", "[Z", true)
  | _ => ("CodeExchange$Shifts", "count", "I", false)
def tyX9 : Nat → FieldType := fun k => match k with
  | 0 => .array .int
  | 1 => .array .int
  | 2 => .array .int
  | 3 => .array .boolean
  | _ => .int
theorem nmX9 : ∀ a, a < 5 → ∀ b, b < 5 → a ≠ b → (TX9 a).2.1 ≠ (TX9 b).2.1 := by decide +kernel
theorem tyX9_ok : ∀ k, k < 5 → parseFieldDescriptor (TX9 k).2.2.1 = some (tyX9 k) := by decide +kernel
theorem inX9 : ∀ w ∈ u_ws RX9 TX9 5, w ∈ tables_1 := by decide +kernel
def RX10 : String := "CodeExchange$Writer"
def TX10 : u_T := fun k => match k with
  | 0 => ("CodeExchange$Writer", "rules", "LCodeExchange$Rules;", true)
  | 1 => ("CodeExchange$Writer", "burst", "LCodeExchange$Row;", true)
  | 2 => ("CodeExchange$Writer", "due", "LCodeExchange$Row;", true)
  | 3 => ("CodeExchange$Writer", "page", "LCodeExchange$Page;", false)
  | 4 => ("CodeExchange$Writer", "rule", "I", false)
  | _ => ("CodeExchange$Writer", "state", "I", false)
def tyX10 : Nat → FieldType := fun k => match k with
  | 0 => .object "CodeExchange$Rules"
  | 1 => .object "CodeExchange$Row"
  | 2 => .object "CodeExchange$Row"
  | 3 => .object "CodeExchange$Page"
  | 4 => .int
  | _ => .int
theorem nmX10 : ∀ a, a < 6 → ∀ b, b < 6 → a ≠ b → (TX10 a).2.1 ≠ (TX10 b).2.1 := by decide +kernel
theorem tyX10_ok : ∀ k, k < 6 → parseFieldDescriptor (TX10 k).2.2.1 = some (tyX10 k) := by decide +kernel
theorem inX10 : ∀ w ∈ u_ws RX10 TX10 6, w ∈ tables_1 := by decide +kernel
def RX11 : String := "CodeExchange"
def TX11 : u_T := fun k => match k with
  | 0 => ("CodeExchange", "pages", "[LCodeExchange$Page;", true)
  | 1 => ("CodeExchange", "pageCount", "I", false)
  | 2 => ("CodeExchange", "spare", "LCodeExchange$Page;", false)
  | 3 => ("CodeExchange", "bytes", "LCodeExchange$Row;", true)
  | 4 => ("CodeExchange", "units", "LCodeExchange$Row;", true)
  | 5 => ("CodeExchange", "result", "LCodeExchange$Row;", false)
  | 6 => ("CodeExchange", "resultKind", "I", false)
  | 7 => ("CodeExchange", "work", "LCodeExchange$Row;", false)
  | 8 => ("CodeExchange", "between", "LCodeExchange$Row;", true)
  | 9 => ("CodeExchange", "rules", "LCodeExchange$Rules;", true)
  | 10 => ("CodeExchange", "reader", "LCodeExchange$Reader;", true)
  | 11 => ("CodeExchange", "writer", "LCodeExchange$Writer;", true)
  | 12 => ("CodeExchange", "machines", "[LCodeExchange$Machine;", true)
  | 13 => ("CodeExchange", "place", "I", false)
  | 14 => ("CodeExchange", "broken", "[I", true)
  | 15 => ("CodeExchange", "unheard", "[I", true)
  | _ => ("CodeExchange", "findings", "I", false)
def tyX11 : Nat → FieldType := fun k => match k with
  | 0 => .array (.object "CodeExchange$Page")
  | 1 => .int
  | 2 => .object "CodeExchange$Page"
  | 3 => .object "CodeExchange$Row"
  | 4 => .object "CodeExchange$Row"
  | 5 => .object "CodeExchange$Row"
  | 6 => .int
  | 7 => .object "CodeExchange$Row"
  | 8 => .object "CodeExchange$Row"
  | 9 => .object "CodeExchange$Rules"
  | 10 => .object "CodeExchange$Reader"
  | 11 => .object "CodeExchange$Writer"
  | 12 => .array (.object "CodeExchange$Machine")
  | 13 => .int
  | 14 => .array .int
  | 15 => .array .int
  | _ => .int
theorem nmX11 : ∀ a, a < 17 → ∀ b, b < 17 → a ≠ b → (TX11 a).2.1 ≠ (TX11 b).2.1 := by decide +kernel
theorem tyX11_ok : ∀ k, k < 17 → parseFieldDescriptor (TX11 k).2.2.1 = some (tyX11 k) := by decide +kernel
theorem inX11 : ∀ w ∈ u_ws RX11 TX11 17, w ∈ tables_1 := by decide +kernel
def RX12 : String := "CodeExchangeModel"
def TX12 : u_T := fun k => match k with
  | 0 => ("CodeExchangeModel", "pages", "I", false)
  | 1 => ("CodeExchangeModel", "kinds", "[I", true)
  | 2 => ("CodeExchangeModel", "closed", "[Z", true)
  | 3 => ("CodeExchangeModel", "entries", "[I", true)
  | 4 => ("CodeExchangeModel", "shifts", "[I", true)
  | 5 => ("CodeExchangeModel", "eState", "[I", true)
  | 6 => ("CodeExchangeModel", "eMany", "[I", true)
  | 7 => ("CodeExchangeModel", "eBytes", "[I", true)
  | 8 => ("CodeExchangeModel", "ePoint", "[I", true)
  | 9 => ("CodeExchangeModel", "ePreferred", "[Z", true)
  | 10 => ("CodeExchangeModel", "sState", "[I", true)
  | 11 => ("CodeExchangeModel", "sByte", "[I", true)
  | 12 => ("CodeExchangeModel", "sTo", "[I", true)
  | 13 => ("CodeExchangeModel", "sSticky", "[Z", true)
  | 14 => ("CodeExchangeModel", "bytes", "I", false)
  | 15 => ("CodeExchangeModel", "byteRow", "[I", true)
  | 16 => ("CodeExchangeModel", "units", "I", false)
  | 17 => ("CodeExchangeModel", "unitRow", "[I", true)
  | 18 => ("CodeExchangeModel", "results", "I", false)
  | 19 => ("CodeExchangeModel", "resultKind", "I", false)
  | 20 => ("CodeExchangeModel", "resultRow", "[I", true)
  | 21 => ("CodeExchangeModel", "signs", "[I", true)
  | 22 => ("CodeExchangeModel", "place", "I", false)
  | 23 => ("CodeExchangeModel", "broken", "[I", true)
  | 24 => ("CodeExchangeModel", "findings", "I", false)
  | 25 => ("CodeExchangeModel", "fallbacks", "I", false)
  | 26 => ("CodeExchangeModel", "fPoint", "[I", true)
  | 27 => ("CodeExchangeModel", "fMany", "[I", true)
  | 28 => ("CodeExchangeModel", "fPoints", "[I", true)
  | 29 => ("CodeExchangeModel", "reached", "[Z", true)
  | 30 => ("CodeExchangeModel", "breach", "[I", true)
  | 31 => ("CodeExchangeModel", "textState", "I", false)
  | 32 => ("CodeExchangeModel", "textMany", "I", false)
  | 33 => ("CodeExchangeModel", "text", "[I", true)
  | 34 => ("CodeExchangeModel", "state", "I", false)
  | 35 => ("CodeExchangeModel", "pending", "I", false)
  | 36 => ("CodeExchangeModel", "out", "[I", false)
  | 37 => ("CodeExchangeModel", "outs", "I", false)
  | 38 => ("CodeExchangeModel", "most", "I", false)
  | 39 => ("CodeExchangeModel", "faultCount", "I", false)
  | 40 => ("CodeExchangeModel", "foundMany", "I", false)
  | 41 => ("CodeExchangeModel", "foundPoint", "I", false)
  | 42 => ("CodeExchangeModel", "foundShift", "I", false)
  | 43 => ("CodeExchangeModel", "read", "[I", true)
  | 44 => ("CodeExchangeModel", "readToo", "[I", true)
  | 45 => ("CodeExchangeModel", "written", "[I", true)
  | 46 => ("CodeExchangeModel", "way", "[I", true)
  | 47 => ("CodeExchangeModel", "ways", "I", false)
  | 48 => ("CodeExchangeModel", "counts", "Z", false)
  | 49 => ("CodeExchangeModel", "points", "[I", true)
  | 50 => ("CodeExchangeModel", "seen", "[I", true)
  | 51 => ("CodeExchangeModel", "known", "[I", true)
  | 52 => ("CodeExchangeModel", "begun", "[Z", true)
  | 53 => ("CodeExchangeModel", "mPage", "[I", true)
  | 54 => ("CodeExchangeModel", "mWrites", "[Z", true)
  | 55 => ("CodeExchangeModel", "mRule", "[I", true)
  | 56 => ("CodeExchangeModel", "mState", "[I", true)
  | 57 => ("CodeExchangeModel", "mPending", "[I", true)
  | 58 => ("CodeExchangeModel", "mKept", "[I", true)
  | 59 => ("CodeExchangeModel", "mKeeps", "[I", true)
  | 60 => ("CodeExchangeModel", "mFed", "[I", true)
  | 61 => ("CodeExchangeModel", "mMode", "[I", true)
  | 62 => ("CodeExchangeModel", "mWaits", "[I", true)
  | 63 => ("CodeExchangeModel", "queues", "[I", true)
  | 64 => ("CodeExchangeModel", "keeps", "[I", true)
  | 65 => ("CodeExchangeModel", "fresh", "[I", true)
  | 66 => ("CodeExchangeModel", "alone", "[I", true)
  | 67 => ("CodeExchangeModel", "at", "I", false)
  | _ => ("CodeExchangeModel", "limit", "I", false)
def tyX12 : Nat → FieldType := fun k => match k with
  | 0 => .int
  | 1 => .array .int
  | 2 => .array .boolean
  | 3 => .array .int
  | 4 => .array .int
  | 5 => .array .int
  | 6 => .array .int
  | 7 => .array .int
  | 8 => .array .int
  | 9 => .array .boolean
  | 10 => .array .int
  | 11 => .array .int
  | 12 => .array .int
  | 13 => .array .boolean
  | 14 => .int
  | 15 => .array .int
  | 16 => .int
  | 17 => .array .int
  | 18 => .int
  | 19 => .int
  | 20 => .array .int
  | 21 => .array .int
  | 22 => .int
  | 23 => .array .int
  | 24 => .int
  | 25 => .int
  | 26 => .array .int
  | 27 => .array .int
  | 28 => .array .int
  | 29 => .array .boolean
  | 30 => .array .int
  | 31 => .int
  | 32 => .int
  | 33 => .array .int
  | 34 => .int
  | 35 => .int
  | 36 => .array .int
  | 37 => .int
  | 38 => .int
  | 39 => .int
  | 40 => .int
  | 41 => .int
  | 42 => .int
  | 43 => .array .int
  | 44 => .array .int
  | 45 => .array .int
  | 46 => .array .int
  | 47 => .int
  | 48 => .boolean
  | 49 => .array .int
  | 50 => .array .int
  | 51 => .array .int
  | 52 => .array .boolean
  | 53 => .array .int
  | 54 => .array .boolean
  | 55 => .array .int
  | 56 => .array .int
  | 57 => .array .int
  | 58 => .array .int
  | 59 => .array .int
  | 60 => .array .int
  | 61 => .array .int
  | 62 => .array .int
  | 63 => .array .int
  | 64 => .array .int
  | 65 => .array .int
  | 66 => .array .int
  | 67 => .int
  | _ => .int
theorem nmX12 : ∀ a, a < 69 → ∀ b, b < 69 → a ≠ b → (TX12 a).2.1 ≠ (TX12 b).2.1 := by decide +kernel
theorem tyX12_ok : ∀ k, k < 69 → parseFieldDescriptor (TX12 k).2.2.1 = some (tyX12 k) := by decide +kernel
theorem inX12 : ∀ w ∈ u_ws RX12 TX12 69, w ∈ tables_1 := by decide +kernel
abbrev mm_cl : List vw_C := [(RX0, TX0, 6), (RX1, TX1, 0), (RX2, TX2, 5), (RX3, TX3, 12), (RX4, TX4, 10), (RX5, TX5, 7), (RX6, TX6, 4), (RX7, TX7, 2), (RX8, TX8, 7), (RX9, TX9, 5), (RX10, TX10, 6), (RX11, TX11, 17), (RX12, TX12, 69)]
def mm_ty : Nat → Nat → FieldType := fun c => match c with
  | 0 => tyX0
  | 1 => tyX1
  | 2 => tyX2
  | 3 => tyX3
  | 4 => tyX4
  | 5 => tyX5
  | 6 => tyX6
  | 7 => tyX7
  | 8 => tyX8
  | 9 => tyX9
  | 10 => tyX10
  | 11 => tyX11
  | _ => tyX12
/-- the name of a class by its number; 13: the law, 14: java/util/Arrays -/
def mm_cn : Nat → String := fun c => match c with
  | 0 => RX0
  | 1 => RX1
  | 2 => RX2
  | 3 => RX3
  | 4 => RX4
  | 5 => RX5
  | 6 => RX6
  | 7 => RX7
  | 8 => RX8
  | 9 => RX9
  | 10 => RX10
  | 11 => RX11
  | 12 => RX12
  | 13 => "CodeExchangeLaw"
  | _ => "java/util/Arrays"
