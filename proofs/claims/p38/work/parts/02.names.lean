def RX0 : String := "WellRefuses$Debts"
def TX0 : u_T := fun k => match k with
  | _ => ("WellRefuses$Debts", "owed", "[[I", true)
def tyX0 : Nat → FieldType := fun k => match k with
  | _ => .array (.array .int)
theorem nmX0 : ∀ a, a < 1 → ∀ b, b < 1 → a ≠ b → (TX0 a).2.1 ≠ (TX0 b).2.1 := by decide +kernel
theorem tyX0_ok : ∀ k, k < 1 → parseFieldDescriptor (TX0 k).2.2.1 = some (tyX0 k) := by decide +kernel
def RX2 : String := "WellRefuses$Law"
def TX2 : u_T := fun k => match k with
  | 0 => ("WellRefuses$Law", "use", "I", true)
  | 1 => ("WellRefuses$Law", "signs", "[I", true)
  | 2 => ("WellRefuses$Law", "values", "[I", true)
  | 3 => ("WellRefuses$Law", "stack", "[I", true)
  | _ => ("WellRefuses$Law", "size", "I", false)
def tyX2 : Nat → FieldType := fun k => match k with
  | 0 => .int
  | 1 => .array .int
  | 2 => .array .int
  | 3 => .array .int
  | _ => .int
theorem nmX2 : ∀ a, a < 5 → ∀ b, b < 5 → a ≠ b → (TX2 a).2.1 ≠ (TX2 b).2.1 := by decide +kernel
theorem tyX2_ok : ∀ k, k < 5 → parseFieldDescriptor (TX2 k).2.2.1 = some (tyX2 k) := by decide +kernel
def RX3 : String := "WellRefuses$People"
def TX3 : u_T := fun k => match k with
  | 0 => ("WellRefuses$People", "gives", "LWellRefuses$Law;", true)
  | 1 => ("WellRefuses$People", "lends", "LWellRefuses$Law;", true)
  | 2 => ("WellRefuses$People", "kind", "[I", true)
  | 3 => ("WellRefuses$People", "m", "[I", true)
  | 4 => ("WellRefuses$People", "traits", "[I", true)
  | 5 => ("WellRefuses$People", "water", "[I", true)
  | 6 => ("WellRefuses$People", "thirst", "[I", true)
  | 7 => ("WellRefuses$People", "debts", "LWellRefuses$Debts;", true)
  | 8 => ("WellRefuses$People", "size", "I", false)
  | _ => ("WellRefuses$People", "day", "I", false)
def tyX3 : Nat → FieldType := fun k => match k with
  | 0 => .object "WellRefuses$Law"
  | 1 => .object "WellRefuses$Law"
  | 2 => .array .int
  | 3 => .array .int
  | 4 => .array .int
  | 5 => .array .int
  | 6 => .array .int
  | 7 => .object "WellRefuses$Debts"
  | 8 => .int
  | _ => .int
theorem nmX3 : ∀ a, a < 10 → ∀ b, b < 10 → a ≠ b → (TX3 a).2.1 ≠ (TX3 b).2.1 := by decide +kernel
theorem tyX3_ok : ∀ k, k < 10 → parseFieldDescriptor (TX3 k).2.2.1 = some (tyX3 k) := by decide +kernel
def RX4 : String := "WellRefuses$Reader"
def TX4 : u_T := fun k => match k with
  | 0 => ("WellRefuses$Reader", "draft", "LWellRefuses$Law;", true)
  | 1 => ("WellRefuses$Reader", "bytes", "LWellRefuses$Row;", true)
  | 2 => ("WellRefuses$Reader", "names", "Ljava/lang/String;", false)
  | 3 => ("WellRefuses$Reader", "at", "I", false)
  | _ => ("WellRefuses$Reader", "fault", "I", false)
def tyX4 : Nat → FieldType := fun k => match k with
  | 0 => .object "WellRefuses$Law"
  | 1 => .object "WellRefuses$Row"
  | 2 => .object "java/lang/String"
  | 3 => .int
  | _ => .int
theorem nmX4 : ∀ a, a < 5 → ∀ b, b < 5 → a ≠ b → (TX4 a).2.1 ≠ (TX4 b).2.1 := by decide +kernel
theorem tyX4_ok : ∀ k, k < 5 → parseFieldDescriptor (TX4 k).2.2.1 = some (tyX4 k) := by decide +kernel
def RX5 : String := "WellRefuses$Row"
def TX5 : u_T := fun k => match k with
  | 0 => ("WellRefuses$Row", "numbers", "[I", true)
  | _ => ("WellRefuses$Row", "size", "I", false)
def tyX5 : Nat → FieldType := fun k => match k with
  | 0 => .array .int
  | _ => .int
theorem nmX5 : ∀ a, a < 2 → ∀ b, b < 2 → a ≠ b → (TX5 a).2.1 ≠ (TX5 b).2.1 := by decide +kernel
theorem tyX5_ok : ∀ k, k < 2 → parseFieldDescriptor (TX5 k).2.2.1 = some (tyX5 k) := by decide +kernel
def RX6 : String := "WellRefuses$Rules"
def TX6 : u_T := fun k => match k with
  | 0 => ("WellRefuses$Rules", "fitting", "[I", true)
  | _ => ("WellRefuses$Rules", "size", "I", false)
def tyX6 : Nat → FieldType := fun k => match k with
  | 0 => .array .int
  | _ => .int
theorem nmX6 : ∀ a, a < 2 → ∀ b, b < 2 → a ≠ b → (TX6 a).2.1 ≠ (TX6 b).2.1 := by decide +kernel
theorem tyX6_ok : ∀ k, k < 2 → parseFieldDescriptor (TX6 k).2.2.1 = some (tyX6 k) := by decide +kernel
def RX7 : String := "WellRefuses$Sheet"
def TX7 : u_T := fun k => match k with
  | 0 => ("WellRefuses$Sheet", "numbers", "[I", true)
  | 1 => ("WellRefuses$Sheet", "bits", "I", false)
  | _ => ("WellRefuses$Sheet", "size", "I", false)
def tyX7 : Nat → FieldType := fun k => match k with
  | 0 => .array .int
  | 1 => .int
  | _ => .int
theorem nmX7 : ∀ a, a < 3 → ∀ b, b < 3 → a ≠ b → (TX7 a).2.1 ≠ (TX7 b).2.1 := by decide +kernel
theorem tyX7_ok : ∀ k, k < 3 → parseFieldDescriptor (TX7 k).2.2.1 = some (tyX7 k) := by decide +kernel
def RX8 : String := "WellRefuses$Thought"
def TX8 : u_T := fun k => match k with
  | 0 => ("WellRefuses$Thought", "real", "LWellRefuses$People;", true)
  | 1 => ("WellRefuses$Thought", "ahead", "LWellRefuses$People;", true)
  | _ => ("WellRefuses$Thought", "without", "LWellRefuses$People;", true)
def tyX8 : Nat → FieldType := fun k => match k with
  | 0 => .object "WellRefuses$People"
  | 1 => .object "WellRefuses$People"
  | _ => .object "WellRefuses$People"
theorem nmX8 : ∀ a, a < 3 → ∀ b, b < 3 → a ≠ b → (TX8 a).2.1 ≠ (TX8 b).2.1 := by decide +kernel
theorem tyX8_ok : ∀ k, k < 3 → parseFieldDescriptor (TX8 k).2.2.1 = some (tyX8 k) := by decide +kernel
def RX9 : String := "WellRefuses$Voices"
def TX9 : u_T := fun k => match k with
  | 0 => ("WellRefuses$Voices", "bodies", "LWellRefuses$Row;", true)
  | 1 => ("WellRefuses$Voices", "kind", "I", false)
  | 2 => ("WellRefuses$Voices", "m", "I", false)
  | _ => ("WellRefuses$Voices", "n", "I", false)
def tyX9 : Nat → FieldType := fun k => match k with
  | 0 => .object "WellRefuses$Row"
  | 1 => .int
  | 2 => .int
  | _ => .int
theorem nmX9 : ∀ a, a < 4 → ∀ b, b < 4 → a ≠ b → (TX9 a).2.1 ≠ (TX9 b).2.1 := by decide +kernel
theorem tyX9_ok : ∀ k, k < 4 → parseFieldDescriptor (TX9 k).2.2.1 = some (tyX9 k) := by decide +kernel
def RX10 : String := "WellRefuses$Well"
def TX10 : u_T := fun k => match k with
  | 0 => ("WellRefuses$Well", "gives", "LWellRefuses$Law;", true)
  | 1 => ("WellRefuses$Well", "lends", "LWellRefuses$Law;", true)
  | 2 => ("WellRefuses$Well", "people", "LWellRefuses$People;", true)
  | 3 => ("WellRefuses$Well", "tape", "LWellRefuses$Row;", true)
  | 4 => ("WellRefuses$Well", "waiting", "LWellRefuses$Row;", true)
  | _ => ("WellRefuses$Well", "z", "I", false)
def tyX10 : Nat → FieldType := fun k => match k with
  | 0 => .object "WellRefuses$Law"
  | 1 => .object "WellRefuses$Law"
  | 2 => .object "WellRefuses$People"
  | 3 => .object "WellRefuses$Row"
  | 4 => .object "WellRefuses$Row"
  | _ => .int
theorem nmX10 : ∀ a, a < 6 → ∀ b, b < 6 → a ≠ b → (TX10 a).2.1 ≠ (TX10 b).2.1 := by decide +kernel
theorem tyX10_ok : ∀ k, k < 6 → parseFieldDescriptor (TX10 k).2.2.1 = some (tyX10 k) := by decide +kernel
def RX11 : String := "WellRefuses"
def TX11 : u_T := fun k => match k with
  | 0 => ("WellRefuses", "now", "LWellRefuses$Well;", true)
  | 1 => ("WellRefuses", "image", "LWellRefuses$Well;", true)
  | 2 => ("WellRefuses", "thought", "LWellRefuses$Thought;", true)
  | 3 => ("WellRefuses", "reader", "LWellRefuses$Reader;", true)
  | 4 => ("WellRefuses", "rules", "LWellRefuses$Rules;", true)
  | 5 => ("WellRefuses", "voices", "LWellRefuses$Voices;", true)
  | 6 => ("WellRefuses", "sheets", "[LWellRefuses$Sheet;", true)
  | 7 => ("WellRefuses", "told", "[I", true)
  | _ => ("WellRefuses", "images", "I", false)
def tyX11 : Nat → FieldType := fun k => match k with
  | 0 => .object "WellRefuses$Well"
  | 1 => .object "WellRefuses$Well"
  | 2 => .object "WellRefuses$Thought"
  | 3 => .object "WellRefuses$Reader"
  | 4 => .object "WellRefuses$Rules"
  | 5 => .object "WellRefuses$Voices"
  | 6 => .array (.object "WellRefuses$Sheet")
  | 7 => .array .int
  | _ => .int
theorem nmX11 : ∀ a, a < 9 → ∀ b, b < 9 → a ≠ b → (TX11 a).2.1 ≠ (TX11 b).2.1 := by decide +kernel
theorem tyX11_ok : ∀ k, k < 9 → parseFieldDescriptor (TX11 k).2.2.1 = some (tyX11 k) := by decide +kernel
def RX12 : String := "WellRefusesModel"
def TX12 : u_T := fun k => match k with
  | 0 => ("WellRefusesModel", "row", "[I", true)
  | 1 => ("WellRefusesModel", "kept", "[I", true)
  | 2 => ("WellRefusesModel", "tried", "[I", true)
  | 3 => ("WellRefusesModel", "before", "[I", true)
  | 4 => ("WellRefusesModel", "isKept", "Z", false)
  | 5 => ("WellRefusesModel", "images", "I", false)
  | 6 => ("WellRefusesModel", "found", "[I", true)
  | 7 => ("WellRefusesModel", "use", "I", false)
  | 8 => ("WellRefusesModel", "at", "I", false)
  | 9 => ("WellRefusesModel", "end", "I", false)
  | 10 => ("WellRefusesModel", "open", "I", false)
  | 11 => ("WellRefusesModel", "namedA", "I", false)
  | 12 => ("WellRefusesModel", "namedB", "I", false)
  | 13 => ("WellRefusesModel", "namedC", "I", false)
  | 14 => ("WellRefusesModel", "good", "Z", false)
  | 15 => ("WellRefusesModel", "mean", "I", false)
  | 16 => ("WellRefusesModel", "ringA", "I", false)
  | 17 => ("WellRefusesModel", "ringB", "I", false)
  | 18 => ("WellRefusesModel", "ringC", "I", false)
  | 19 => ("WellRefusesModel", "bitsOf", "[I", true)
  | 20 => ("WellRefusesModel", "sizeOf", "[I", true)
  | 21 => ("WellRefusesModel", "sheets", "[I", true)
  | 22 => ("WellRefusesModel", "moved", "[I", true)
  | 23 => ("WellRefusesModel", "thirsts", "[I", true)
  | 24 => ("WellRefusesModel", "traced", "[I", true)
  | 25 => ("WellRefusesModel", "tracedMany", "I", false)
  | 26 => ("WellRefusesModel", "voiceKind", "I", false)
  | 27 => ("WellRefusesModel", "voiceN", "I", false)
  | _ => ("WellRefusesModel", "voiceM", "I", false)
def tyX12 : Nat → FieldType := fun k => match k with
  | 0 => .array .int
  | 1 => .array .int
  | 2 => .array .int
  | 3 => .array .int
  | 4 => .boolean
  | 5 => .int
  | 6 => .array .int
  | 7 => .int
  | 8 => .int
  | 9 => .int
  | 10 => .int
  | 11 => .int
  | 12 => .int
  | 13 => .int
  | 14 => .boolean
  | 15 => .int
  | 16 => .int
  | 17 => .int
  | 18 => .int
  | 19 => .array .int
  | 20 => .array .int
  | 21 => .array .int
  | 22 => .array .int
  | 23 => .array .int
  | 24 => .array .int
  | 25 => .int
  | 26 => .int
  | 27 => .int
  | _ => .int
theorem nmX12 : ∀ a, a < 29 → ∀ b, b < 29 → a ≠ b → (TX12 a).2.1 ≠ (TX12 b).2.1 := by decide +kernel
theorem tyX12_ok : ∀ k, k < 29 → parseFieldDescriptor (TX12 k).2.2.1 = some (tyX12 k) := by decide +kernel
abbrev vwCl : List vw_C := [(RX0, TX0, 1), (RX2, TX2, 5), (RX3, TX3, 10), (RX4, TX4, 5), (RX5, TX5, 2), (RX6, TX6, 2), (RX7, TX7, 3), (RX8, TX8, 3), (RX9, TX9, 4), (RX10, TX10, 6), (RX11, TX11, 9), (RX12, TX12, 29)]
