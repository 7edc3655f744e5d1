def RX0 : String := "KeyOrchard$Bodies"
def TX0 : u_T := fun k => match k with
  | _ => ("KeyOrchard$Bodies", "trace", "I", false)
def tyX0 : Nat → FieldType := fun k => match k with
  | _ => .int
abbrev wsX00 : List Cond := u_ws RX0 TX0 1
theorem nmX0 : ∀ a, a < 1 → ∀ b, b < 1 → a ≠ b → (TX0 a).2.1 ≠ (TX0 b).2.1 := by decide +kernel
theorem tyX0_ok : ∀ k, k < 1 → parseFieldDescriptor (TX0 k).2.2.1 = some (tyX0 k) := by decide +kernel
abbrev cX0_init : ByteArray := prog_2_method_1_code
def yX0_init : MethodName := ⟨RX0, "<init>", "()V"⟩
def RX1 : String := "KeyOrchard$Grove"
def TX1 : u_T := fun k => match k with
  | 0 => ("KeyOrchard$Grove", "trees", "I", false)
  | 1 => ("KeyOrchard$Grove", "prisoners", "I", false)
  | 2 => ("KeyOrchard$Grove", "felled", "I", false)
  | 3 => ("KeyOrchard$Grove", "kind", "[I", true)
  | 4 => ("KeyOrchard$Grove", "lock", "[I", true)
  | 5 => ("KeyOrchard$Grove", "needs", "[I", true)
  | 6 => ("KeyOrchard$Grove", "wants", "[I", true)
  | 7 => ("KeyOrchard$Grove", "fits", "[I", true)
  | 8 => ("KeyOrchard$Grove", "prisonerLock", "[I", true)
  | 9 => ("KeyOrchard$Grove", "term", "[I", true)
  | _ => ("KeyOrchard$Grove", "endingOn", "[I", true)
def tyX1 : Nat → FieldType := fun k => match k with
  | 0 => .int
  | 1 => .int
  | 2 => .int
  | 3 => .array .int
  | 4 => .array .int
  | 5 => .array .int
  | 6 => .array .int
  | 7 => .array .int
  | 8 => .array .int
  | 9 => .array .int
  | _ => .array .int
abbrev wsX10 : List Cond := u_ws RX1 TX1 11
theorem nmX1 : ∀ a, a < 11 → ∀ b, b < 11 → a ≠ b → (TX1 a).2.1 ≠ (TX1 b).2.1 := by decide +kernel
theorem tyX1_ok : ∀ k, k < 11 → parseFieldDescriptor (TX1 k).2.2.1 = some (tyX1 k) := by decide +kernel
abbrev cX1_init : ByteArray := prog_3_method_1_code
def yX1_init : MethodName := ⟨RX1, "<init>", "()V"⟩
abbrev cX1_plant : ByteArray := prog_3_method_2_code
def yX1_plant : MethodName := ⟨RX1, "plant", "(LKeyOrchard$Text;)V"⟩
abbrev cX1_waterWantedBy : ByteArray := prog_3_method_3_code
def yX1_waterWantedBy : MethodName := ⟨RX1, "waterWantedBy", "(I)I"⟩
abbrev cX1_locksOpenedBy : ByteArray := prog_3_method_4_code
def yX1_locksOpenedBy : MethodName := ⟨RX1, "locksOpenedBy", "(I)I"⟩
abbrev cX1_prisonersFitting : ByteArray := prog_3_method_5_code
def yX1_prisonersFitting : MethodName := ⟨RX1, "prisonersFitting", "(I)I"⟩
abbrev cX1_isPlanted : ByteArray := prog_3_method_6_code
def yX1_isPlanted : MethodName := ⟨RX1, "isPlanted", "()Z"⟩
abbrev cX1_hasTree : ByteArray := prog_3_method_7_code
def yX1_hasTree : MethodName := ⟨RX1, "hasTree", "(I)Z"⟩
abbrev cX1_hasPrisoner : ByteArray := prog_3_method_8_code
def yX1_hasPrisoner : MethodName := ⟨RX1, "hasPrisoner", "(I)Z"⟩
abbrev cX1_allPrisoners : ByteArray := prog_3_method_10_code
def yX1_allPrisoners : MethodName := ⟨RX1, "allPrisoners", "()I"⟩
def RX2 : String := "KeyOrchard$Readings"
def TX2 : u_T := fun k => match k with
  | 0 => ("KeyOrchard$Readings", "prisoner", "[I", true)
  | 1 => ("KeyOrchard$Readings", "day", "[I", true)
  | 2 => ("KeyOrchard$Readings", "wasOut", "[Z", true)
  | _ => ("KeyOrchard$Readings", "count", "I", false)
def tyX2 : Nat → FieldType := fun k => match k with
  | 0 => .array .int
  | 1 => .array .int
  | 2 => .array .boolean
  | _ => .int
abbrev wsX20 : List Cond := u_ws RX2 TX2 4
theorem nmX2 : ∀ a, a < 4 → ∀ b, b < 4 → a ≠ b → (TX2 a).2.1 ≠ (TX2 b).2.1 := by decide +kernel
theorem tyX2_ok : ∀ k, k < 4 → parseFieldDescriptor (TX2 k).2.2.1 = some (tyX2 k) := by decide +kernel
abbrev cX2_init : ByteArray := prog_4_method_1_code
def yX2_init : MethodName := ⟨RX2, "<init>", "()V"⟩
def RX3 : String := "KeyOrchard$Search"
def TX3 : u_T := fun k => match k with
  | 0 => ("KeyOrchard$Search", "grove", "LKeyOrchard$Grove;", true)
  | 1 => ("KeyOrchard$Search", "season", "LKeyOrchard$Season;", true)
  | _ => ("KeyOrchard$Search", "found", "[I", true)
def tyX3 : Nat → FieldType := fun k => match k with
  | 0 => .object "KeyOrchard$Grove"
  | 1 => .object "KeyOrchard$Season"
  | _ => .array .int
abbrev wsX30 : List Cond := u_ws RX3 TX3 3
theorem nmX3 : ∀ a, a < 3 → ∀ b, b < 3 → a ≠ b → (TX3 a).2.1 ≠ (TX3 b).2.1 := by decide +kernel
theorem tyX3_ok : ∀ k, k < 3 → parseFieldDescriptor (TX3 k).2.2.1 = some (tyX3 k) := by decide +kernel
abbrev cX3_init : ByteArray := prog_5_method_1_code
def yX3_init : MethodName := ⟨RX3, "<init>", "(LKeyOrchard$Grove;LKeyOrchard$Season;)V"⟩
def RX4 : String := "KeyOrchard$Season"
def TX4 : u_T := fun k => match k with
  | 0 => ("KeyOrchard$Season", "grove", "LKeyOrchard$Grove;", true)
  | 1 => ("KeyOrchard$Season", "rain", "[I", true)
  | 2 => ("KeyOrchard$Season", "watered", "[I", true)
  | 3 => ("KeyOrchard$Season", "crowsOn", "[I", true)
  | 4 => ("KeyOrchard$Season", "frosts", "I", false)
  | 5 => ("KeyOrchard$Season", "felled", "I", false)
  | 6 => ("KeyOrchard$Season", "water", "[I", true)
  | 7 => ("KeyOrchard$Season", "outDay", "[I", true)
  | 8 => ("KeyOrchard$Season", "outBy", "[I", true)
  | _ => ("KeyOrchard$Season", "inside", "I", false)
def tyX4 : Nat → FieldType := fun k => match k with
  | 0 => .object "KeyOrchard$Grove"
  | 1 => .array .int
  | 2 => .array .int
  | 3 => .array .int
  | 4 => .int
  | 5 => .int
  | 6 => .array .int
  | 7 => .array .int
  | 8 => .array .int
  | _ => .int
abbrev wsX40 : List Cond := u_ws RX4 TX4 10
theorem nmX4 : ∀ a, a < 10 → ∀ b, b < 10 → a ≠ b → (TX4 a).2.1 ≠ (TX4 b).2.1 := by decide +kernel
theorem tyX4_ok : ∀ k, k < 10 → parseFieldDescriptor (TX4 k).2.2.1 = some (tyX4 k) := by decide +kernel
abbrev cX4_init : ByteArray := prog_6_method_1_code
def yX4_init : MethodName := ⟨RX4, "<init>", "(LKeyOrchard$Grove;)V"⟩
abbrev cX4_prepare : ByteArray := prog_6_method_2_code
def yX4_prepare : MethodName := ⟨RX4, "prepare", "(LKeyOrchard$Weather;)V"⟩
abbrev cX4_pass : ByteArray := prog_6_method_4_code
def yX4_pass : MethodName := ⟨RX4, "pass", "(I)V"⟩
abbrev cX4_sumOfOutDays : ByteArray := prog_6_method_8_code
def yX4_sumOfOutDays : MethodName := ⟨RX4, "sumOfOutDays", "()I"⟩
abbrev cX4_begin : ByteArray := prog_6_method_9_code
def yX4_begin : MethodName := ⟨RX4, "begin", "()V"⟩
abbrev cX4_passDay : ByteArray := prog_6_method_10_code
def yX4_passDay : MethodName := ⟨RX4, "passDay", "(I)V"⟩
abbrev cX4_giveWater : ByteArray := prog_6_method_11_code
def yX4_giveWater : MethodName := ⟨RX4, "giveWater", "(II)V"⟩
abbrev cX4_sendCrows : ByteArray := prog_6_method_12_code
def yX4_sendCrows : MethodName := ⟨RX4, "sendCrows", "(I)V"⟩
abbrev cX4_isRipe : ByteArray := prog_6_method_13_code
def yX4_isRipe : MethodName := ⟨RX4, "isRipe", "(I)Z"⟩
abbrev cX4_turnKeys : ByteArray := prog_6_method_14_code
def yX4_turnKeys : MethodName := ⟨RX4, "turnKeys", "(I)V"⟩
abbrev cX4_leastOf : ByteArray := prog_6_method_15_code
def yX4_leastOf : MethodName := ⟨RX4, "leastOf", "(I)I"⟩
abbrev cX4_endTerms : ByteArray := prog_6_method_16_code
def yX4_endTerms : MethodName := ⟨RX4, "endTerms", "(II)V"⟩
abbrev cX4_letOut : ByteArray := prog_6_method_17_code
def yX4_letOut : MethodName := ⟨RX4, "letOut", "(III)V"⟩
def RX5 : String := "KeyOrchard$Sheet"
def TX5 : u_T := fun k => match k with
  | 0 => ("KeyOrchard$Sheet", "cells", "[I", true)
  | 1 => ("KeyOrchard$Sheet", "hasRow", "Z", false)
  | 2 => ("KeyOrchard$Sheet", "lane", "I", false)
  | _ => ("KeyOrchard$Sheet", "length", "I", false)
def tyX5 : Nat → FieldType := fun k => match k with
  | 0 => .array .int
  | 1 => .boolean
  | 2 => .int
  | _ => .int
abbrev wsX50 : List Cond := u_ws RX5 TX5 4
theorem nmX5 : ∀ a, a < 4 → ∀ b, b < 4 → a ≠ b → (TX5 a).2.1 ≠ (TX5 b).2.1 := by decide +kernel
theorem tyX5_ok : ∀ k, k < 4 → parseFieldDescriptor (TX5 k).2.2.1 = some (tyX5 k) := by decide +kernel
abbrev cX5_init : ByteArray := prog_7_method_1_code
def yX5_init : MethodName := ⟨RX5, "<init>", "()V"⟩
abbrev cX5_renew : ByteArray := prog_7_method_2_code
def yX5_renew : MethodName := ⟨RX5, "renew", "(II)V"⟩
abbrev cX5_isOfOtherLane : ByteArray := prog_7_method_3_code
def yX5_isOfOtherLane : MethodName := ⟨RX5, "isOfOtherLane", "(I)Z"⟩
abbrev cX5_hasCells : ByteArray := prog_7_method_4_code
def yX5_hasCells : MethodName := ⟨RX5, "hasCells", "(II)Z"⟩
abbrev cX5_cutToLane : ByteArray := prog_7_method_5_code
def yX5_cutToLane : MethodName := ⟨RX5, "cutToLane", "(I)I"⟩
def RX6 : String := "KeyOrchard$Text"
def TX6 : u_T := fun k => match k with
  | 0 => ("KeyOrchard$Text", "codes", "[I", true)
  | 1 => ("KeyOrchard$Text", "length", "I", false)
  | 2 => ("KeyOrchard$Text", "trees", "I", false)
  | _ => ("KeyOrchard$Text", "prisoners", "I", false)
def tyX6 : Nat → FieldType := fun k => match k with
  | 0 => .array .int
  | 1 => .int
  | 2 => .int
  | _ => .int
abbrev wsX60 : List Cond := u_ws RX6 TX6 4
theorem nmX6 : ∀ a, a < 4 → ∀ b, b < 4 → a ≠ b → (TX6 a).2.1 ≠ (TX6 b).2.1 := by decide +kernel
theorem tyX6_ok : ∀ k, k < 4 → parseFieldDescriptor (TX6 k).2.2.1 = some (tyX6 k) := by decide +kernel
abbrev cX6_init : ByteArray := prog_8_method_1_code
def yX6_init : MethodName := ⟨RX6, "<init>", "()V"⟩
abbrev cX6_take : ByteArray := prog_8_method_2_code
def yX6_take : MethodName := ⟨RX6, "take", "(LKeyOrchard$Sheet;II)V"⟩
abbrev cX6_firstFault : ByteArray := prog_8_method_3_code
def yX6_firstFault : MethodName := ⟨RX6, "firstFault", "()I"⟩
abbrev cX6_codeAt : ByteArray := prog_8_method_4_code
def yX6_codeAt : MethodName := ⟨RX6, "codeAt", "(I)I"⟩
abbrev cX6_kindAt : ByteArray := prog_8_method_5_code
def yX6_kindAt : MethodName := ⟨RX6, "kindAt", "(I)I"⟩
abbrev cX6_digitAt : ByteArray := prog_8_method_6_code
def yX6_digitAt : MethodName := ⟨RX6, "digitAt", "(I)I"⟩
abbrev cX6_termAt : ByteArray := prog_8_method_7_code
def yX6_termAt : MethodName := ⟨RX6, "termAt", "(I)I"⟩
abbrev cX6_isDigit : ByteArray := prog_8_method_8_code
def yX6_isDigit : MethodName := ⟨RX6, "isDigit", "(III)Z"⟩
def RX7 : String := "KeyOrchard$Weather"
def TX7 : u_T := fun k => match k with
  | 0 => ("KeyOrchard$Weather", "rain", "[I", true)
  | 1 => ("KeyOrchard$Weather", "watered", "[I", true)
  | 2 => ("KeyOrchard$Weather", "crowDay", "[I", true)
  | 3 => ("KeyOrchard$Weather", "crowTree", "[I", true)
  | 4 => ("KeyOrchard$Weather", "frosts", "I", false)
  | _ => ("KeyOrchard$Weather", "crows", "I", false)
def tyX7 : Nat → FieldType := fun k => match k with
  | 0 => .array .int
  | 1 => .array .int
  | 2 => .array .int
  | 3 => .array .int
  | 4 => .int
  | _ => .int
abbrev wsX70 : List Cond := u_ws RX7 TX7 6
theorem nmX7 : ∀ a, a < 6 → ∀ b, b < 6 → a ≠ b → (TX7 a).2.1 ≠ (TX7 b).2.1 := by decide +kernel
theorem tyX7_ok : ∀ k, k < 6 → parseFieldDescriptor (TX7 k).2.2.1 = some (tyX7 k) := by decide +kernel
abbrev cX7_init : ByteArray := prog_9_method_1_code
def yX7_init : MethodName := ⟨RX7, "<init>", "()V"⟩
abbrev cX7_clear : ByteArray := prog_9_method_2_code
def yX7_clear : MethodName := ⟨RX7, "clear", "()V"⟩
abbrev cX7_addCrow : ByteArray := prog_9_method_3_code
def yX7_addCrow : MethodName := ⟨RX7, "addCrow", "(II)I"⟩
def RX8 : String := "KeyOrchard"
def TX8 : u_T := fun k => match k with
  | 0 => ("KeyOrchard", "sheets", "[LKeyOrchard$Sheet;", true)
  | 1 => ("KeyOrchard", "text", "LKeyOrchard$Text;", true)
  | 2 => ("KeyOrchard", "grove", "LKeyOrchard$Grove;", true)
  | 3 => ("KeyOrchard", "weather", "LKeyOrchard$Weather;", true)
  | 4 => ("KeyOrchard", "readings", "LKeyOrchard$Readings;", true)
  | 5 => ("KeyOrchard", "season", "LKeyOrchard$Season;", true)
  | 6 => ("KeyOrchard", "search", "LKeyOrchard$Search;", true)
  | 7 => ("KeyOrchard", "bodies", "LKeyOrchard$Bodies;", true)
  | _ => ("KeyOrchard", "latestFault", "I", false)
def tyX8 : Nat → FieldType := fun k => match k with
  | 0 => .array (.object "KeyOrchard$Sheet")
  | 1 => .object "KeyOrchard$Text"
  | 2 => .object "KeyOrchard$Grove"
  | 3 => .object "KeyOrchard$Weather"
  | 4 => .object "KeyOrchard$Readings"
  | 5 => .object "KeyOrchard$Season"
  | 6 => .object "KeyOrchard$Search"
  | 7 => .object "KeyOrchard$Bodies"
  | _ => .int
abbrev wsX80 : List Cond := u_ws RX8 TX8 9
theorem nmX8 : ∀ a, a < 9 → ∀ b, b < 9 → a ≠ b → (TX8 a).2.1 ≠ (TX8 b).2.1 := by decide +kernel
theorem tyX8_ok : ∀ k, k < 9 → parseFieldDescriptor (TX8 k).2.2.1 = some (tyX8 k) := by decide +kernel
abbrev cX8_init : ByteArray := prog_1_method_1_code
def yX8_init : MethodName := ⟨RX8, "<init>", "()V"⟩
abbrev cX8_orchard : ByteArray := prog_1_method_2_code
def yX8_orchard : MethodName := ⟨RX8, "orchard", "(IIII)I"⟩
abbrev cX8_ofTree : ByteArray := prog_1_method_3_code
def yX8_ofTree : MethodName := ⟨RX8, "ofTree", "(II)I"⟩
abbrev cX8_ofPrisoner : ByteArray := prog_1_method_4_code
def yX8_ofPrisoner : MethodName := ⟨RX8, "ofPrisoner", "(II)I"⟩
abbrev cX8_rain : ByteArray := prog_1_method_5_code
def yX8_rain : MethodName := ⟨RX8, "rain", "(II)I"⟩
abbrev cX8_water : ByteArray := prog_1_method_6_code
def yX8_water : MethodName := ⟨RX8, "water", "(II)I"⟩
abbrev cX8_frost : ByteArray := prog_1_method_7_code
def yX8_frost : MethodName := ⟨RX8, "frost", "(IZ)I"⟩
abbrev cX8_crow : ByteArray := prog_1_method_8_code
def yX8_crow : MethodName := ⟨RX8, "crow", "(II)I"⟩
abbrev cX8_shoo : ByteArray := prog_1_method_9_code
def yX8_shoo : MethodName := ⟨RX8, "shoo", "(I)I"⟩
abbrev cX8_fell : ByteArray := prog_1_method_10_code
def yX8_fell : MethodName := ⟨RX8, "fell", "(IZ)I"⟩
abbrev cX8_out : ByteArray := prog_1_method_11_code
def yX8_out : MethodName := ⟨RX8, "out", "(I)I"⟩
abbrev cX8_by : ByteArray := prog_1_method_12_code
def yX8_by : MethodName := ⟨RX8, "by", "(I)I"⟩
abbrev cX8_free : ByteArray := prog_1_method_13_code
def yX8_free : MethodName := ⟨RX8, "free", "(I)I"⟩
abbrev cX8_has : ByteArray := prog_1_method_14_code
def yX8_has : MethodName := ⟨RX8, "has", "(II)I"⟩
abbrev cX8_worth : ByteArray := prog_1_method_18_code
def yX8_worth : MethodName := ⟨RX8, "worth", "(I)I"⟩
abbrev cX8_sheet : ByteArray := prog_1_method_24_code
def yX8_sheet : MethodName := ⟨RX8, "sheet", "(III)I"⟩
abbrev cX8_put : ByteArray := prog_1_method_26_code
def yX8_put : MethodName := ⟨RX8, "put", "(III)I"⟩
abbrev cX8_sheetOf : ByteArray := prog_1_method_35_code
def yX8_sheetOf : MethodName := ⟨RX8, "sheetOf", "(I)LKeyOrchard$Sheet;"⟩
abbrev cX8_faulted : ByteArray := prog_1_method_36_code
def yX8_faulted : MethodName := ⟨RX8, "faulted", "(I)I"⟩
abbrev cX8_passAsTold : ByteArray := prog_1_method_38_code
def yX8_passAsTold : MethodName := ⟨RX8, "passAsTold", "(I)V"⟩
abbrev cX8_isDay : ByteArray := prog_1_method_39_code
def yX8_isDay : MethodName := ⟨RX8, "isDay", "(I)Z"⟩
abbrev cX8_isLane : ByteArray := prog_1_method_40_code
def yX8_isLane : MethodName := ⟨RX8, "isLane", "(I)Z"⟩
abbrev cX8_isIn : ByteArray := prog_1_method_41_code
def yX8_isIn : MethodName := ⟨RX8, "isIn", "(II)Z"⟩
def RX9 : String := "KeyOrchardModel"
def TX9 : u_T := fun k => match k with
  | _ => ("", "", "", false)
def tyX9 : Nat → FieldType := fun k => match k with
  | _ => .int
abbrev wsX90 : List Cond := u_ws RX9 TX9 0
theorem nmX9 : ∀ a, a < 0 → ∀ b, b < 0 → a ≠ b → (TX9 a).2.1 ≠ (TX9 b).2.1 := by decide +kernel
theorem tyX9_ok : ∀ k, k < 0 → parseFieldDescriptor (TX9 k).2.2.1 = some (tyX9 k) := by decide +kernel
def RJ10 : String := "java/lang/System"
def TJ10 : u_T := fun k => match k with
  | _ => ("", "", "", false)
def tyJ10 : Nat → FieldType := fun k => match k with
  | _ => .int
abbrev wsJ100 : List Cond := u_ws RJ10 TJ10 0
theorem nmJ10 : ∀ a, a < 0 → ∀ b, b < 0 → a ≠ b → (TJ10 a).2.1 ≠ (TJ10 b).2.1 := by decide +kernel
theorem tyJ10_ok : ∀ k, k < 0 → parseFieldDescriptor (TJ10 k).2.2.1 = some (tyJ10 k) := by decide +kernel
def RJ7 : String := "java/util/Arrays"
def TJ7 : u_T := fun k => match k with
  | _ => ("", "", "", false)
def tyJ7 : Nat → FieldType := fun k => match k with
  | _ => .int
abbrev wsJ70 : List Cond := u_ws RJ7 TJ7 0
theorem nmJ7 : ∀ a, a < 0 → ∀ b, b < 0 → a ≠ b → (TJ7 a).2.1 ≠ (TJ7 b).2.1 := by decide +kernel
theorem tyJ7_ok : ∀ k, k < 0 → parseFieldDescriptor (TJ7 k).2.2.1 = some (tyJ7 k) := by decide +kernel
abbrev cJ7_fill_53178 : ByteArray := prog_13_method_103_code
def yJ7_fill_53178 : MethodName := ⟨RJ7, "fill", "([II)V"⟩
def RL : String := "KeyOrchardLaw"
abbrev cL_cell : ByteArray := method_2_code
def yL_cell : MethodName := ⟨RL, "cell", "([II)I"⟩
abbrev cL_some : ByteArray := method_3_code
def yL_some : MethodName := ⟨RL, "some", "(II)I"⟩
abbrev cL_put : ByteArray := method_4_code
def yL_put : MethodName := ⟨RL, "put", "(LKeyOrchard;[III[I[I[I[I)I"⟩
abbrev cL_change : ByteArray := method_5_code
def yL_change : MethodName := ⟨RL, "change", "(LKeyOrchard;II[I[I[I[I)Z"⟩
abbrev cL_wants : ByteArray := method_6_code
def yL_wants : MethodName := ⟨RL, "wants", "([II)I"⟩
abbrev cL_opens : ByteArray := method_7_code
def yL_opens : MethodName := ⟨RL, "opens", "([III)Z"⟩
abbrev cL_go : ByteArray := method_8_code
def yL_go : MethodName := ⟨RL, "go", "([I[I[I[II[I)V"⟩
abbrev cL_law : ByteArray := code
def yL_law : MethodName := ⟨RL, "law", "([I)Z"⟩
set_option maxRecDepth 20000 in
theorem inJ10 : ∀ w ∈ wsJ100, w ∈ lw_tbl := by decide +kernel
theorem inJ7 : ∀ w ∈ wsJ70, w ∈ lw_tbl := by decide +kernel
abbrev vwCl : List vw_C := [(RX0, TX0, 1), (RX1, TX1, 11), (RX2, TX2, 4), (RX3, TX3, 3), (RX4, TX4, 10), (RX5, TX5, 4), (RX6, TX6, 4), (RX7, TX7, 6), (RX8, TX8, 9)]
