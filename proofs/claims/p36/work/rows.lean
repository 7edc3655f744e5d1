section
-- ===== PART A: goes FIRST, ahead of the names: the tables' words, and 'selects' of the private methods out of them =====
/-- a private method of a class that the tables say can be made, by its rows of tables_1 -/
def lw_okq (q : MethodName × Nat) : Prop := (q.1.cls ≠ "java/lang/invoke/MethodHandle" ∧ q.1.cls ≠ "java/lang/invoke/VarHandle") ∧ Cond.instantiable q.1.cls q.2 ∈ tables_1 ∧ Cond.privateMethod q.1 ∈ tables_1 ∧ Cond.instanceMethod q.1 ∈ tables_1
theorem lw_p0 : lw_okq (⟨"KeyOrchard", "sheetOf", "(I)LKeyOrchard$Sheet;"⟩, 9) := ⟨⟨by decide +kernel, by decide +kernel⟩, List.mem_of_getElem? (i := 13) (by decide +kernel), List.mem_of_getElem? (i := 276) (by decide +kernel), List.mem_of_getElem? (i := 277) (by decide +kernel)⟩
theorem lw_p1 : lw_okq (⟨"KeyOrchard", "faulted", "(I)I"⟩, 9) := ⟨⟨by decide +kernel, by decide +kernel⟩, List.mem_of_getElem? (i := 13) (by decide +kernel), List.mem_of_getElem? (i := 287) (by decide +kernel), List.mem_of_getElem? (i := 288) (by decide +kernel)⟩
theorem lw_p2 : lw_okq (⟨"KeyOrchard$Text", "codeAt", "(I)I"⟩, 4) := ⟨⟨by decide +kernel, by decide +kernel⟩, List.mem_of_getElem? (i := 23) (by decide +kernel), List.mem_of_getElem? (i := 306) (by decide +kernel), List.mem_of_getElem? (i := 307) (by decide +kernel)⟩
theorem lw_p3 : lw_okq (⟨"KeyOrchard$Text", "isDigit", "(III)Z"⟩, 4) := ⟨⟨by decide +kernel, by decide +kernel⟩, List.mem_of_getElem? (i := 23) (by decide +kernel), List.mem_of_getElem? (i := 314) (by decide +kernel), List.mem_of_getElem? (i := 315) (by decide +kernel)⟩
theorem lw_p4 : lw_okq (⟨"KeyOrchard$Grove", "waterWantedBy", "(I)I"⟩, 11) := ⟨⟨by decide +kernel, by decide +kernel⟩, List.mem_of_getElem? (i := 111) (by decide +kernel), List.mem_of_getElem? (i := 328) (by decide +kernel), List.mem_of_getElem? (i := 329) (by decide +kernel)⟩
theorem lw_p5 : lw_okq (⟨"KeyOrchard$Grove", "prisonersFitting", "(I)I"⟩, 11) := ⟨⟨by decide +kernel, by decide +kernel⟩, List.mem_of_getElem? (i := 111) (by decide +kernel), List.mem_of_getElem? (i := 342) (by decide +kernel), List.mem_of_getElem? (i := 343) (by decide +kernel)⟩
theorem lw_p6 : lw_okq (⟨"KeyOrchard", "passAsTold", "(I)V"⟩, 9) := ⟨⟨by decide +kernel, by decide +kernel⟩, List.mem_of_getElem? (i := 13) (by decide +kernel), List.mem_of_getElem? (i := 413) (by decide +kernel), List.mem_of_getElem? (i := 414) (by decide +kernel)⟩
theorem lw_p7 : lw_okq (⟨"KeyOrchard$Season", "begin", "()V"⟩, 10) := ⟨⟨by decide +kernel, by decide +kernel⟩, List.mem_of_getElem? (i := 165) (by decide +kernel), List.mem_of_getElem? (i := 427) (by decide +kernel), List.mem_of_getElem? (i := 428) (by decide +kernel)⟩
theorem lw_p8 : lw_okq (⟨"KeyOrchard$Season", "passDay", "(I)V"⟩, 10) := ⟨⟨by decide +kernel, by decide +kernel⟩, List.mem_of_getElem? (i := 165) (by decide +kernel), List.mem_of_getElem? (i := 435) (by decide +kernel), List.mem_of_getElem? (i := 436) (by decide +kernel)⟩
theorem lw_p9 : lw_okq (⟨"KeyOrchard$Season", "giveWater", "(II)V"⟩, 10) := ⟨⟨by decide +kernel, by decide +kernel⟩, List.mem_of_getElem? (i := 165) (by decide +kernel), List.mem_of_getElem? (i := 440) (by decide +kernel), List.mem_of_getElem? (i := 441) (by decide +kernel)⟩
theorem lw_p10 : lw_okq (⟨"KeyOrchard$Season", "sendCrows", "(I)V"⟩, 10) := ⟨⟨by decide +kernel, by decide +kernel⟩, List.mem_of_getElem? (i := 165) (by decide +kernel), List.mem_of_getElem? (i := 445) (by decide +kernel), List.mem_of_getElem? (i := 446) (by decide +kernel)⟩
theorem lw_p11 : lw_okq (⟨"KeyOrchard$Season", "isRipe", "(I)Z"⟩, 10) := ⟨⟨by decide +kernel, by decide +kernel⟩, List.mem_of_getElem? (i := 165) (by decide +kernel), List.mem_of_getElem? (i := 449) (by decide +kernel), List.mem_of_getElem? (i := 450) (by decide +kernel)⟩
theorem lw_p12 : lw_okq (⟨"KeyOrchard$Season", "turnKeys", "(I)V"⟩, 10) := ⟨⟨by decide +kernel, by decide +kernel⟩, List.mem_of_getElem? (i := 165) (by decide +kernel), List.mem_of_getElem? (i := 453) (by decide +kernel), List.mem_of_getElem? (i := 454) (by decide +kernel)⟩
theorem lw_p13 : lw_okq (⟨"KeyOrchard$Season", "leastOf", "(I)I"⟩, 10) := ⟨⟨by decide +kernel, by decide +kernel⟩, List.mem_of_getElem? (i := 165) (by decide +kernel), List.mem_of_getElem? (i := 457) (by decide +kernel), List.mem_of_getElem? (i := 458) (by decide +kernel)⟩
theorem lw_p14 : lw_okq (⟨"KeyOrchard$Season", "letOut", "(III)V"⟩, 10) := ⟨⟨by decide +kernel, by decide +kernel⟩, List.mem_of_getElem? (i := 165) (by decide +kernel), List.mem_of_getElem? (i := 461) (by decide +kernel), List.mem_of_getElem? (i := 462) (by decide +kernel)⟩
theorem lw_p15 : lw_okq (⟨"KeyOrchard$Season", "endTerms", "(II)V"⟩, 10) := ⟨⟨by decide +kernel, by decide +kernel⟩, List.mem_of_getElem? (i := 165) (by decide +kernel), List.mem_of_getElem? (i := 465) (by decide +kernel), List.mem_of_getElem? (i := 466) (by decide +kernel)⟩
def lw_privs_1 : List (MethodName × Nat) := [(⟨"KeyOrchard", "sheetOf", "(I)LKeyOrchard$Sheet;"⟩, 9), (⟨"KeyOrchard", "faulted", "(I)I"⟩, 9), (⟨"KeyOrchard$Text", "codeAt", "(I)I"⟩, 4), (⟨"KeyOrchard$Text", "isDigit", "(III)Z"⟩, 4), (⟨"KeyOrchard$Grove", "waterWantedBy", "(I)I"⟩, 11), (⟨"KeyOrchard$Grove", "prisonersFitting", "(I)I"⟩, 11), (⟨"KeyOrchard", "passAsTold", "(I)V"⟩, 9), (⟨"KeyOrchard$Season", "begin", "()V"⟩, 10), (⟨"KeyOrchard$Season", "passDay", "(I)V"⟩, 10), (⟨"KeyOrchard$Season", "giveWater", "(II)V"⟩, 10), (⟨"KeyOrchard$Season", "sendCrows", "(I)V"⟩, 10), (⟨"KeyOrchard$Season", "isRipe", "(I)Z"⟩, 10), (⟨"KeyOrchard$Season", "turnKeys", "(I)V"⟩, 10), (⟨"KeyOrchard$Season", "leastOf", "(I)I"⟩, 10), (⟨"KeyOrchard$Season", "letOut", "(III)V"⟩, 10), (⟨"KeyOrchard$Season", "endTerms", "(II)V"⟩, 10)]
theorem lw_r1 : ∀ q ∈ lw_privs_1, lw_okq q := List.forall_mem_cons.mpr ⟨lw_p0, List.forall_mem_cons.mpr ⟨lw_p1, List.forall_mem_cons.mpr ⟨lw_p2, List.forall_mem_cons.mpr ⟨lw_p3, List.forall_mem_cons.mpr ⟨lw_p4, List.forall_mem_cons.mpr ⟨lw_p5, List.forall_mem_cons.mpr ⟨lw_p6, List.forall_mem_cons.mpr ⟨lw_p7, List.forall_mem_cons.mpr ⟨lw_p8, List.forall_mem_cons.mpr ⟨lw_p9, List.forall_mem_cons.mpr ⟨lw_p10, List.forall_mem_cons.mpr ⟨lw_p11, List.forall_mem_cons.mpr ⟨lw_p12, List.forall_mem_cons.mpr ⟨lw_p13, List.forall_mem_cons.mpr ⟨lw_p14, List.forall_mem_cons.mpr ⟨lw_p15, fun _ h => absurd h List.not_mem_nil⟩⟩⟩⟩⟩⟩⟩⟩⟩⟩⟩⟩⟩⟩⟩⟩
def lw_privs : List (MethodName × Nat) := lw_privs_1
def lw_tbl : List Cond := k2_sels lw_privs ++ tables_1
theorem lw_privs_ok : ∀ q ∈ lw_privs, lw_okq q := lw_r1
end
section
def RX0 : String := "KeyOrchard$Bodies"
def TX0 : u_T := fun k => match k with
  | _ => ("KeyOrchard$Bodies", "trace", "I", false)
def tyX0 : Nat → FieldType := fun k => match k with
  | _ => .int
abbrev wsX00 : List Cond := u_ws RX0 TX0 1
theorem nmX0 : ∀ a, a < 1 → ∀ b, b < 1 → a ≠ b → (TX0 a).2.1 ≠ (TX0 b).2.1 := by decide +kernel
theorem tyX0_ok : ∀ k, k < 1 → parseFieldDescriptor (TX0 k).2.2.1 = some (tyX0 k) := by decide +kernel
abbrev cX0_init : ByteArray := prog_2_method_1_code
def yX0_init : MethodName := ⟨RX0, "<init>", "()V"⟩
def RX1 : String := "KeyOrchard$Grove"
def TX1 : u_T := fun k => match k with
  | 0 => ("KeyOrchard$Grove", "trees", "I", false)
  | 1 => ("KeyOrchard$Grove", "prisoners", "I", false)
  | 2 => ("KeyOrchard$Grove", "felled", "I", false)
  | 3 => ("KeyOrchard$Grove", "kind", "[I", true)
  | 4 => ("KeyOrchard$Grove", "lock", "[I", true)
  | 5 => ("KeyOrchard$Grove", "needs", "[I", true)
  | 6 => ("KeyOrchard$Grove", "wants", "[I", true)
  | 7 => ("KeyOrchard$Grove", "fits", "[I", true)
  | 8 => ("KeyOrchard$Grove", "prisonerLock", "[I", true)
  | 9 => ("KeyOrchard$Grove", "term", "[I", true)
  | _ => ("KeyOrchard$Grove", "endingOn", "[I", true)
def tyX1 : Nat → FieldType := fun k => match k with
  | 0 => .int
  | 1 => .int
  | 2 => .int
  | 3 => .array .int
  | 4 => .array .int
  | 5 => .array .int
  | 6 => .array .int
  | 7 => .array .int
  | 8 => .array .int
  | 9 => .array .int
  | _ => .array .int
abbrev wsX10 : List Cond := u_ws RX1 TX1 11
theorem nmX1 : ∀ a, a < 11 → ∀ b, b < 11 → a ≠ b → (TX1 a).2.1 ≠ (TX1 b).2.1 := by decide +kernel
theorem tyX1_ok : ∀ k, k < 11 → parseFieldDescriptor (TX1 k).2.2.1 = some (tyX1 k) := by decide +kernel
abbrev cX1_init : ByteArray := prog_3_method_1_code
def yX1_init : MethodName := ⟨RX1, "<init>", "()V"⟩
abbrev cX1_plant : ByteArray := prog_3_method_2_code
def yX1_plant : MethodName := ⟨RX1, "plant", "(LKeyOrchard$Text;)V"⟩
abbrev cX1_waterWantedBy : ByteArray := prog_3_method_3_code
def yX1_waterWantedBy : MethodName := ⟨RX1, "waterWantedBy", "(I)I"⟩
abbrev cX1_locksOpenedBy : ByteArray := prog_3_method_4_code
def yX1_locksOpenedBy : MethodName := ⟨RX1, "locksOpenedBy", "(I)I"⟩
abbrev cX1_prisonersFitting : ByteArray := prog_3_method_5_code
def yX1_prisonersFitting : MethodName := ⟨RX1, "prisonersFitting", "(I)I"⟩
abbrev cX1_isPlanted : ByteArray := prog_3_method_6_code
def yX1_isPlanted : MethodName := ⟨RX1, "isPlanted", "()Z"⟩
abbrev cX1_hasTree : ByteArray := prog_3_method_7_code
def yX1_hasTree : MethodName := ⟨RX1, "hasTree", "(I)Z"⟩
abbrev cX1_hasPrisoner : ByteArray := prog_3_method_8_code
def yX1_hasPrisoner : MethodName := ⟨RX1, "hasPrisoner", "(I)Z"⟩
abbrev cX1_allPrisoners : ByteArray := prog_3_method_10_code
def yX1_allPrisoners : MethodName := ⟨RX1, "allPrisoners", "()I"⟩
def RX2 : String := "KeyOrchard$Readings"
def TX2 : u_T := fun k => match k with
  | 0 => ("KeyOrchard$Readings", "prisoner", "[I", true)
  | 1 => ("KeyOrchard$Readings", "day", "[I", true)
  | 2 => ("KeyOrchard$Readings", "wasOut", "[Z", true)
  | _ => ("KeyOrchard$Readings", "count", "I", false)
def tyX2 : Nat → FieldType := fun k => match k with
  | 0 => .array .int
  | 1 => .array .int
  | 2 => .array .boolean
  | _ => .int
abbrev wsX20 : List Cond := u_ws RX2 TX2 4
theorem nmX2 : ∀ a, a < 4 → ∀ b, b < 4 → a ≠ b → (TX2 a).2.1 ≠ (TX2 b).2.1 := by decide +kernel
theorem tyX2_ok : ∀ k, k < 4 → parseFieldDescriptor (TX2 k).2.2.1 = some (tyX2 k) := by decide +kernel
abbrev cX2_init : ByteArray := prog_4_method_1_code
def yX2_init : MethodName := ⟨RX2, "<init>", "()V"⟩
def RX3 : String := "KeyOrchard$Search"
def TX3 : u_T := fun k => match k with
  | 0 => ("KeyOrchard$Search", "grove", "LKeyOrchard$Grove;", true)
  | 1 => ("KeyOrchard$Search", "season", "LKeyOrchard$Season;", true)
  | _ => ("KeyOrchard$Search", "found", "[I", true)
def tyX3 : Nat → FieldType := fun k => match k with
  | 0 => .object "KeyOrchard$Grove"
  | 1 => .object "KeyOrchard$Season"
  | _ => .array .int
abbrev wsX30 : List Cond := u_ws RX3 TX3 3
theorem nmX3 : ∀ a, a < 3 → ∀ b, b < 3 → a ≠ b → (TX3 a).2.1 ≠ (TX3 b).2.1 := by decide +kernel
theorem tyX3_ok : ∀ k, k < 3 → parseFieldDescriptor (TX3 k).2.2.1 = some (tyX3 k) := by decide +kernel
abbrev cX3_init : ByteArray := prog_5_method_1_code
def yX3_init : MethodName := ⟨RX3, "<init>", "(LKeyOrchard$Grove;LKeyOrchard$Season;)V"⟩
def RX4 : String := "KeyOrchard$Season"
def TX4 : u_T := fun k => match k with
  | 0 => ("KeyOrchard$Season", "grove", "LKeyOrchard$Grove;", true)
  | 1 => ("KeyOrchard$Season", "rain", "[I", true)
  | 2 => ("KeyOrchard$Season", "watered", "[I", true)
  | 3 => ("KeyOrchard$Season", "crowsOn", "[I", true)
  | 4 => ("KeyOrchard$Season", "frosts", "I", false)
  | 5 => ("KeyOrchard$Season", "felled", "I", false)
  | 6 => ("KeyOrchard$Season", "water", "[I", true)
  | 7 => ("KeyOrchard$Season", "outDay", "[I", true)
  | 8 => ("KeyOrchard$Season", "outBy", "[I", true)
  | _ => ("KeyOrchard$Season", "inside", "I", false)
def tyX4 : Nat → FieldType := fun k => match k with
  | 0 => .object "KeyOrchard$Grove"
  | 1 => .array .int
  | 2 => .array .int
  | 3 => .array .int
  | 4 => .int
  | 5 => .int
  | 6 => .array .int
  | 7 => .array .int
  | 8 => .array .int
  | _ => .int
abbrev wsX40 : List Cond := u_ws RX4 TX4 10
theorem nmX4 : ∀ a, a < 10 → ∀ b, b < 10 → a ≠ b → (TX4 a).2.1 ≠ (TX4 b).2.1 := by decide +kernel
theorem tyX4_ok : ∀ k, k < 10 → parseFieldDescriptor (TX4 k).2.2.1 = some (tyX4 k) := by decide +kernel
abbrev cX4_init : ByteArray := prog_6_method_1_code
def yX4_init : MethodName := ⟨RX4, "<init>", "(LKeyOrchard$Grove;)V"⟩
abbrev cX4_prepare : ByteArray := prog_6_method_2_code
def yX4_prepare : MethodName := ⟨RX4, "prepare", "(LKeyOrchard$Weather;)V"⟩
abbrev cX4_pass : ByteArray := prog_6_method_4_code
def yX4_pass : MethodName := ⟨RX4, "pass", "(I)V"⟩
abbrev cX4_sumOfOutDays : ByteArray := prog_6_method_8_code
def yX4_sumOfOutDays : MethodName := ⟨RX4, "sumOfOutDays", "()I"⟩
abbrev cX4_begin : ByteArray := prog_6_method_9_code
def yX4_begin : MethodName := ⟨RX4, "begin", "()V"⟩
abbrev cX4_passDay : ByteArray := prog_6_method_10_code
def yX4_passDay : MethodName := ⟨RX4, "passDay", "(I)V"⟩
abbrev cX4_giveWater : ByteArray := prog_6_method_11_code
def yX4_giveWater : MethodName := ⟨RX4, "giveWater", "(II)V"⟩
abbrev cX4_sendCrows : ByteArray := prog_6_method_12_code
def yX4_sendCrows : MethodName := ⟨RX4, "sendCrows", "(I)V"⟩
abbrev cX4_isRipe : ByteArray := prog_6_method_13_code
def yX4_isRipe : MethodName := ⟨RX4, "isRipe", "(I)Z"⟩
abbrev cX4_turnKeys : ByteArray := prog_6_method_14_code
def yX4_turnKeys : MethodName := ⟨RX4, "turnKeys", "(I)V"⟩
abbrev cX4_leastOf : ByteArray := prog_6_method_15_code
def yX4_leastOf : MethodName := ⟨RX4, "leastOf", "(I)I"⟩
abbrev cX4_endTerms : ByteArray := prog_6_method_16_code
def yX4_endTerms : MethodName := ⟨RX4, "endTerms", "(II)V"⟩
abbrev cX4_letOut : ByteArray := prog_6_method_17_code
def yX4_letOut : MethodName := ⟨RX4, "letOut", "(III)V"⟩
def RX5 : String := "KeyOrchard$Sheet"
def TX5 : u_T := fun k => match k with
  | 0 => ("KeyOrchard$Sheet", "cells", "[I", true)
  | 1 => ("KeyOrchard$Sheet", "hasRow", "Z", false)
  | 2 => ("KeyOrchard$Sheet", "lane", "I", false)
  | _ => ("KeyOrchard$Sheet", "length", "I", false)
def tyX5 : Nat → FieldType := fun k => match k with
  | 0 => .array .int
  | 1 => .boolean
  | 2 => .int
  | _ => .int
abbrev wsX50 : List Cond := u_ws RX5 TX5 4
theorem nmX5 : ∀ a, a < 4 → ∀ b, b < 4 → a ≠ b → (TX5 a).2.1 ≠ (TX5 b).2.1 := by decide +kernel
theorem tyX5_ok : ∀ k, k < 4 → parseFieldDescriptor (TX5 k).2.2.1 = some (tyX5 k) := by decide +kernel
abbrev cX5_init : ByteArray := prog_7_method_1_code
def yX5_init : MethodName := ⟨RX5, "<init>", "()V"⟩
abbrev cX5_renew : ByteArray := prog_7_method_2_code
def yX5_renew : MethodName := ⟨RX5, "renew", "(II)V"⟩
abbrev cX5_isOfOtherLane : ByteArray := prog_7_method_3_code
def yX5_isOfOtherLane : MethodName := ⟨RX5, "isOfOtherLane", "(I)Z"⟩
abbrev cX5_hasCells : ByteArray := prog_7_method_4_code
def yX5_hasCells : MethodName := ⟨RX5, "hasCells", "(II)Z"⟩
abbrev cX5_cutToLane : ByteArray := prog_7_method_5_code
def yX5_cutToLane : MethodName := ⟨RX5, "cutToLane", "(I)I"⟩
def RX6 : String := "KeyOrchard$Text"
def TX6 : u_T := fun k => match k with
  | 0 => ("KeyOrchard$Text", "codes", "[I", true)
  | 1 => ("KeyOrchard$Text", "length", "I", false)
  | 2 => ("KeyOrchard$Text", "trees", "I", false)
  | _ => ("KeyOrchard$Text", "prisoners", "I", false)
def tyX6 : Nat → FieldType := fun k => match k with
  | 0 => .array .int
  | 1 => .int
  | 2 => .int
  | _ => .int
abbrev wsX60 : List Cond := u_ws RX6 TX6 4
theorem nmX6 : ∀ a, a < 4 → ∀ b, b < 4 → a ≠ b → (TX6 a).2.1 ≠ (TX6 b).2.1 := by decide +kernel
theorem tyX6_ok : ∀ k, k < 4 → parseFieldDescriptor (TX6 k).2.2.1 = some (tyX6 k) := by decide +kernel
abbrev cX6_init : ByteArray := prog_8_method_1_code
def yX6_init : MethodName := ⟨RX6, "<init>", "()V"⟩
abbrev cX6_take : ByteArray := prog_8_method_2_code
def yX6_take : MethodName := ⟨RX6, "take", "(LKeyOrchard$Sheet;II)V"⟩
abbrev cX6_firstFault : ByteArray := prog_8_method_3_code
def yX6_firstFault : MethodName := ⟨RX6, "firstFault", "()I"⟩
abbrev cX6_codeAt : ByteArray := prog_8_method_4_code
def yX6_codeAt : MethodName := ⟨RX6, "codeAt", "(I)I"⟩
abbrev cX6_kindAt : ByteArray := prog_8_method_5_code
def yX6_kindAt : MethodName := ⟨RX6, "kindAt", "(I)I"⟩
abbrev cX6_digitAt : ByteArray := prog_8_method_6_code
def yX6_digitAt : MethodName := ⟨RX6, "digitAt", "(I)I"⟩
abbrev cX6_termAt : ByteArray := prog_8_method_7_code
def yX6_termAt : MethodName := ⟨RX6, "termAt", "(I)I"⟩
abbrev cX6_isDigit : ByteArray := prog_8_method_8_code
def yX6_isDigit : MethodName := ⟨RX6, "isDigit", "(III)Z"⟩
def RX7 : String := "KeyOrchard$Weather"
def TX7 : u_T := fun k => match k with
  | 0 => ("KeyOrchard$Weather", "rain", "[I", true)
  | 1 => ("KeyOrchard$Weather", "watered", "[I", true)
  | 2 => ("KeyOrchard$Weather", "crowDay", "[I", true)
  | 3 => ("KeyOrchard$Weather", "crowTree", "[I", true)
  | 4 => ("KeyOrchard$Weather", "frosts", "I", false)
  | _ => ("KeyOrchard$Weather", "crows", "I", false)
def tyX7 : Nat → FieldType := fun k => match k with
  | 0 => .array .int
  | 1 => .array .int
  | 2 => .array .int
  | 3 => .array .int
  | 4 => .int
  | _ => .int
abbrev wsX70 : List Cond := u_ws RX7 TX7 6
theorem nmX7 : ∀ a, a < 6 → ∀ b, b < 6 → a ≠ b → (TX7 a).2.1 ≠ (TX7 b).2.1 := by decide +kernel
theorem tyX7_ok : ∀ k, k < 6 → parseFieldDescriptor (TX7 k).2.2.1 = some (tyX7 k) := by decide +kernel
abbrev cX7_init : ByteArray := prog_9_method_1_code
def yX7_init : MethodName := ⟨RX7, "<init>", "()V"⟩
abbrev cX7_clear : ByteArray := prog_9_method_2_code
def yX7_clear : MethodName := ⟨RX7, "clear", "()V"⟩
abbrev cX7_addCrow : ByteArray := prog_9_method_3_code
def yX7_addCrow : MethodName := ⟨RX7, "addCrow", "(II)I"⟩
def RX8 : String := "KeyOrchard"
def TX8 : u_T := fun k => match k with
  | 0 => ("KeyOrchard", "sheets", "[LKeyOrchard$Sheet;", true)
  | 1 => ("KeyOrchard", "text", "LKeyOrchard$Text;", true)
  | 2 => ("KeyOrchard", "grove", "LKeyOrchard$Grove;", true)
  | 3 => ("KeyOrchard", "weather", "LKeyOrchard$Weather;", true)
  | 4 => ("KeyOrchard", "readings", "LKeyOrchard$Readings;", true)
  | 5 => ("KeyOrchard", "season", "LKeyOrchard$Season;", true)
  | 6 => ("KeyOrchard", "search", "LKeyOrchard$Search;", true)
  | 7 => ("KeyOrchard", "bodies", "LKeyOrchard$Bodies;", true)
  | _ => ("KeyOrchard", "latestFault", "I", false)
def tyX8 : Nat → FieldType := fun k => match k with
  | 0 => .array (.object "KeyOrchard$Sheet")
  | 1 => .object "KeyOrchard$Text"
  | 2 => .object "KeyOrchard$Grove"
  | 3 => .object "KeyOrchard$Weather"
  | 4 => .object "KeyOrchard$Readings"
  | 5 => .object "KeyOrchard$Season"
  | 6 => .object "KeyOrchard$Search"
  | 7 => .object "KeyOrchard$Bodies"
  | _ => .int
abbrev wsX80 : List Cond := u_ws RX8 TX8 9
theorem nmX8 : ∀ a, a < 9 → ∀ b, b < 9 → a ≠ b → (TX8 a).2.1 ≠ (TX8 b).2.1 := by decide +kernel
theorem tyX8_ok : ∀ k, k < 9 → parseFieldDescriptor (TX8 k).2.2.1 = some (tyX8 k) := by decide +kernel
abbrev cX8_init : ByteArray := prog_1_method_1_code
def yX8_init : MethodName := ⟨RX8, "<init>", "()V"⟩
abbrev cX8_orchard : ByteArray := prog_1_method_2_code
def yX8_orchard : MethodName := ⟨RX8, "orchard", "(IIII)I"⟩
abbrev cX8_ofTree : ByteArray := prog_1_method_3_code
def yX8_ofTree : MethodName := ⟨RX8, "ofTree", "(II)I"⟩
abbrev cX8_ofPrisoner : ByteArray := prog_1_method_4_code
def yX8_ofPrisoner : MethodName := ⟨RX8, "ofPrisoner", "(II)I"⟩
abbrev cX8_rain : ByteArray := prog_1_method_5_code
def yX8_rain : MethodName := ⟨RX8, "rain", "(II)I"⟩
abbrev cX8_water : ByteArray := prog_1_method_6_code
def yX8_water : MethodName := ⟨RX8, "water", "(II)I"⟩
abbrev cX8_frost : ByteArray := prog_1_method_7_code
def yX8_frost : MethodName := ⟨RX8, "frost", "(IZ)I"⟩
abbrev cX8_crow : ByteArray := prog_1_method_8_code
def yX8_crow : MethodName := ⟨RX8, "crow", "(II)I"⟩
abbrev cX8_shoo : ByteArray := prog_1_method_9_code
def yX8_shoo : MethodName := ⟨RX8, "shoo", "(I)I"⟩
abbrev cX8_fell : ByteArray := prog_1_method_10_code
def yX8_fell : MethodName := ⟨RX8, "fell", "(IZ)I"⟩
abbrev cX8_out : ByteArray := prog_1_method_11_code
def yX8_out : MethodName := ⟨RX8, "out", "(I)I"⟩
abbrev cX8_by : ByteArray := prog_1_method_12_code
def yX8_by : MethodName := ⟨RX8, "by", "(I)I"⟩
abbrev cX8_free : ByteArray := prog_1_method_13_code
def yX8_free : MethodName := ⟨RX8, "free", "(I)I"⟩
abbrev cX8_has : ByteArray := prog_1_method_14_code
def yX8_has : MethodName := ⟨RX8, "has", "(II)I"⟩
abbrev cX8_worth : ByteArray := prog_1_method_18_code
def yX8_worth : MethodName := ⟨RX8, "worth", "(I)I"⟩
abbrev cX8_sheet : ByteArray := prog_1_method_24_code
def yX8_sheet : MethodName := ⟨RX8, "sheet", "(III)I"⟩
abbrev cX8_put : ByteArray := prog_1_method_26_code
def yX8_put : MethodName := ⟨RX8, "put", "(III)I"⟩
abbrev cX8_sheetOf : ByteArray := prog_1_method_35_code
def yX8_sheetOf : MethodName := ⟨RX8, "sheetOf", "(I)LKeyOrchard$Sheet;"⟩
abbrev cX8_faulted : ByteArray := prog_1_method_36_code
def yX8_faulted : MethodName := ⟨RX8, "faulted", "(I)I"⟩
abbrev cX8_passAsTold : ByteArray := prog_1_method_38_code
def yX8_passAsTold : MethodName := ⟨RX8, "passAsTold", "(I)V"⟩
abbrev cX8_isDay : ByteArray := prog_1_method_39_code
def yX8_isDay : MethodName := ⟨RX8, "isDay", "(I)Z"⟩
abbrev cX8_isLane : ByteArray := prog_1_method_40_code
def yX8_isLane : MethodName := ⟨RX8, "isLane", "(I)Z"⟩
abbrev cX8_isIn : ByteArray := prog_1_method_41_code
def yX8_isIn : MethodName := ⟨RX8, "isIn", "(II)Z"⟩
def RX9 : String := "KeyOrchardModel"
def TX9 : u_T := fun k => match k with
  | _ => ("", "", "", false)
def tyX9 : Nat → FieldType := fun k => match k with
  | _ => .int
abbrev wsX90 : List Cond := u_ws RX9 TX9 0
theorem nmX9 : ∀ a, a < 0 → ∀ b, b < 0 → a ≠ b → (TX9 a).2.1 ≠ (TX9 b).2.1 := by decide +kernel
theorem tyX9_ok : ∀ k, k < 0 → parseFieldDescriptor (TX9 k).2.2.1 = some (tyX9 k) := by decide +kernel
def RJ10 : String := "java/lang/System"
def TJ10 : u_T := fun k => match k with
  | _ => ("", "", "", false)
def tyJ10 : Nat → FieldType := fun k => match k with
  | _ => .int
abbrev wsJ100 : List Cond := u_ws RJ10 TJ10 0
theorem nmJ10 : ∀ a, a < 0 → ∀ b, b < 0 → a ≠ b → (TJ10 a).2.1 ≠ (TJ10 b).2.1 := by decide +kernel
theorem tyJ10_ok : ∀ k, k < 0 → parseFieldDescriptor (TJ10 k).2.2.1 = some (tyJ10 k) := by decide +kernel
def RJ7 : String := "java/util/Arrays"
def TJ7 : u_T := fun k => match k with
  | _ => ("", "", "", false)
def tyJ7 : Nat → FieldType := fun k => match k with
  | _ => .int
abbrev wsJ70 : List Cond := u_ws RJ7 TJ7 0
theorem nmJ7 : ∀ a, a < 0 → ∀ b, b < 0 → a ≠ b → (TJ7 a).2.1 ≠ (TJ7 b).2.1 := by decide +kernel
theorem tyJ7_ok : ∀ k, k < 0 → parseFieldDescriptor (TJ7 k).2.2.1 = some (tyJ7 k) := by decide +kernel
abbrev cJ7_fill_53178 : ByteArray := prog_13_method_103_code
def yJ7_fill_53178 : MethodName := ⟨RJ7, "fill", "([II)V"⟩
def RL : String := "KeyOrchardLaw"
abbrev cL_cell : ByteArray := method_2_code
def yL_cell : MethodName := ⟨RL, "cell", "([II)I"⟩
abbrev cL_some : ByteArray := method_3_code
def yL_some : MethodName := ⟨RL, "some", "(II)I"⟩
abbrev cL_put : ByteArray := method_4_code
def yL_put : MethodName := ⟨RL, "put", "(LKeyOrchard;[III[I[I[I[I)I"⟩
abbrev cL_change : ByteArray := method_5_code
def yL_change : MethodName := ⟨RL, "change", "(LKeyOrchard;II[I[I[I[I)Z"⟩
abbrev cL_wants : ByteArray := method_6_code
def yL_wants : MethodName := ⟨RL, "wants", "([II)I"⟩
abbrev cL_opens : ByteArray := method_7_code
def yL_opens : MethodName := ⟨RL, "opens", "([III)Z"⟩
abbrev cL_go : ByteArray := method_8_code
def yL_go : MethodName := ⟨RL, "go", "([I[I[I[II[I)V"⟩
abbrev cL_law : ByteArray := code
def yL_law : MethodName := ⟨RL, "law", "([I)Z"⟩
set_option maxRecDepth 20000 in
theorem inJ10 : ∀ w ∈ wsJ100, w ∈ lw_tbl := by decide +kernel
theorem inJ7 : ∀ w ∈ wsJ70, w ∈ lw_tbl := by decide +kernel
abbrev vwCl : List vw_C := [(RX0, TX0, 1), (RX1, TX1, 11), (RX2, TX2, 4), (RX3, TX3, 3), (RX4, TX4, 10), (RX5, TX5, 4), (RX6, TX6, 4), (RX7, TX7, 6), (RX8, TX8, 9)]
end
section
theorem dX0_init_0 : decode cX0_init 0 = .ok (.aload_n 0, 1) := by decide +kernel
theorem dX0_init_1 : decode cX0_init 1 = .ok (.invokespecial 1, 3) := by decide +kernel
theorem dX0_init_4 : decode cX0_init 4 = .ok (.aload_n 0, 1) := by decide +kernel
theorem dX0_init_5 : decode cX0_init 5 = .ok (.iconst 0, 1) := by decide +kernel
theorem dX0_init_6 : decode cX0_init 6 = .ok (.putfield 7, 3) := by decide +kernel
theorem dX0_init_9 : decode cX0_init 9 = .ok (.return_, 1) := by decide +kernel
theorem dX1_init_0 : decode cX1_init 0 = .ok (.aload_n 0, 1) := by decide +kernel
theorem dX1_init_1 : decode cX1_init 1 = .ok (.invokespecial 3, 3) := by decide +kernel
theorem dX1_init_4 : decode cX1_init 4 = .ok (.aload_n 0, 1) := by decide +kernel
theorem dX1_init_5 : decode cX1_init 5 = .ok (.iconst 0, 1) := by decide +kernel
theorem dX1_init_6 : decode cX1_init 6 = .ok (.putfield 9, 3) := by decide +kernel
theorem dX1_init_9 : decode cX1_init 9 = .ok (.aload_n 0, 1) := by decide +kernel
theorem dX1_init_10 : decode cX1_init 10 = .ok (.iconst 0, 1) := by decide +kernel
theorem dX1_init_11 : decode cX1_init 11 = .ok (.putfield 15, 3) := by decide +kernel
theorem dX1_init_14 : decode cX1_init 14 = .ok (.aload_n 0, 1) := by decide +kernel
theorem dX1_init_15 : decode cX1_init 15 = .ok (.iconst 0, 1) := by decide +kernel
theorem dX1_init_16 : decode cX1_init 16 = .ok (.putfield 18, 3) := by decide +kernel
theorem dX1_init_19 : decode cX1_init 19 = .ok (.aload_n 0, 1) := by decide +kernel
theorem dX1_init_20 : decode cX1_init 20 = .ok (.bipush 6, 2) := by decide +kernel
theorem dX1_init_22 : decode cX1_init 22 = .ok (.newarray .int, 2) := by decide +kernel
theorem dX1_init_24 : decode cX1_init 24 = .ok (.putfield 21, 3) := by decide +kernel
theorem dX1_init_27 : decode cX1_init 27 = .ok (.aload_n 0, 1) := by decide +kernel
theorem dX1_init_28 : decode cX1_init 28 = .ok (.bipush 6, 2) := by decide +kernel
theorem dX1_init_30 : decode cX1_init 30 = .ok (.newarray .int, 2) := by decide +kernel
theorem dX1_init_32 : decode cX1_init 32 = .ok (.putfield 25, 3) := by decide +kernel
theorem dX1_init_35 : decode cX1_init 35 = .ok (.aload_n 0, 1) := by decide +kernel
theorem dX1_init_36 : decode cX1_init 36 = .ok (.bipush 6, 2) := by decide +kernel
theorem dX1_init_38 : decode cX1_init 38 = .ok (.newarray .int, 2) := by decide +kernel
theorem dX1_init_40 : decode cX1_init 40 = .ok (.putfield 28, 3) := by decide +kernel
theorem dX1_init_43 : decode cX1_init 43 = .ok (.aload_n 0, 1) := by decide +kernel
theorem dX1_init_44 : decode cX1_init 44 = .ok (.bipush 6, 2) := by decide +kernel
theorem dX1_init_46 : decode cX1_init 46 = .ok (.newarray .int, 2) := by decide +kernel
theorem dX1_init_48 : decode cX1_init 48 = .ok (.putfield 31, 3) := by decide +kernel
theorem dX1_init_51 : decode cX1_init 51 = .ok (.aload_n 0, 1) := by decide +kernel
theorem dX1_init_52 : decode cX1_init 52 = .ok (.bipush 6, 2) := by decide +kernel
theorem dX1_init_54 : decode cX1_init 54 = .ok (.newarray .int, 2) := by decide +kernel
theorem dX1_init_56 : decode cX1_init 56 = .ok (.putfield 34, 3) := by decide +kernel
theorem dX1_init_59 : decode cX1_init 59 = .ok (.aload_n 0, 1) := by decide +kernel
theorem dX1_init_60 : decode cX1_init 60 = .ok (.bipush 6, 2) := by decide +kernel
theorem dX1_init_62 : decode cX1_init 62 = .ok (.newarray .int, 2) := by decide +kernel
theorem dX1_init_64 : decode cX1_init 64 = .ok (.putfield 37, 3) := by decide +kernel
theorem dX1_init_67 : decode cX1_init 67 = .ok (.aload_n 0, 1) := by decide +kernel
theorem dX1_init_68 : decode cX1_init 68 = .ok (.bipush 6, 2) := by decide +kernel
theorem dX1_init_70 : decode cX1_init 70 = .ok (.newarray .int, 2) := by decide +kernel
theorem dX1_init_72 : decode cX1_init 72 = .ok (.putfield 40, 3) := by decide +kernel
theorem dX1_init_75 : decode cX1_init 75 = .ok (.aload_n 0, 1) := by decide +kernel
theorem dX1_init_76 : decode cX1_init 76 = .ok (.bipush 30, 2) := by decide +kernel
theorem dX1_init_78 : decode cX1_init 78 = .ok (.newarray .int, 2) := by decide +kernel
theorem dX1_init_80 : decode cX1_init 80 = .ok (.putfield 43, 3) := by decide +kernel
theorem dX1_init_83 : decode cX1_init 83 = .ok (.return_, 1) := by decide +kernel
theorem dX1_plant_0 : decode cX1_plant 0 = .ok (.aload_n 0, 1) := by decide +kernel
theorem dX1_plant_1 : decode cX1_plant 1 = .ok (.aload_n 1, 1) := by decide +kernel
theorem dX1_plant_2 : decode cX1_plant 2 = .ok (.getfield 46, 3) := by decide +kernel
theorem dX1_plant_5 : decode cX1_plant 5 = .ok (.putfield 9, 3) := by decide +kernel
theorem dX1_plant_8 : decode cX1_plant 8 = .ok (.aload_n 0, 1) := by decide +kernel
theorem dX1_plant_9 : decode cX1_plant 9 = .ok (.aload_n 1, 1) := by decide +kernel
theorem dX1_plant_10 : decode cX1_plant 10 = .ok (.getfield 49, 3) := by decide +kernel
theorem dX1_plant_13 : decode cX1_plant 13 = .ok (.putfield 15, 3) := by decide +kernel
theorem dX1_plant_16 : decode cX1_plant 16 = .ok (.aload_n 0, 1) := by decide +kernel
theorem dX1_plant_17 : decode cX1_plant 17 = .ok (.iconst 0, 1) := by decide +kernel
theorem dX1_plant_18 : decode cX1_plant 18 = .ok (.putfield 18, 3) := by decide +kernel
theorem dX1_plant_21 : decode cX1_plant 21 = .ok (.iconst 1, 1) := by decide +kernel
theorem dX1_plant_22 : decode cX1_plant 22 = .ok (.istore_n 2, 1) := by decide +kernel
theorem dX1_plant_23 : decode cX1_plant 23 = .ok (.iconst 0, 1) := by decide +kernel
theorem dX1_plant_24 : decode cX1_plant 24 = .ok (.istore_n 3, 1) := by decide +kernel
theorem dX1_plant_25 : decode cX1_plant 25 = .ok (.iload_n 3, 1) := by decide +kernel
theorem dX1_plant_26 : decode cX1_plant 26 = .ok (.aload_n 0, 1) := by decide +kernel
theorem dX1_plant_27 : decode cX1_plant 27 = .ok (.getfield 9, 3) := by decide +kernel
theorem dX1_plant_30 : decode cX1_plant 30 = .ok (.if_icmp .ge 60, 3) := by decide +kernel
theorem dX1_plant_33 : decode cX1_plant 33 = .ok (.aload_n 0, 1) := by decide +kernel
theorem dX1_plant_34 : decode cX1_plant 34 = .ok (.getfield 21, 3) := by decide +kernel
theorem dX1_plant_37 : decode cX1_plant 37 = .ok (.iload_n 3, 1) := by decide +kernel
theorem dX1_plant_38 : decode cX1_plant 38 = .ok (.aload_n 1, 1) := by decide +kernel
theorem dX1_plant_39 : decode cX1_plant 39 = .ok (.iload_n 2, 1) := by decide +kernel
theorem dX1_plant_40 : decode cX1_plant 40 = .ok (.invokevirtual 50, 3) := by decide +kernel
theorem dX1_plant_43 : decode cX1_plant 43 = .ok (.iastore, 1) := by decide +kernel
theorem dX1_plant_44 : decode cX1_plant 44 = .ok (.aload_n 0, 1) := by decide +kernel
theorem dX1_plant_45 : decode cX1_plant 45 = .ok (.getfield 25, 3) := by decide +kernel
theorem dX1_plant_48 : decode cX1_plant 48 = .ok (.iload_n 3, 1) := by decide +kernel
theorem dX1_plant_49 : decode cX1_plant 49 = .ok (.aload_n 1, 1) := by decide +kernel
theorem dX1_plant_50 : decode cX1_plant 50 = .ok (.iload_n 2, 1) := by decide +kernel
theorem dX1_plant_51 : decode cX1_plant 51 = .ok (.iconst 1, 1) := by decide +kernel
theorem dX1_plant_52 : decode cX1_plant 52 = .ok (.iadd, 1) := by decide +kernel
theorem dX1_plant_53 : decode cX1_plant 53 = .ok (.invokevirtual 54, 3) := by decide +kernel
theorem dX1_plant_56 : decode cX1_plant 56 = .ok (.iastore, 1) := by decide +kernel
theorem dX1_plant_57 : decode cX1_plant 57 = .ok (.aload_n 0, 1) := by decide +kernel
theorem dX1_plant_58 : decode cX1_plant 58 = .ok (.getfield 28, 3) := by decide +kernel
theorem dX1_plant_61 : decode cX1_plant 61 = .ok (.iload_n 3, 1) := by decide +kernel
theorem dX1_plant_62 : decode cX1_plant 62 = .ok (.aload_n 1, 1) := by decide +kernel
theorem dX1_plant_63 : decode cX1_plant 63 = .ok (.iload_n 2, 1) := by decide +kernel
theorem dX1_plant_64 : decode cX1_plant 64 = .ok (.iconst 2, 1) := by decide +kernel
theorem dX1_plant_65 : decode cX1_plant 65 = .ok (.iadd, 1) := by decide +kernel
theorem dX1_plant_66 : decode cX1_plant 66 = .ok (.invokevirtual 54, 3) := by decide +kernel
theorem dX1_plant_69 : decode cX1_plant 69 = .ok (.iastore, 1) := by decide +kernel
theorem dX1_plant_70 : decode cX1_plant 70 = .ok (.aload_n 0, 1) := by decide +kernel
theorem dX1_plant_71 : decode cX1_plant 71 = .ok (.getfield 31, 3) := by decide +kernel
theorem dX1_plant_74 : decode cX1_plant 74 = .ok (.iload_n 3, 1) := by decide +kernel
theorem dX1_plant_75 : decode cX1_plant 75 = .ok (.aload_n 0, 1) := by decide +kernel
theorem dX1_plant_76 : decode cX1_plant 76 = .ok (.iload_n 3, 1) := by decide +kernel
theorem dX1_plant_77 : decode cX1_plant 77 = .ok (.invokevirtual 57, 3) := by decide +kernel
theorem dX1_plant_80 : decode cX1_plant 80 = .ok (.iastore, 1) := by decide +kernel
theorem dX1_plant_81 : decode cX1_plant 81 = .ok (.iinc 2 3, 3) := by decide +kernel
theorem dX1_plant_84 : decode cX1_plant 84 = .ok (.iinc 3 1, 3) := by decide +kernel
theorem dX1_plant_87 : decode cX1_plant 87 = .ok (.goto (-62), 3) := by decide +kernel
theorem dX1_plant_90 : decode cX1_plant 90 = .ok (.aload_n 0, 1) := by decide +kernel
theorem dX1_plant_91 : decode cX1_plant 91 = .ok (.getfield 43, 3) := by decide +kernel
theorem dX1_plant_94 : decode cX1_plant 94 = .ok (.iconst 0, 1) := by decide +kernel
theorem dX1_plant_95 : decode cX1_plant 95 = .ok (.invokestatic 60, 3) := by decide +kernel
theorem dX1_plant_98 : decode cX1_plant 98 = .ok (.iconst 0, 1) := by decide +kernel
theorem dX1_plant_99 : decode cX1_plant 99 = .ok (.istore_n 3, 1) := by decide +kernel
theorem dX1_plant_100 : decode cX1_plant 100 = .ok (.iload_n 3, 1) := by decide +kernel
theorem dX1_plant_101 : decode cX1_plant 101 = .ok (.aload_n 0, 1) := by decide +kernel
theorem dX1_plant_102 : decode cX1_plant 102 = .ok (.getfield 15, 3) := by decide +kernel
theorem dX1_plant_105 : decode cX1_plant 105 = .ok (.if_icmp .ge 55, 3) := by decide +kernel
theorem dX1_plant_108 : decode cX1_plant 108 = .ok (.aload_n 0, 1) := by decide +kernel
theorem dX1_plant_109 : decode cX1_plant 109 = .ok (.getfield 37, 3) := by decide +kernel
theorem dX1_plant_112 : decode cX1_plant 112 = .ok (.iload_n 3, 1) := by decide +kernel
theorem dX1_plant_113 : decode cX1_plant 113 = .ok (.aload_n 1, 1) := by decide +kernel
theorem dX1_plant_114 : decode cX1_plant 114 = .ok (.iload_n 2, 1) := by decide +kernel
theorem dX1_plant_115 : decode cX1_plant 115 = .ok (.iconst 1, 1) := by decide +kernel
theorem dX1_plant_116 : decode cX1_plant 116 = .ok (.iadd, 1) := by decide +kernel
theorem dX1_plant_117 : decode cX1_plant 117 = .ok (.invokevirtual 54, 3) := by decide +kernel
theorem dX1_plant_120 : decode cX1_plant 120 = .ok (.iastore, 1) := by decide +kernel
theorem dX1_plant_121 : decode cX1_plant 121 = .ok (.aload_n 0, 1) := by decide +kernel
theorem dX1_plant_122 : decode cX1_plant 122 = .ok (.getfield 40, 3) := by decide +kernel
theorem dX1_plant_125 : decode cX1_plant 125 = .ok (.iload_n 3, 1) := by decide +kernel
theorem dX1_plant_126 : decode cX1_plant 126 = .ok (.aload_n 1, 1) := by decide +kernel
theorem dX1_plant_127 : decode cX1_plant 127 = .ok (.iload_n 2, 1) := by decide +kernel
theorem dX1_plant_128 : decode cX1_plant 128 = .ok (.iconst 2, 1) := by decide +kernel
theorem dX1_plant_129 : decode cX1_plant 129 = .ok (.iadd, 1) := by decide +kernel
theorem dX1_plant_130 : decode cX1_plant 130 = .ok (.invokevirtual 66, 3) := by decide +kernel
theorem dX1_plant_133 : decode cX1_plant 133 = .ok (.iastore, 1) := by decide +kernel
theorem dX1_plant_134 : decode cX1_plant 134 = .ok (.aload_n 0, 1) := by decide +kernel
theorem dX1_plant_135 : decode cX1_plant 135 = .ok (.getfield 43, 3) := by decide +kernel
theorem dX1_plant_138 : decode cX1_plant 138 = .ok (.aload_n 0, 1) := by decide +kernel
theorem dX1_plant_139 : decode cX1_plant 139 = .ok (.getfield 40, 3) := by decide +kernel
theorem dX1_plant_142 : decode cX1_plant 142 = .ok (.iload_n 3, 1) := by decide +kernel
theorem dX1_plant_143 : decode cX1_plant 143 = .ok (.iaload, 1) := by decide +kernel
theorem dX1_plant_144 : decode cX1_plant 144 = .ok (.dup2, 1) := by decide +kernel
theorem dX1_plant_145 : decode cX1_plant 145 = .ok (.iaload, 1) := by decide +kernel
theorem dX1_plant_146 : decode cX1_plant 146 = .ok (.iconst 1, 1) := by decide +kernel
theorem dX1_plant_147 : decode cX1_plant 147 = .ok (.iload_n 3, 1) := by decide +kernel
theorem dX1_plant_148 : decode cX1_plant 148 = .ok (.ishl, 1) := by decide +kernel
theorem dX1_plant_149 : decode cX1_plant 149 = .ok (.ior, 1) := by decide +kernel
theorem dX1_plant_150 : decode cX1_plant 150 = .ok (.iastore, 1) := by decide +kernel
theorem dX1_plant_151 : decode cX1_plant 151 = .ok (.iinc 2 4, 3) := by decide +kernel
theorem dX1_plant_154 : decode cX1_plant 154 = .ok (.iinc 3 1, 3) := by decide +kernel
theorem dX1_plant_157 : decode cX1_plant 157 = .ok (.goto (-57), 3) := by decide +kernel
theorem dX1_plant_160 : decode cX1_plant 160 = .ok (.iconst 0, 1) := by decide +kernel
theorem dX1_plant_161 : decode cX1_plant 161 = .ok (.istore_n 3, 1) := by decide +kernel
theorem dX1_plant_162 : decode cX1_plant 162 = .ok (.iload_n 3, 1) := by decide +kernel
theorem dX1_plant_163 : decode cX1_plant 163 = .ok (.aload_n 0, 1) := by decide +kernel
theorem dX1_plant_164 : decode cX1_plant 164 = .ok (.getfield 9, 3) := by decide +kernel
theorem dX1_plant_167 : decode cX1_plant 167 = .ok (.if_icmp .ge 20, 3) := by decide +kernel
theorem dX1_plant_170 : decode cX1_plant 170 = .ok (.aload_n 0, 1) := by decide +kernel
theorem dX1_plant_171 : decode cX1_plant 171 = .ok (.getfield 34, 3) := by decide +kernel
theorem dX1_plant_174 : decode cX1_plant 174 = .ok (.iload_n 3, 1) := by decide +kernel
theorem dX1_plant_175 : decode cX1_plant 175 = .ok (.aload_n 0, 1) := by decide +kernel
theorem dX1_plant_176 : decode cX1_plant 176 = .ok (.iload_n 3, 1) := by decide +kernel
theorem dX1_plant_177 : decode cX1_plant 177 = .ok (.invokevirtual 69, 3) := by decide +kernel
theorem dX1_plant_180 : decode cX1_plant 180 = .ok (.iastore, 1) := by decide +kernel
theorem dX1_plant_181 : decode cX1_plant 181 = .ok (.iinc 3 1, 3) := by decide +kernel
theorem dX1_plant_184 : decode cX1_plant 184 = .ok (.goto (-22), 3) := by decide +kernel
theorem dX1_plant_187 : decode cX1_plant 187 = .ok (.return_, 1) := by decide +kernel
theorem dX1_waterWantedBy_0 : decode cX1_waterWantedBy 0 = .ok (.aload_n 0, 1) := by decide +kernel
theorem dX1_waterWantedBy_1 : decode cX1_waterWantedBy 1 = .ok (.getfield 28, 3) := by decide +kernel
theorem dX1_waterWantedBy_4 : decode cX1_waterWantedBy 4 = .ok (.iload_n 1, 1) := by decide +kernel
theorem dX1_waterWantedBy_5 : decode cX1_waterWantedBy 5 = .ok (.iaload, 1) := by decide +kernel
theorem dX1_waterWantedBy_6 : decode cX1_waterWantedBy 6 = .ok (.iconst 1, 1) := by decide +kernel
theorem dX1_waterWantedBy_7 : decode cX1_waterWantedBy 7 = .ok (.iadd, 1) := by decide +kernel
theorem dX1_waterWantedBy_8 : decode cX1_waterWantedBy 8 = .ok (.istore_n 2, 1) := by decide +kernel
theorem dX1_waterWantedBy_9 : decode cX1_waterWantedBy 9 = .ok (.aload_n 0, 1) := by decide +kernel
theorem dX1_waterWantedBy_10 : decode cX1_waterWantedBy 10 = .ok (.getfield 21, 3) := by decide +kernel
theorem dX1_waterWantedBy_13 : decode cX1_waterWantedBy 13 = .ok (.iload_n 1, 1) := by decide +kernel
theorem dX1_waterWantedBy_14 : decode cX1_waterWantedBy 14 = .ok (.iaload, 1) := by decide +kernel
theorem dX1_waterWantedBy_15 : decode cX1_waterWantedBy 15 = .ok (.lookupswitch 31 #[(1, 25), (2, 27)], 25) := by decide +kernel
theorem dX1_waterWantedBy_40 : decode cX1_waterWantedBy 40 = .ok (.iload_n 2, 1) := by decide +kernel
theorem dX1_waterWantedBy_41 : decode cX1_waterWantedBy 41 = .ok (.ireturn, 1) := by decide +kernel
theorem dX1_waterWantedBy_42 : decode cX1_waterWantedBy 42 = .ok (.iconst 2, 1) := by decide +kernel
theorem dX1_waterWantedBy_43 : decode cX1_waterWantedBy 43 = .ok (.iload_n 2, 1) := by decide +kernel
theorem dX1_waterWantedBy_44 : decode cX1_waterWantedBy 44 = .ok (.imul, 1) := by decide +kernel
theorem dX1_waterWantedBy_45 : decode cX1_waterWantedBy 45 = .ok (.ireturn, 1) := by decide +kernel
theorem dX1_waterWantedBy_46 : decode cX1_waterWantedBy 46 = .ok (.aload_n 0, 1) := by decide +kernel
theorem dX1_waterWantedBy_47 : decode cX1_waterWantedBy 47 = .ok (.getfield 28, 3) := by decide +kernel
theorem dX1_waterWantedBy_50 : decode cX1_waterWantedBy 50 = .ok (.iload_n 1, 1) := by decide +kernel
theorem dX1_waterWantedBy_51 : decode cX1_waterWantedBy 51 = .ok (.iaload, 1) := by decide +kernel
theorem dX1_waterWantedBy_52 : decode cX1_waterWantedBy 52 = .ok (.ireturn, 1) := by decide +kernel
theorem dX1_locksOpenedBy_0 : decode cX1_locksOpenedBy 0 = .ok (.iconst 1, 1) := by decide +kernel
theorem dX1_locksOpenedBy_1 : decode cX1_locksOpenedBy 1 = .ok (.aload_n 0, 1) := by decide +kernel
theorem dX1_locksOpenedBy_2 : decode cX1_locksOpenedBy 2 = .ok (.getfield 25, 3) := by decide +kernel
theorem dX1_locksOpenedBy_5 : decode cX1_locksOpenedBy 5 = .ok (.iload_n 1, 1) := by decide +kernel
theorem dX1_locksOpenedBy_6 : decode cX1_locksOpenedBy 6 = .ok (.iaload, 1) := by decide +kernel
theorem dX1_locksOpenedBy_7 : decode cX1_locksOpenedBy 7 = .ok (.ishl, 1) := by decide +kernel
theorem dX1_locksOpenedBy_8 : decode cX1_locksOpenedBy 8 = .ok (.istore_n 2, 1) := by decide +kernel
theorem dX1_locksOpenedBy_9 : decode cX1_locksOpenedBy 9 = .ok (.aload_n 0, 1) := by decide +kernel
theorem dX1_locksOpenedBy_10 : decode cX1_locksOpenedBy 10 = .ok (.getfield 21, 3) := by decide +kernel
theorem dX1_locksOpenedBy_13 : decode cX1_locksOpenedBy 13 = .ok (.iload_n 1, 1) := by decide +kernel
theorem dX1_locksOpenedBy_14 : decode cX1_locksOpenedBy 14 = .ok (.iaload, 1) := by decide +kernel
theorem dX1_locksOpenedBy_15 : decode cX1_locksOpenedBy 15 = .ok (.lookupswitch 44 #[(1, 25), (2, 41)], 25) := by decide +kernel
theorem dX1_locksOpenedBy_40 : decode cX1_locksOpenedBy 40 = .ok (.iload_n 2, 1) := by decide +kernel
theorem dX1_locksOpenedBy_41 : decode cX1_locksOpenedBy 41 = .ok (.iconst 1, 1) := by decide +kernel
theorem dX1_locksOpenedBy_42 : decode cX1_locksOpenedBy 42 = .ok (.aload_n 0, 1) := by decide +kernel
theorem dX1_locksOpenedBy_43 : decode cX1_locksOpenedBy 43 = .ok (.getfield 25, 3) := by decide +kernel
theorem dX1_locksOpenedBy_46 : decode cX1_locksOpenedBy 46 = .ok (.iload_n 1, 1) := by decide +kernel
theorem dX1_locksOpenedBy_47 : decode cX1_locksOpenedBy 47 = .ok (.iaload, 1) := by decide +kernel
theorem dX1_locksOpenedBy_48 : decode cX1_locksOpenedBy 48 = .ok (.iconst 1, 1) := by decide +kernel
theorem dX1_locksOpenedBy_49 : decode cX1_locksOpenedBy 49 = .ok (.iadd, 1) := by decide +kernel
theorem dX1_locksOpenedBy_50 : decode cX1_locksOpenedBy 50 = .ok (.bipush 6, 2) := by decide +kernel
theorem dX1_locksOpenedBy_52 : decode cX1_locksOpenedBy 52 = .ok (.irem, 1) := by decide +kernel
theorem dX1_locksOpenedBy_53 : decode cX1_locksOpenedBy 53 = .ok (.ishl, 1) := by decide +kernel
theorem dX1_locksOpenedBy_54 : decode cX1_locksOpenedBy 54 = .ok (.ior, 1) := by decide +kernel
theorem dX1_locksOpenedBy_55 : decode cX1_locksOpenedBy 55 = .ok (.ireturn, 1) := by decide +kernel
theorem dX1_locksOpenedBy_56 : decode cX1_locksOpenedBy 56 = .ok (.bipush 63, 2) := by decide +kernel
theorem dX1_locksOpenedBy_58 : decode cX1_locksOpenedBy 58 = .ok (.ireturn, 1) := by decide +kernel
theorem dX1_locksOpenedBy_59 : decode cX1_locksOpenedBy 59 = .ok (.iload_n 2, 1) := by decide +kernel
theorem dX1_locksOpenedBy_60 : decode cX1_locksOpenedBy 60 = .ok (.ireturn, 1) := by decide +kernel
theorem dX1_prisonersFitting_0 : decode cX1_prisonersFitting 0 = .ok (.aload_n 0, 1) := by decide +kernel
theorem dX1_prisonersFitting_1 : decode cX1_prisonersFitting 1 = .ok (.iload_n 1, 1) := by decide +kernel
theorem dX1_prisonersFitting_2 : decode cX1_prisonersFitting 2 = .ok (.invokevirtual 72, 3) := by decide +kernel
theorem dX1_prisonersFitting_5 : decode cX1_prisonersFitting 5 = .ok (.istore_n 2, 1) := by decide +kernel
theorem dX1_prisonersFitting_6 : decode cX1_prisonersFitting 6 = .ok (.iconst 0, 1) := by decide +kernel
theorem dX1_prisonersFitting_7 : decode cX1_prisonersFitting 7 = .ok (.istore_n 3, 1) := by decide +kernel
theorem dX1_prisonersFitting_8 : decode cX1_prisonersFitting 8 = .ok (.iconst 0, 1) := by decide +kernel
theorem dX1_prisonersFitting_9 : decode cX1_prisonersFitting 9 = .ok (.istore 4, 2) := by decide +kernel
theorem dX1_prisonersFitting_11 : decode cX1_prisonersFitting 11 = .ok (.iload 4, 2) := by decide +kernel
theorem dX1_prisonersFitting_13 : decode cX1_prisonersFitting 13 = .ok (.aload_n 0, 1) := by decide +kernel
theorem dX1_prisonersFitting_14 : decode cX1_prisonersFitting 14 = .ok (.getfield 15, 3) := by decide +kernel
theorem dX1_prisonersFitting_17 : decode cX1_prisonersFitting 17 = .ok (.if_icmp .ge 30, 3) := by decide +kernel
theorem dX1_prisonersFitting_20 : decode cX1_prisonersFitting 20 = .ok (.iload_n 2, 1) := by decide +kernel
theorem dX1_prisonersFitting_21 : decode cX1_prisonersFitting 21 = .ok (.aload_n 0, 1) := by decide +kernel
theorem dX1_prisonersFitting_22 : decode cX1_prisonersFitting 22 = .ok (.getfield 37, 3) := by decide +kernel
theorem dX1_prisonersFitting_25 : decode cX1_prisonersFitting 25 = .ok (.iload 4, 2) := by decide +kernel
theorem dX1_prisonersFitting_27 : decode cX1_prisonersFitting 27 = .ok (.iaload, 1) := by decide +kernel
theorem dX1_prisonersFitting_28 : decode cX1_prisonersFitting 28 = .ok (.invokestatic 75, 3) := by decide +kernel
theorem dX1_prisonersFitting_31 : decode cX1_prisonersFitting 31 = .ok (.ifCond .eq 10, 3) := by decide +kernel
theorem dX1_prisonersFitting_34 : decode cX1_prisonersFitting 34 = .ok (.iload_n 3, 1) := by decide +kernel
theorem dX1_prisonersFitting_35 : decode cX1_prisonersFitting 35 = .ok (.iconst 1, 1) := by decide +kernel
theorem dX1_prisonersFitting_36 : decode cX1_prisonersFitting 36 = .ok (.iload 4, 2) := by decide +kernel
theorem dX1_prisonersFitting_38 : decode cX1_prisonersFitting 38 = .ok (.ishl, 1) := by decide +kernel
theorem dX1_prisonersFitting_39 : decode cX1_prisonersFitting 39 = .ok (.ior, 1) := by decide +kernel
theorem dX1_prisonersFitting_40 : decode cX1_prisonersFitting 40 = .ok (.istore_n 3, 1) := by decide +kernel
theorem dX1_prisonersFitting_41 : decode cX1_prisonersFitting 41 = .ok (.iinc 4 1, 3) := by decide +kernel
theorem dX1_prisonersFitting_44 : decode cX1_prisonersFitting 44 = .ok (.goto (-33), 3) := by decide +kernel
theorem dX1_prisonersFitting_47 : decode cX1_prisonersFitting 47 = .ok (.iload_n 3, 1) := by decide +kernel
theorem dX1_prisonersFitting_48 : decode cX1_prisonersFitting 48 = .ok (.ireturn, 1) := by decide +kernel
theorem dX1_isPlanted_0 : decode cX1_isPlanted 0 = .ok (.aload_n 0, 1) := by decide +kernel
theorem dX1_isPlanted_1 : decode cX1_isPlanted 1 = .ok (.getfield 9, 3) := by decide +kernel
theorem dX1_isPlanted_4 : decode cX1_isPlanted 4 = .ok (.ifCond .le 7, 3) := by decide +kernel
theorem dX1_isPlanted_7 : decode cX1_isPlanted 7 = .ok (.iconst 1, 1) := by decide +kernel
theorem dX1_isPlanted_8 : decode cX1_isPlanted 8 = .ok (.goto 4, 3) := by decide +kernel
theorem dX1_isPlanted_11 : decode cX1_isPlanted 11 = .ok (.iconst 0, 1) := by decide +kernel
theorem dX1_isPlanted_12 : decode cX1_isPlanted 12 = .ok (.ireturn, 1) := by decide +kernel
theorem dX1_hasTree_0 : decode cX1_hasTree 0 = .ok (.iload_n 1, 1) := by decide +kernel
theorem dX1_hasTree_1 : decode cX1_hasTree 1 = .ok (.ifCond .lt 15, 3) := by decide +kernel
theorem dX1_hasTree_4 : decode cX1_hasTree 4 = .ok (.iload_n 1, 1) := by decide +kernel
theorem dX1_hasTree_5 : decode cX1_hasTree 5 = .ok (.aload_n 0, 1) := by decide +kernel
theorem dX1_hasTree_6 : decode cX1_hasTree 6 = .ok (.getfield 9, 3) := by decide +kernel
theorem dX1_hasTree_9 : decode cX1_hasTree 9 = .ok (.if_icmp .ge 7, 3) := by decide +kernel
theorem dX1_hasTree_12 : decode cX1_hasTree 12 = .ok (.iconst 1, 1) := by decide +kernel
theorem dX1_hasTree_13 : decode cX1_hasTree 13 = .ok (.goto 4, 3) := by decide +kernel
theorem dX1_hasTree_16 : decode cX1_hasTree 16 = .ok (.iconst 0, 1) := by decide +kernel
theorem dX1_hasTree_17 : decode cX1_hasTree 17 = .ok (.ireturn, 1) := by decide +kernel
theorem dX1_hasPrisoner_0 : decode cX1_hasPrisoner 0 = .ok (.iload_n 1, 1) := by decide +kernel
theorem dX1_hasPrisoner_1 : decode cX1_hasPrisoner 1 = .ok (.ifCond .lt 15, 3) := by decide +kernel
theorem dX1_hasPrisoner_4 : decode cX1_hasPrisoner 4 = .ok (.iload_n 1, 1) := by decide +kernel
theorem dX1_hasPrisoner_5 : decode cX1_hasPrisoner 5 = .ok (.aload_n 0, 1) := by decide +kernel
theorem dX1_hasPrisoner_6 : decode cX1_hasPrisoner 6 = .ok (.getfield 15, 3) := by decide +kernel
theorem dX1_hasPrisoner_9 : decode cX1_hasPrisoner 9 = .ok (.if_icmp .ge 7, 3) := by decide +kernel
theorem dX1_hasPrisoner_12 : decode cX1_hasPrisoner 12 = .ok (.iconst 1, 1) := by decide +kernel
theorem dX1_hasPrisoner_13 : decode cX1_hasPrisoner 13 = .ok (.goto 4, 3) := by decide +kernel
theorem dX1_hasPrisoner_16 : decode cX1_hasPrisoner 16 = .ok (.iconst 0, 1) := by decide +kernel
theorem dX1_hasPrisoner_17 : decode cX1_hasPrisoner 17 = .ok (.ireturn, 1) := by decide +kernel
theorem dX1_allPrisoners_0 : decode cX1_allPrisoners 0 = .ok (.iconst 1, 1) := by decide +kernel
theorem dX1_allPrisoners_1 : decode cX1_allPrisoners 1 = .ok (.aload_n 0, 1) := by decide +kernel
theorem dX1_allPrisoners_2 : decode cX1_allPrisoners 2 = .ok (.getfield 15, 3) := by decide +kernel
theorem dX1_allPrisoners_5 : decode cX1_allPrisoners 5 = .ok (.ishl, 1) := by decide +kernel
theorem dX1_allPrisoners_6 : decode cX1_allPrisoners 6 = .ok (.iconst 1, 1) := by decide +kernel
theorem dX1_allPrisoners_7 : decode cX1_allPrisoners 7 = .ok (.isub, 1) := by decide +kernel
theorem dX1_allPrisoners_8 : decode cX1_allPrisoners 8 = .ok (.ireturn, 1) := by decide +kernel
theorem dX2_init_0 : decode cX2_init 0 = .ok (.aload_n 0, 1) := by decide +kernel
theorem dX2_init_1 : decode cX2_init 1 = .ok (.invokespecial 3, 3) := by decide +kernel
theorem dX2_init_4 : decode cX2_init 4 = .ok (.aload_n 0, 1) := by decide +kernel
theorem dX2_init_5 : decode cX2_init 5 = .ok (.bipush 8, 2) := by decide +kernel
theorem dX2_init_7 : decode cX2_init 7 = .ok (.newarray .int, 2) := by decide +kernel
theorem dX2_init_9 : decode cX2_init 9 = .ok (.putfield 9, 3) := by decide +kernel
theorem dX2_init_12 : decode cX2_init 12 = .ok (.aload_n 0, 1) := by decide +kernel
theorem dX2_init_13 : decode cX2_init 13 = .ok (.bipush 8, 2) := by decide +kernel
theorem dX2_init_15 : decode cX2_init 15 = .ok (.newarray .int, 2) := by decide +kernel
theorem dX2_init_17 : decode cX2_init 17 = .ok (.putfield 15, 3) := by decide +kernel
theorem dX2_init_20 : decode cX2_init 20 = .ok (.aload_n 0, 1) := by decide +kernel
theorem dX2_init_21 : decode cX2_init 21 = .ok (.bipush 8, 2) := by decide +kernel
theorem dX2_init_23 : decode cX2_init 23 = .ok (.newarray .boolean, 2) := by decide +kernel
theorem dX2_init_25 : decode cX2_init 25 = .ok (.putfield 18, 3) := by decide +kernel
theorem dX2_init_28 : decode cX2_init 28 = .ok (.aload_n 0, 1) := by decide +kernel
theorem dX2_init_29 : decode cX2_init 29 = .ok (.iconst 0, 1) := by decide +kernel
theorem dX2_init_30 : decode cX2_init 30 = .ok (.putfield 22, 3) := by decide +kernel
theorem dX2_init_33 : decode cX2_init 33 = .ok (.return_, 1) := by decide +kernel
theorem dX3_init_0 : decode cX3_init 0 = .ok (.aload_n 0, 1) := by decide +kernel
theorem dX3_init_1 : decode cX3_init 1 = .ok (.invokespecial 3, 3) := by decide +kernel
theorem dX3_init_4 : decode cX3_init 4 = .ok (.aload_n 0, 1) := by decide +kernel
theorem dX3_init_5 : decode cX3_init 5 = .ok (.iconst 4, 1) := by decide +kernel
theorem dX3_init_6 : decode cX3_init 6 = .ok (.newarray .int, 2) := by decide +kernel
theorem dX3_init_8 : decode cX3_init 8 = .ok (.putfield 9, 3) := by decide +kernel
theorem dX3_init_11 : decode cX3_init 11 = .ok (.aload_n 0, 1) := by decide +kernel
theorem dX3_init_12 : decode cX3_init 12 = .ok (.aload_n 1, 1) := by decide +kernel
theorem dX3_init_13 : decode cX3_init 13 = .ok (.putfield 15, 3) := by decide +kernel
theorem dX3_init_16 : decode cX3_init 16 = .ok (.aload_n 0, 1) := by decide +kernel
theorem dX3_init_17 : decode cX3_init 17 = .ok (.aload_n 2, 1) := by decide +kernel
theorem dX3_init_18 : decode cX3_init 18 = .ok (.putfield 19, 3) := by decide +kernel
theorem dX3_init_21 : decode cX3_init 21 = .ok (.return_, 1) := by decide +kernel
theorem dX4_init_0 : decode cX4_init 0 = .ok (.aload_n 0, 1) := by decide +kernel
theorem dX4_init_1 : decode cX4_init 1 = .ok (.invokespecial 3, 3) := by decide +kernel
theorem dX4_init_4 : decode cX4_init 4 = .ok (.aload_n 0, 1) := by decide +kernel
theorem dX4_init_5 : decode cX4_init 5 = .ok (.bipush 30, 2) := by decide +kernel
theorem dX4_init_7 : decode cX4_init 7 = .ok (.newarray .int, 2) := by decide +kernel
theorem dX4_init_9 : decode cX4_init 9 = .ok (.putfield 9, 3) := by decide +kernel
theorem dX4_init_12 : decode cX4_init 12 = .ok (.aload_n 0, 1) := by decide +kernel
theorem dX4_init_13 : decode cX4_init 13 = .ok (.bipush 30, 2) := by decide +kernel
theorem dX4_init_15 : decode cX4_init 15 = .ok (.newarray .int, 2) := by decide +kernel
theorem dX4_init_17 : decode cX4_init 17 = .ok (.putfield 15, 3) := by decide +kernel
theorem dX4_init_20 : decode cX4_init 20 = .ok (.aload_n 0, 1) := by decide +kernel
theorem dX4_init_21 : decode cX4_init 21 = .ok (.bipush 30, 2) := by decide +kernel
theorem dX4_init_23 : decode cX4_init 23 = .ok (.newarray .int, 2) := by decide +kernel
theorem dX4_init_25 : decode cX4_init 25 = .ok (.putfield 18, 3) := by decide +kernel
theorem dX4_init_28 : decode cX4_init 28 = .ok (.aload_n 0, 1) := by decide +kernel
theorem dX4_init_29 : decode cX4_init 29 = .ok (.iconst 0, 1) := by decide +kernel
theorem dX4_init_30 : decode cX4_init 30 = .ok (.putfield 21, 3) := by decide +kernel
theorem dX4_init_33 : decode cX4_init 33 = .ok (.aload_n 0, 1) := by decide +kernel
theorem dX4_init_34 : decode cX4_init 34 = .ok (.iconst 0, 1) := by decide +kernel
theorem dX4_init_35 : decode cX4_init 35 = .ok (.putfield 25, 3) := by decide +kernel
theorem dX4_init_38 : decode cX4_init 38 = .ok (.aload_n 0, 1) := by decide +kernel
theorem dX4_init_39 : decode cX4_init 39 = .ok (.bipush 6, 2) := by decide +kernel
theorem dX4_init_41 : decode cX4_init 41 = .ok (.newarray .int, 2) := by decide +kernel
theorem dX4_init_43 : decode cX4_init 43 = .ok (.putfield 28, 3) := by decide +kernel
theorem dX4_init_46 : decode cX4_init 46 = .ok (.aload_n 0, 1) := by decide +kernel
theorem dX4_init_47 : decode cX4_init 47 = .ok (.bipush 6, 2) := by decide +kernel
theorem dX4_init_49 : decode cX4_init 49 = .ok (.newarray .int, 2) := by decide +kernel
theorem dX4_init_51 : decode cX4_init 51 = .ok (.putfield 31, 3) := by decide +kernel
theorem dX4_init_54 : decode cX4_init 54 = .ok (.aload_n 0, 1) := by decide +kernel
theorem dX4_init_55 : decode cX4_init 55 = .ok (.bipush 6, 2) := by decide +kernel
theorem dX4_init_57 : decode cX4_init 57 = .ok (.newarray .int, 2) := by decide +kernel
theorem dX4_init_59 : decode cX4_init 59 = .ok (.putfield 34, 3) := by decide +kernel
theorem dX4_init_62 : decode cX4_init 62 = .ok (.aload_n 0, 1) := by decide +kernel
theorem dX4_init_63 : decode cX4_init 63 = .ok (.iconst 0, 1) := by decide +kernel
theorem dX4_init_64 : decode cX4_init 64 = .ok (.putfield 37, 3) := by decide +kernel
theorem dX4_init_67 : decode cX4_init 67 = .ok (.aload_n 0, 1) := by decide +kernel
theorem dX4_init_68 : decode cX4_init 68 = .ok (.aload_n 1, 1) := by decide +kernel
theorem dX4_init_69 : decode cX4_init 69 = .ok (.putfield 40, 3) := by decide +kernel
theorem dX4_init_72 : decode cX4_init 72 = .ok (.return_, 1) := by decide +kernel
theorem dX4_prepare_0 : decode cX4_prepare 0 = .ok (.aload_n 1, 1) := by decide +kernel
theorem dX4_prepare_1 : decode cX4_prepare 1 = .ok (.getfield 44, 3) := by decide +kernel
theorem dX4_prepare_4 : decode cX4_prepare 4 = .ok (.iconst 0, 1) := by decide +kernel
theorem dX4_prepare_5 : decode cX4_prepare 5 = .ok (.aload_n 0, 1) := by decide +kernel
theorem dX4_prepare_6 : decode cX4_prepare 6 = .ok (.getfield 9, 3) := by decide +kernel
theorem dX4_prepare_9 : decode cX4_prepare 9 = .ok (.iconst 0, 1) := by decide +kernel
theorem dX4_prepare_10 : decode cX4_prepare 10 = .ok (.bipush 30, 2) := by decide +kernel
theorem dX4_prepare_12 : decode cX4_prepare 12 = .ok (.invokestatic 47, 3) := by decide +kernel
theorem dX4_prepare_15 : decode cX4_prepare 15 = .ok (.aload_n 1, 1) := by decide +kernel
theorem dX4_prepare_16 : decode cX4_prepare 16 = .ok (.getfield 53, 3) := by decide +kernel
theorem dX4_prepare_19 : decode cX4_prepare 19 = .ok (.iconst 0, 1) := by decide +kernel
theorem dX4_prepare_20 : decode cX4_prepare 20 = .ok (.aload_n 0, 1) := by decide +kernel
theorem dX4_prepare_21 : decode cX4_prepare 21 = .ok (.getfield 15, 3) := by decide +kernel
theorem dX4_prepare_24 : decode cX4_prepare 24 = .ok (.iconst 0, 1) := by decide +kernel
theorem dX4_prepare_25 : decode cX4_prepare 25 = .ok (.bipush 30, 2) := by decide +kernel
theorem dX4_prepare_27 : decode cX4_prepare 27 = .ok (.invokestatic 47, 3) := by decide +kernel
theorem dX4_prepare_30 : decode cX4_prepare 30 = .ok (.aload_n 0, 1) := by decide +kernel
theorem dX4_prepare_31 : decode cX4_prepare 31 = .ok (.getfield 18, 3) := by decide +kernel
theorem dX4_prepare_34 : decode cX4_prepare 34 = .ok (.iconst 0, 1) := by decide +kernel
theorem dX4_prepare_35 : decode cX4_prepare 35 = .ok (.invokestatic 54, 3) := by decide +kernel
theorem dX4_prepare_38 : decode cX4_prepare 38 = .ok (.iconst 0, 1) := by decide +kernel
theorem dX4_prepare_39 : decode cX4_prepare 39 = .ok (.istore_n 2, 1) := by decide +kernel
theorem dX4_prepare_40 : decode cX4_prepare 40 = .ok (.iload_n 2, 1) := by decide +kernel
theorem dX4_prepare_41 : decode cX4_prepare 41 = .ok (.aload_n 1, 1) := by decide +kernel
theorem dX4_prepare_42 : decode cX4_prepare 42 = .ok (.getfield 60, 3) := by decide +kernel
theorem dX4_prepare_45 : decode cX4_prepare 45 = .ok (.if_icmp .ge 31, 3) := by decide +kernel
theorem dX4_prepare_48 : decode cX4_prepare 48 = .ok (.aload_n 0, 1) := by decide +kernel
theorem dX4_prepare_49 : decode cX4_prepare 49 = .ok (.getfield 18, 3) := by decide +kernel
theorem dX4_prepare_52 : decode cX4_prepare 52 = .ok (.aload_n 1, 1) := by decide +kernel
theorem dX4_prepare_53 : decode cX4_prepare 53 = .ok (.getfield 63, 3) := by decide +kernel
theorem dX4_prepare_56 : decode cX4_prepare 56 = .ok (.iload_n 2, 1) := by decide +kernel
theorem dX4_prepare_57 : decode cX4_prepare 57 = .ok (.iaload, 1) := by decide +kernel
theorem dX4_prepare_58 : decode cX4_prepare 58 = .ok (.dup2, 1) := by decide +kernel
theorem dX4_prepare_59 : decode cX4_prepare 59 = .ok (.iaload, 1) := by decide +kernel
theorem dX4_prepare_60 : decode cX4_prepare 60 = .ok (.iconst 1, 1) := by decide +kernel
theorem dX4_prepare_61 : decode cX4_prepare 61 = .ok (.aload_n 1, 1) := by decide +kernel
theorem dX4_prepare_62 : decode cX4_prepare 62 = .ok (.getfield 66, 3) := by decide +kernel
theorem dX4_prepare_65 : decode cX4_prepare 65 = .ok (.iload_n 2, 1) := by decide +kernel
theorem dX4_prepare_66 : decode cX4_prepare 66 = .ok (.iaload, 1) := by decide +kernel
theorem dX4_prepare_67 : decode cX4_prepare 67 = .ok (.ishl, 1) := by decide +kernel
theorem dX4_prepare_68 : decode cX4_prepare 68 = .ok (.ior, 1) := by decide +kernel
theorem dX4_prepare_69 : decode cX4_prepare 69 = .ok (.iastore, 1) := by decide +kernel
theorem dX4_prepare_70 : decode cX4_prepare 70 = .ok (.iinc 2 1, 3) := by decide +kernel
theorem dX4_prepare_73 : decode cX4_prepare 73 = .ok (.goto (-33), 3) := by decide +kernel
theorem dX4_prepare_76 : decode cX4_prepare 76 = .ok (.aload_n 0, 1) := by decide +kernel
theorem dX4_prepare_77 : decode cX4_prepare 77 = .ok (.aload_n 1, 1) := by decide +kernel
theorem dX4_prepare_78 : decode cX4_prepare 78 = .ok (.getfield 69, 3) := by decide +kernel
theorem dX4_prepare_81 : decode cX4_prepare 81 = .ok (.putfield 21, 3) := by decide +kernel
theorem dX4_prepare_84 : decode cX4_prepare 84 = .ok (.aload_n 0, 1) := by decide +kernel
theorem dX4_prepare_85 : decode cX4_prepare 85 = .ok (.aload_n 0, 1) := by decide +kernel
theorem dX4_prepare_86 : decode cX4_prepare 86 = .ok (.getfield 40, 3) := by decide +kernel
theorem dX4_prepare_89 : decode cX4_prepare 89 = .ok (.getfield 70, 3) := by decide +kernel
theorem dX4_prepare_92 : decode cX4_prepare 92 = .ok (.putfield 25, 3) := by decide +kernel
theorem dX4_prepare_95 : decode cX4_prepare 95 = .ok (.return_, 1) := by decide +kernel
theorem dX4_pass_0 : decode cX4_pass 0 = .ok (.aload_n 0, 1) := by decide +kernel
theorem dX4_pass_1 : decode cX4_pass 1 = .ok (.invokevirtual 77, 3) := by decide +kernel
theorem dX4_pass_4 : decode cX4_pass 4 = .ok (.iconst 0, 1) := by decide +kernel
theorem dX4_pass_5 : decode cX4_pass 5 = .ok (.istore_n 2, 1) := by decide +kernel
theorem dX4_pass_6 : decode cX4_pass 6 = .ok (.iload_n 2, 1) := by decide +kernel
theorem dX4_pass_7 : decode cX4_pass 7 = .ok (.iload_n 1, 1) := by decide +kernel
theorem dX4_pass_8 : decode cX4_pass 8 = .ok (.if_icmp .gt 20, 3) := by decide +kernel
theorem dX4_pass_11 : decode cX4_pass 11 = .ok (.iload_n 2, 1) := by decide +kernel
theorem dX4_pass_12 : decode cX4_pass 12 = .ok (.bipush 30, 2) := by decide +kernel
theorem dX4_pass_14 : decode cX4_pass 14 = .ok (.if_icmp .ge 14, 3) := by decide +kernel
theorem dX4_pass_17 : decode cX4_pass 17 = .ok (.aload_n 0, 1) := by decide +kernel
theorem dX4_pass_18 : decode cX4_pass 18 = .ok (.iload_n 2, 1) := by decide +kernel
theorem dX4_pass_19 : decode cX4_pass 19 = .ok (.invokevirtual 80, 3) := by decide +kernel
theorem dX4_pass_22 : decode cX4_pass 22 = .ok (.iinc 2 1, 3) := by decide +kernel
theorem dX4_pass_25 : decode cX4_pass 25 = .ok (.goto (-19), 3) := by decide +kernel
theorem dX4_pass_28 : decode cX4_pass 28 = .ok (.return_, 1) := by decide +kernel
theorem dX4_sumOfOutDays_0 : decode cX4_sumOfOutDays 0 = .ok (.iconst 0, 1) := by decide +kernel
theorem dX4_sumOfOutDays_1 : decode cX4_sumOfOutDays 1 = .ok (.istore_n 1, 1) := by decide +kernel
theorem dX4_sumOfOutDays_2 : decode cX4_sumOfOutDays 2 = .ok (.iconst 0, 1) := by decide +kernel
theorem dX4_sumOfOutDays_3 : decode cX4_sumOfOutDays 3 = .ok (.istore_n 2, 1) := by decide +kernel
theorem dX4_sumOfOutDays_4 : decode cX4_sumOfOutDays 4 = .ok (.iload_n 2, 1) := by decide +kernel
theorem dX4_sumOfOutDays_5 : decode cX4_sumOfOutDays 5 = .ok (.aload_n 0, 1) := by decide +kernel
theorem dX4_sumOfOutDays_6 : decode cX4_sumOfOutDays 6 = .ok (.getfield 40, 3) := by decide +kernel
theorem dX4_sumOfOutDays_9 : decode cX4_sumOfOutDays 9 = .ok (.getfield 84, 3) := by decide +kernel
theorem dX4_sumOfOutDays_12 : decode cX4_sumOfOutDays 12 = .ok (.if_icmp .ge 18, 3) := by decide +kernel
theorem dX4_sumOfOutDays_15 : decode cX4_sumOfOutDays 15 = .ok (.iload_n 1, 1) := by decide +kernel
theorem dX4_sumOfOutDays_16 : decode cX4_sumOfOutDays 16 = .ok (.aload_n 0, 1) := by decide +kernel
theorem dX4_sumOfOutDays_17 : decode cX4_sumOfOutDays 17 = .ok (.getfield 31, 3) := by decide +kernel
theorem dX4_sumOfOutDays_20 : decode cX4_sumOfOutDays 20 = .ok (.iload_n 2, 1) := by decide +kernel
theorem dX4_sumOfOutDays_21 : decode cX4_sumOfOutDays 21 = .ok (.iaload, 1) := by decide +kernel
theorem dX4_sumOfOutDays_22 : decode cX4_sumOfOutDays 22 = .ok (.iadd, 1) := by decide +kernel
theorem dX4_sumOfOutDays_23 : decode cX4_sumOfOutDays 23 = .ok (.istore_n 1, 1) := by decide +kernel
theorem dX4_sumOfOutDays_24 : decode cX4_sumOfOutDays 24 = .ok (.iinc 2 1, 3) := by decide +kernel
theorem dX4_sumOfOutDays_27 : decode cX4_sumOfOutDays 27 = .ok (.goto (-23), 3) := by decide +kernel
theorem dX4_sumOfOutDays_30 : decode cX4_sumOfOutDays 30 = .ok (.iload_n 1, 1) := by decide +kernel
theorem dX4_sumOfOutDays_31 : decode cX4_sumOfOutDays 31 = .ok (.ireturn, 1) := by decide +kernel
theorem dX4_begin_0 : decode cX4_begin 0 = .ok (.aload_n 0, 1) := by decide +kernel
theorem dX4_begin_1 : decode cX4_begin 1 = .ok (.getfield 28, 3) := by decide +kernel
theorem dX4_begin_4 : decode cX4_begin 4 = .ok (.iconst 0, 1) := by decide +kernel
theorem dX4_begin_5 : decode cX4_begin 5 = .ok (.invokestatic 54, 3) := by decide +kernel
theorem dX4_begin_8 : decode cX4_begin 8 = .ok (.aload_n 0, 1) := by decide +kernel
theorem dX4_begin_9 : decode cX4_begin 9 = .ok (.getfield 31, 3) := by decide +kernel
theorem dX4_begin_12 : decode cX4_begin 12 = .ok (.bipush (-9), 2) := by decide +kernel
theorem dX4_begin_14 : decode cX4_begin 14 = .ok (.invokestatic 54, 3) := by decide +kernel
theorem dX4_begin_17 : decode cX4_begin 17 = .ok (.aload_n 0, 1) := by decide +kernel
theorem dX4_begin_18 : decode cX4_begin 18 = .ok (.getfield 34, 3) := by decide +kernel
theorem dX4_begin_21 : decode cX4_begin 21 = .ok (.bipush (-9), 2) := by decide +kernel
theorem dX4_begin_23 : decode cX4_begin 23 = .ok (.invokestatic 54, 3) := by decide +kernel
theorem dX4_begin_26 : decode cX4_begin 26 = .ok (.aload_n 0, 1) := by decide +kernel
theorem dX4_begin_27 : decode cX4_begin 27 = .ok (.aload_n 0, 1) := by decide +kernel
theorem dX4_begin_28 : decode cX4_begin 28 = .ok (.getfield 40, 3) := by decide +kernel
theorem dX4_begin_31 : decode cX4_begin 31 = .ok (.invokevirtual 91, 3) := by decide +kernel
theorem dX4_begin_34 : decode cX4_begin 34 = .ok (.putfield 37, 3) := by decide +kernel
theorem dX4_begin_37 : decode cX4_begin 37 = .ok (.return_, 1) := by decide +kernel
theorem dX4_passDay_0 : decode cX4_passDay 0 = .ok (.aload_n 0, 1) := by decide +kernel
theorem dX4_passDay_1 : decode cX4_passDay 1 = .ok (.getfield 21, 3) := by decide +kernel
theorem dX4_passDay_4 : decode cX4_passDay 4 = .ok (.iload_n 1, 1) := by decide +kernel
theorem dX4_passDay_5 : decode cX4_passDay 5 = .ok (.invokestatic 73, 3) := by decide +kernel
theorem dX4_passDay_8 : decode cX4_passDay 8 = .ok (.ifCond .ne 27, 3) := by decide +kernel
theorem dX4_passDay_11 : decode cX4_passDay 11 = .ok (.aload_n 0, 1) := by decide +kernel
theorem dX4_passDay_12 : decode cX4_passDay 12 = .ok (.getfield 9, 3) := by decide +kernel
theorem dX4_passDay_15 : decode cX4_passDay 15 = .ok (.iload_n 1, 1) := by decide +kernel
theorem dX4_passDay_16 : decode cX4_passDay 16 = .ok (.iaload, 1) := by decide +kernel
theorem dX4_passDay_17 : decode cX4_passDay 17 = .ok (.ifCond .gt 14, 3) := by decide +kernel
theorem dX4_passDay_20 : decode cX4_passDay 20 = .ok (.aload_n 0, 1) := by decide +kernel
theorem dX4_passDay_21 : decode cX4_passDay 21 = .ok (.getfield 15, 3) := by decide +kernel
theorem dX4_passDay_24 : decode cX4_passDay 24 = .ok (.iload_n 1, 1) := by decide +kernel
theorem dX4_passDay_25 : decode cX4_passDay 25 = .ok (.iaload, 1) := by decide +kernel
theorem dX4_passDay_26 : decode cX4_passDay 26 = .ok (.bipush (-9), 2) := by decide +kernel
theorem dX4_passDay_28 : decode cX4_passDay 28 = .ok (.if_icmp .eq 7, 3) := by decide +kernel
theorem dX4_passDay_31 : decode cX4_passDay 31 = .ok (.iconst 1, 1) := by decide +kernel
theorem dX4_passDay_32 : decode cX4_passDay 32 = .ok (.goto 4, 3) := by decide +kernel
theorem dX4_passDay_35 : decode cX4_passDay 35 = .ok (.iconst 0, 1) := by decide +kernel
theorem dX4_passDay_36 : decode cX4_passDay 36 = .ok (.istore_n 2, 1) := by decide +kernel
theorem dX4_passDay_37 : decode cX4_passDay 37 = .ok (.iload_n 2, 1) := by decide +kernel
theorem dX4_passDay_38 : decode cX4_passDay 38 = .ok (.ifCond .eq 19, 3) := by decide +kernel
theorem dX4_passDay_41 : decode cX4_passDay 41 = .ok (.aload_n 0, 1) := by decide +kernel
theorem dX4_passDay_42 : decode cX4_passDay 42 = .ok (.aload_n 0, 1) := by decide +kernel
theorem dX4_passDay_43 : decode cX4_passDay 43 = .ok (.getfield 9, 3) := by decide +kernel
theorem dX4_passDay_46 : decode cX4_passDay 46 = .ok (.iload_n 1, 1) := by decide +kernel
theorem dX4_passDay_47 : decode cX4_passDay 47 = .ok (.iaload, 1) := by decide +kernel
theorem dX4_passDay_48 : decode cX4_passDay 48 = .ok (.aload_n 0, 1) := by decide +kernel
theorem dX4_passDay_49 : decode cX4_passDay 49 = .ok (.getfield 15, 3) := by decide +kernel
theorem dX4_passDay_52 : decode cX4_passDay 52 = .ok (.iload_n 1, 1) := by decide +kernel
theorem dX4_passDay_53 : decode cX4_passDay 53 = .ok (.iaload, 1) := by decide +kernel
theorem dX4_passDay_54 : decode cX4_passDay 54 = .ok (.invokevirtual 95, 3) := by decide +kernel
theorem dX4_passDay_57 : decode cX4_passDay 57 = .ok (.aload_n 0, 1) := by decide +kernel
theorem dX4_passDay_58 : decode cX4_passDay 58 = .ok (.getfield 18, 3) := by decide +kernel
theorem dX4_passDay_61 : decode cX4_passDay 61 = .ok (.iload_n 1, 1) := by decide +kernel
theorem dX4_passDay_62 : decode cX4_passDay 62 = .ok (.iaload, 1) := by decide +kernel
theorem dX4_passDay_63 : decode cX4_passDay 63 = .ok (.ifCond .eq 13, 3) := by decide +kernel
theorem dX4_passDay_66 : decode cX4_passDay 66 = .ok (.aload_n 0, 1) := by decide +kernel
theorem dX4_passDay_67 : decode cX4_passDay 67 = .ok (.aload_n 0, 1) := by decide +kernel
theorem dX4_passDay_68 : decode cX4_passDay 68 = .ok (.getfield 18, 3) := by decide +kernel
theorem dX4_passDay_71 : decode cX4_passDay 71 = .ok (.iload_n 1, 1) := by decide +kernel
theorem dX4_passDay_72 : decode cX4_passDay 72 = .ok (.iaload, 1) := by decide +kernel
theorem dX4_passDay_73 : decode cX4_passDay 73 = .ok (.invokevirtual 99, 3) := by decide +kernel
theorem dX4_passDay_76 : decode cX4_passDay 76 = .ok (.iload_n 2, 1) := by decide +kernel
theorem dX4_passDay_77 : decode cX4_passDay 77 = .ok (.ifCond .eq 8, 3) := by decide +kernel
theorem dX4_passDay_80 : decode cX4_passDay 80 = .ok (.aload_n 0, 1) := by decide +kernel
theorem dX4_passDay_81 : decode cX4_passDay 81 = .ok (.iload_n 1, 1) := by decide +kernel
theorem dX4_passDay_82 : decode cX4_passDay 82 = .ok (.invokevirtual 102, 3) := by decide +kernel
theorem dX4_passDay_85 : decode cX4_passDay 85 = .ok (.aload_n 0, 1) := by decide +kernel
theorem dX4_passDay_86 : decode cX4_passDay 86 = .ok (.getfield 40, 3) := by decide +kernel
theorem dX4_passDay_89 : decode cX4_passDay 89 = .ok (.getfield 105, 3) := by decide +kernel
theorem dX4_passDay_92 : decode cX4_passDay 92 = .ok (.iload_n 1, 1) := by decide +kernel
theorem dX4_passDay_93 : decode cX4_passDay 93 = .ok (.iaload, 1) := by decide +kernel
theorem dX4_passDay_94 : decode cX4_passDay 94 = .ok (.aload_n 0, 1) := by decide +kernel
theorem dX4_passDay_95 : decode cX4_passDay 95 = .ok (.getfield 37, 3) := by decide +kernel
theorem dX4_passDay_98 : decode cX4_passDay 98 = .ok (.iand, 1) := by decide +kernel
theorem dX4_passDay_99 : decode cX4_passDay 99 = .ok (.istore_n 3, 1) := by decide +kernel
theorem dX4_passDay_100 : decode cX4_passDay 100 = .ok (.iload_n 3, 1) := by decide +kernel
theorem dX4_passDay_101 : decode cX4_passDay 101 = .ok (.ifCond .eq 9, 3) := by decide +kernel
theorem dX4_passDay_104 : decode cX4_passDay 104 = .ok (.aload_n 0, 1) := by decide +kernel
theorem dX4_passDay_105 : decode cX4_passDay 105 = .ok (.iload_n 3, 1) := by decide +kernel
theorem dX4_passDay_106 : decode cX4_passDay 106 = .ok (.iload_n 1, 1) := by decide +kernel
theorem dX4_passDay_107 : decode cX4_passDay 107 = .ok (.invokevirtual 108, 3) := by decide +kernel
theorem dX4_passDay_110 : decode cX4_passDay 110 = .ok (.return_, 1) := by decide +kernel
theorem dX4_giveWater_0 : decode cX4_giveWater 0 = .ok (.iconst 0, 1) := by decide +kernel
theorem dX4_giveWater_1 : decode cX4_giveWater 1 = .ok (.istore_n 3, 1) := by decide +kernel
theorem dX4_giveWater_2 : decode cX4_giveWater 2 = .ok (.iload_n 3, 1) := by decide +kernel
theorem dX4_giveWater_3 : decode cX4_giveWater 3 = .ok (.aload_n 0, 1) := by decide +kernel
theorem dX4_giveWater_4 : decode cX4_giveWater 4 = .ok (.getfield 40, 3) := by decide +kernel
theorem dX4_giveWater_7 : decode cX4_giveWater 7 = .ok (.getfield 111, 3) := by decide +kernel
theorem dX4_giveWater_10 : decode cX4_giveWater 10 = .ok (.if_icmp .ge 19, 3) := by decide +kernel
theorem dX4_giveWater_13 : decode cX4_giveWater 13 = .ok (.aload_n 0, 1) := by decide +kernel
theorem dX4_giveWater_14 : decode cX4_giveWater 14 = .ok (.getfield 28, 3) := by decide +kernel
theorem dX4_giveWater_17 : decode cX4_giveWater 17 = .ok (.iload_n 3, 1) := by decide +kernel
theorem dX4_giveWater_18 : decode cX4_giveWater 18 = .ok (.dup2, 1) := by decide +kernel
theorem dX4_giveWater_19 : decode cX4_giveWater 19 = .ok (.iaload, 1) := by decide +kernel
theorem dX4_giveWater_20 : decode cX4_giveWater 20 = .ok (.iload_n 1, 1) := by decide +kernel
theorem dX4_giveWater_21 : decode cX4_giveWater 21 = .ok (.iadd, 1) := by decide +kernel
theorem dX4_giveWater_22 : decode cX4_giveWater 22 = .ok (.iastore, 1) := by decide +kernel
theorem dX4_giveWater_23 : decode cX4_giveWater 23 = .ok (.iinc 3 1, 3) := by decide +kernel
theorem dX4_giveWater_26 : decode cX4_giveWater 26 = .ok (.goto (-24), 3) := by decide +kernel
theorem dX4_giveWater_29 : decode cX4_giveWater 29 = .ok (.aload_n 0, 1) := by decide +kernel
theorem dX4_giveWater_30 : decode cX4_giveWater 30 = .ok (.getfield 40, 3) := by decide +kernel
theorem dX4_giveWater_33 : decode cX4_giveWater 33 = .ok (.iload_n 2, 1) := by decide +kernel
theorem dX4_giveWater_34 : decode cX4_giveWater 34 = .ok (.invokevirtual 114, 3) := by decide +kernel
theorem dX4_giveWater_37 : decode cX4_giveWater 37 = .ok (.ifCond .eq 13, 3) := by decide +kernel
theorem dX4_giveWater_40 : decode cX4_giveWater 40 = .ok (.aload_n 0, 1) := by decide +kernel
theorem dX4_giveWater_41 : decode cX4_giveWater 41 = .ok (.getfield 28, 3) := by decide +kernel
theorem dX4_giveWater_44 : decode cX4_giveWater 44 = .ok (.iload_n 2, 1) := by decide +kernel
theorem dX4_giveWater_45 : decode cX4_giveWater 45 = .ok (.dup2, 1) := by decide +kernel
theorem dX4_giveWater_46 : decode cX4_giveWater 46 = .ok (.iaload, 1) := by decide +kernel
theorem dX4_giveWater_47 : decode cX4_giveWater 47 = .ok (.iconst 3, 1) := by decide +kernel
theorem dX4_giveWater_48 : decode cX4_giveWater 48 = .ok (.iadd, 1) := by decide +kernel
theorem dX4_giveWater_49 : decode cX4_giveWater 49 = .ok (.iastore, 1) := by decide +kernel
theorem dX4_giveWater_50 : decode cX4_giveWater 50 = .ok (.return_, 1) := by decide +kernel
theorem dX4_sendCrows_0 : decode cX4_sendCrows 0 = .ok (.iconst 0, 1) := by decide +kernel
theorem dX4_sendCrows_1 : decode cX4_sendCrows 1 = .ok (.istore_n 2, 1) := by decide +kernel
theorem dX4_sendCrows_2 : decode cX4_sendCrows 2 = .ok (.iload_n 2, 1) := by decide +kernel
theorem dX4_sendCrows_3 : decode cX4_sendCrows 3 = .ok (.aload_n 0, 1) := by decide +kernel
theorem dX4_sendCrows_4 : decode cX4_sendCrows 4 = .ok (.getfield 40, 3) := by decide +kernel
theorem dX4_sendCrows_7 : decode cX4_sendCrows 7 = .ok (.getfield 111, 3) := by decide +kernel
theorem dX4_sendCrows_10 : decode cX4_sendCrows 10 = .ok (.if_icmp .ge 32, 3) := by decide +kernel
theorem dX4_sendCrows_13 : decode cX4_sendCrows 13 = .ok (.iload_n 1, 1) := by decide +kernel
theorem dX4_sendCrows_14 : decode cX4_sendCrows 14 = .ok (.iload_n 2, 1) := by decide +kernel
theorem dX4_sendCrows_15 : decode cX4_sendCrows 15 = .ok (.invokestatic 73, 3) := by decide +kernel
theorem dX4_sendCrows_18 : decode cX4_sendCrows 18 = .ok (.ifCond .eq 18, 3) := by decide +kernel
theorem dX4_sendCrows_21 : decode cX4_sendCrows 21 = .ok (.aload_n 0, 1) := by decide +kernel
theorem dX4_sendCrows_22 : decode cX4_sendCrows 22 = .ok (.iload_n 2, 1) := by decide +kernel
theorem dX4_sendCrows_23 : decode cX4_sendCrows 23 = .ok (.invokevirtual 117, 3) := by decide +kernel
theorem dX4_sendCrows_26 : decode cX4_sendCrows 26 = .ok (.ifCond .eq 10, 3) := by decide +kernel
theorem dX4_sendCrows_29 : decode cX4_sendCrows 29 = .ok (.aload_n 0, 1) := by decide +kernel
theorem dX4_sendCrows_30 : decode cX4_sendCrows 30 = .ok (.getfield 28, 3) := by decide +kernel
theorem dX4_sendCrows_33 : decode cX4_sendCrows 33 = .ok (.iload_n 2, 1) := by decide +kernel
theorem dX4_sendCrows_34 : decode cX4_sendCrows 34 = .ok (.iconst 0, 1) := by decide +kernel
theorem dX4_sendCrows_35 : decode cX4_sendCrows 35 = .ok (.iastore, 1) := by decide +kernel
theorem dX4_sendCrows_36 : decode cX4_sendCrows 36 = .ok (.iinc 2 1, 3) := by decide +kernel
theorem dX4_sendCrows_39 : decode cX4_sendCrows 39 = .ok (.goto (-37), 3) := by decide +kernel
theorem dX4_sendCrows_42 : decode cX4_sendCrows 42 = .ok (.return_, 1) := by decide +kernel
theorem dX4_isRipe_0 : decode cX4_isRipe 0 = .ok (.aload_n 0, 1) := by decide +kernel
theorem dX4_isRipe_1 : decode cX4_isRipe 1 = .ok (.getfield 28, 3) := by decide +kernel
theorem dX4_isRipe_4 : decode cX4_isRipe 4 = .ok (.iload_n 1, 1) := by decide +kernel
theorem dX4_isRipe_5 : decode cX4_isRipe 5 = .ok (.iaload, 1) := by decide +kernel
theorem dX4_isRipe_6 : decode cX4_isRipe 6 = .ok (.aload_n 0, 1) := by decide +kernel
theorem dX4_isRipe_7 : decode cX4_isRipe 7 = .ok (.getfield 40, 3) := by decide +kernel
theorem dX4_isRipe_10 : decode cX4_isRipe 10 = .ok (.getfield 120, 3) := by decide +kernel
theorem dX4_isRipe_13 : decode cX4_isRipe 13 = .ok (.iload_n 1, 1) := by decide +kernel
theorem dX4_isRipe_14 : decode cX4_isRipe 14 = .ok (.iaload, 1) := by decide +kernel
theorem dX4_isRipe_15 : decode cX4_isRipe 15 = .ok (.if_icmp .lt 7, 3) := by decide +kernel
theorem dX4_isRipe_18 : decode cX4_isRipe 18 = .ok (.iconst 1, 1) := by decide +kernel
theorem dX4_isRipe_19 : decode cX4_isRipe 19 = .ok (.goto 4, 3) := by decide +kernel
theorem dX4_isRipe_22 : decode cX4_isRipe 22 = .ok (.iconst 0, 1) := by decide +kernel
theorem dX4_isRipe_23 : decode cX4_isRipe 23 = .ok (.ireturn, 1) := by decide +kernel
theorem dX4_turnKeys_0 : decode cX4_turnKeys 0 = .ok (.iconst 0, 1) := by decide +kernel
theorem dX4_turnKeys_1 : decode cX4_turnKeys 1 = .ok (.istore_n 2, 1) := by decide +kernel
theorem dX4_turnKeys_2 : decode cX4_turnKeys 2 = .ok (.iload_n 2, 1) := by decide +kernel
theorem dX4_turnKeys_3 : decode cX4_turnKeys 3 = .ok (.aload_n 0, 1) := by decide +kernel
theorem dX4_turnKeys_4 : decode cX4_turnKeys 4 = .ok (.getfield 40, 3) := by decide +kernel
theorem dX4_turnKeys_7 : decode cX4_turnKeys 7 = .ok (.getfield 111, 3) := by decide +kernel
theorem dX4_turnKeys_10 : decode cX4_turnKeys 10 = .ok (.if_icmp .ge 65, 3) := by decide +kernel
theorem dX4_turnKeys_13 : decode cX4_turnKeys 13 = .ok (.aload_n 0, 1) := by decide +kernel
theorem dX4_turnKeys_14 : decode cX4_turnKeys 14 = .ok (.getfield 40, 3) := by decide +kernel
theorem dX4_turnKeys_17 : decode cX4_turnKeys 17 = .ok (.getfield 123, 3) := by decide +kernel
theorem dX4_turnKeys_20 : decode cX4_turnKeys 20 = .ok (.iload_n 2, 1) := by decide +kernel
theorem dX4_turnKeys_21 : decode cX4_turnKeys 21 = .ok (.iaload, 1) := by decide +kernel
theorem dX4_turnKeys_22 : decode cX4_turnKeys 22 = .ok (.aload_n 0, 1) := by decide +kernel
theorem dX4_turnKeys_23 : decode cX4_turnKeys 23 = .ok (.getfield 37, 3) := by decide +kernel
theorem dX4_turnKeys_26 : decode cX4_turnKeys 26 = .ok (.iand, 1) := by decide +kernel
theorem dX4_turnKeys_27 : decode cX4_turnKeys 27 = .ok (.istore_n 3, 1) := by decide +kernel
theorem dX4_turnKeys_28 : decode cX4_turnKeys 28 = .ok (.iload_n 3, 1) := by decide +kernel
theorem dX4_turnKeys_29 : decode cX4_turnKeys 29 = .ok (.ifCond .eq 40, 3) := by decide +kernel
theorem dX4_turnKeys_32 : decode cX4_turnKeys 32 = .ok (.aload_n 0, 1) := by decide +kernel
theorem dX4_turnKeys_33 : decode cX4_turnKeys 33 = .ok (.iload_n 2, 1) := by decide +kernel
theorem dX4_turnKeys_34 : decode cX4_turnKeys 34 = .ok (.invokevirtual 117, 3) := by decide +kernel
theorem dX4_turnKeys_37 : decode cX4_turnKeys 37 = .ok (.ifCond .eq 32, 3) := by decide +kernel
theorem dX4_turnKeys_40 : decode cX4_turnKeys 40 = .ok (.aload_n 0, 1) := by decide +kernel
theorem dX4_turnKeys_41 : decode cX4_turnKeys 41 = .ok (.getfield 25, 3) := by decide +kernel
theorem dX4_turnKeys_44 : decode cX4_turnKeys 44 = .ok (.iload_n 2, 1) := by decide +kernel
theorem dX4_turnKeys_45 : decode cX4_turnKeys 45 = .ok (.invokestatic 73, 3) := by decide +kernel
theorem dX4_turnKeys_48 : decode cX4_turnKeys 48 = .ok (.ifCond .ne 21, 3) := by decide +kernel
theorem dX4_turnKeys_51 : decode cX4_turnKeys 51 = .ok (.aload_n 0, 1) := by decide +kernel
theorem dX4_turnKeys_52 : decode cX4_turnKeys 52 = .ok (.aload_n 0, 1) := by decide +kernel
theorem dX4_turnKeys_53 : decode cX4_turnKeys 53 = .ok (.iload_n 3, 1) := by decide +kernel
theorem dX4_turnKeys_54 : decode cX4_turnKeys 54 = .ok (.invokevirtual 126, 3) := by decide +kernel
theorem dX4_turnKeys_57 : decode cX4_turnKeys 57 = .ok (.iload_n 1, 1) := by decide +kernel
theorem dX4_turnKeys_58 : decode cX4_turnKeys 58 = .ok (.iload_n 2, 1) := by decide +kernel
theorem dX4_turnKeys_59 : decode cX4_turnKeys 59 = .ok (.invokevirtual 130, 3) := by decide +kernel
theorem dX4_turnKeys_62 : decode cX4_turnKeys 62 = .ok (.aload_n 0, 1) := by decide +kernel
theorem dX4_turnKeys_63 : decode cX4_turnKeys 63 = .ok (.getfield 28, 3) := by decide +kernel
theorem dX4_turnKeys_66 : decode cX4_turnKeys 66 = .ok (.iload_n 2, 1) := by decide +kernel
theorem dX4_turnKeys_67 : decode cX4_turnKeys 67 = .ok (.iconst 0, 1) := by decide +kernel
theorem dX4_turnKeys_68 : decode cX4_turnKeys 68 = .ok (.iastore, 1) := by decide +kernel
theorem dX4_turnKeys_69 : decode cX4_turnKeys 69 = .ok (.iinc 2 1, 3) := by decide +kernel
theorem dX4_turnKeys_72 : decode cX4_turnKeys 72 = .ok (.goto (-70), 3) := by decide +kernel
theorem dX4_turnKeys_75 : decode cX4_turnKeys 75 = .ok (.return_, 1) := by decide +kernel
theorem dX4_leastOf_0 : decode cX4_leastOf 0 = .ok (.iconst 0, 1) := by decide +kernel
theorem dX4_leastOf_1 : decode cX4_leastOf 1 = .ok (.istore_n 2, 1) := by decide +kernel
theorem dX4_leastOf_2 : decode cX4_leastOf 2 = .ok (.iload_n 2, 1) := by decide +kernel
theorem dX4_leastOf_3 : decode cX4_leastOf 3 = .ok (.iconst 5, 1) := by decide +kernel
theorem dX4_leastOf_4 : decode cX4_leastOf 4 = .ok (.if_icmp .ge 17, 3) := by decide +kernel
theorem dX4_leastOf_7 : decode cX4_leastOf 7 = .ok (.iload_n 1, 1) := by decide +kernel
theorem dX4_leastOf_8 : decode cX4_leastOf 8 = .ok (.iload_n 2, 1) := by decide +kernel
theorem dX4_leastOf_9 : decode cX4_leastOf 9 = .ok (.invokestatic 73, 3) := by decide +kernel
theorem dX4_leastOf_12 : decode cX4_leastOf 12 = .ok (.ifCond .ne 9, 3) := by decide +kernel
theorem dX4_leastOf_15 : decode cX4_leastOf 15 = .ok (.iinc 2 1, 3) := by decide +kernel
theorem dX4_leastOf_18 : decode cX4_leastOf 18 = .ok (.goto (-16), 3) := by decide +kernel
theorem dX4_leastOf_21 : decode cX4_leastOf 21 = .ok (.iload_n 2, 1) := by decide +kernel
theorem dX4_leastOf_22 : decode cX4_leastOf 22 = .ok (.ireturn, 1) := by decide +kernel
theorem dX4_endTerms_0 : decode cX4_endTerms 0 = .ok (.iconst 0, 1) := by decide +kernel
theorem dX4_endTerms_1 : decode cX4_endTerms 1 = .ok (.istore_n 3, 1) := by decide +kernel
theorem dX4_endTerms_2 : decode cX4_endTerms 2 = .ok (.iload_n 3, 1) := by decide +kernel
theorem dX4_endTerms_3 : decode cX4_endTerms 3 = .ok (.aload_n 0, 1) := by decide +kernel
theorem dX4_endTerms_4 : decode cX4_endTerms 4 = .ok (.getfield 40, 3) := by decide +kernel
theorem dX4_endTerms_7 : decode cX4_endTerms 7 = .ok (.getfield 84, 3) := by decide +kernel
theorem dX4_endTerms_10 : decode cX4_endTerms 10 = .ok (.if_icmp .ge 25, 3) := by decide +kernel
theorem dX4_endTerms_13 : decode cX4_endTerms 13 = .ok (.iload_n 1, 1) := by decide +kernel
theorem dX4_endTerms_14 : decode cX4_endTerms 14 = .ok (.iload_n 3, 1) := by decide +kernel
theorem dX4_endTerms_15 : decode cX4_endTerms 15 = .ok (.invokestatic 73, 3) := by decide +kernel
theorem dX4_endTerms_18 : decode cX4_endTerms 18 = .ok (.ifCond .eq 11, 3) := by decide +kernel
theorem dX4_endTerms_21 : decode cX4_endTerms 21 = .ok (.aload_n 0, 1) := by decide +kernel
theorem dX4_endTerms_22 : decode cX4_endTerms 22 = .ok (.iload_n 3, 1) := by decide +kernel
theorem dX4_endTerms_23 : decode cX4_endTerms 23 = .ok (.iload_n 2, 1) := by decide +kernel
theorem dX4_endTerms_24 : decode cX4_endTerms 24 = .ok (.bipush (-9), 2) := by decide +kernel
theorem dX4_endTerms_26 : decode cX4_endTerms 26 = .ok (.invokevirtual 130, 3) := by decide +kernel
theorem dX4_endTerms_29 : decode cX4_endTerms 29 = .ok (.iinc 3 1, 3) := by decide +kernel
theorem dX4_endTerms_32 : decode cX4_endTerms 32 = .ok (.goto (-30), 3) := by decide +kernel
theorem dX4_endTerms_35 : decode cX4_endTerms 35 = .ok (.return_, 1) := by decide +kernel
theorem dX4_letOut_0 : decode cX4_letOut 0 = .ok (.aload_n 0, 1) := by decide +kernel
theorem dX4_letOut_1 : decode cX4_letOut 1 = .ok (.dup, 1) := by decide +kernel
theorem dX4_letOut_2 : decode cX4_letOut 2 = .ok (.getfield 37, 3) := by decide +kernel
theorem dX4_letOut_5 : decode cX4_letOut 5 = .ok (.iconst 1, 1) := by decide +kernel
theorem dX4_letOut_6 : decode cX4_letOut 6 = .ok (.iload_n 1, 1) := by decide +kernel
theorem dX4_letOut_7 : decode cX4_letOut 7 = .ok (.ishl, 1) := by decide +kernel
theorem dX4_letOut_8 : decode cX4_letOut 8 = .ok (.iconst (-1), 1) := by decide +kernel
theorem dX4_letOut_9 : decode cX4_letOut 9 = .ok (.ixor, 1) := by decide +kernel
theorem dX4_letOut_10 : decode cX4_letOut 10 = .ok (.iand, 1) := by decide +kernel
theorem dX4_letOut_11 : decode cX4_letOut 11 = .ok (.putfield 37, 3) := by decide +kernel
theorem dX4_letOut_14 : decode cX4_letOut 14 = .ok (.aload_n 0, 1) := by decide +kernel
theorem dX4_letOut_15 : decode cX4_letOut 15 = .ok (.getfield 31, 3) := by decide +kernel
theorem dX4_letOut_18 : decode cX4_letOut 18 = .ok (.iload_n 1, 1) := by decide +kernel
theorem dX4_letOut_19 : decode cX4_letOut 19 = .ok (.iload_n 2, 1) := by decide +kernel
theorem dX4_letOut_20 : decode cX4_letOut 20 = .ok (.iastore, 1) := by decide +kernel
theorem dX4_letOut_21 : decode cX4_letOut 21 = .ok (.aload_n 0, 1) := by decide +kernel
theorem dX4_letOut_22 : decode cX4_letOut 22 = .ok (.getfield 34, 3) := by decide +kernel
theorem dX4_letOut_25 : decode cX4_letOut 25 = .ok (.iload_n 1, 1) := by decide +kernel
theorem dX4_letOut_26 : decode cX4_letOut 26 = .ok (.iload_n 3, 1) := by decide +kernel
theorem dX4_letOut_27 : decode cX4_letOut 27 = .ok (.iastore, 1) := by decide +kernel
theorem dX4_letOut_28 : decode cX4_letOut 28 = .ok (.return_, 1) := by decide +kernel
theorem dX5_init_0 : decode cX5_init 0 = .ok (.aload_n 0, 1) := by decide +kernel
theorem dX5_init_1 : decode cX5_init 1 = .ok (.invokespecial 3, 3) := by decide +kernel
theorem dX5_init_4 : decode cX5_init 4 = .ok (.aload_n 0, 1) := by decide +kernel
theorem dX5_init_5 : decode cX5_init 5 = .ok (.bipush 50, 2) := by decide +kernel
theorem dX5_init_7 : decode cX5_init 7 = .ok (.newarray .int, 2) := by decide +kernel
theorem dX5_init_9 : decode cX5_init 9 = .ok (.putfield 9, 3) := by decide +kernel
theorem dX5_init_12 : decode cX5_init 12 = .ok (.aload_n 0, 1) := by decide +kernel
theorem dX5_init_13 : decode cX5_init 13 = .ok (.iconst 0, 1) := by decide +kernel
theorem dX5_init_14 : decode cX5_init 14 = .ok (.putfield 15, 3) := by decide +kernel
theorem dX5_init_17 : decode cX5_init 17 = .ok (.aload_n 0, 1) := by decide +kernel
theorem dX5_init_18 : decode cX5_init 18 = .ok (.iconst 0, 1) := by decide +kernel
theorem dX5_init_19 : decode cX5_init 19 = .ok (.putfield 19, 3) := by decide +kernel
theorem dX5_init_22 : decode cX5_init 22 = .ok (.aload_n 0, 1) := by decide +kernel
theorem dX5_init_23 : decode cX5_init 23 = .ok (.iconst 0, 1) := by decide +kernel
theorem dX5_init_24 : decode cX5_init 24 = .ok (.putfield 23, 3) := by decide +kernel
theorem dX5_init_27 : decode cX5_init 27 = .ok (.return_, 1) := by decide +kernel
theorem dX5_renew_0 : decode cX5_renew 0 = .ok (.aload_n 0, 1) := by decide +kernel
theorem dX5_renew_1 : decode cX5_renew 1 = .ok (.getfield 9, 3) := by decide +kernel
theorem dX5_renew_4 : decode cX5_renew 4 = .ok (.iconst 0, 1) := by decide +kernel
theorem dX5_renew_5 : decode cX5_renew 5 = .ok (.invokestatic 26, 3) := by decide +kernel
theorem dX5_renew_8 : decode cX5_renew 8 = .ok (.aload_n 0, 1) := by decide +kernel
theorem dX5_renew_9 : decode cX5_renew 9 = .ok (.iconst 1, 1) := by decide +kernel
theorem dX5_renew_10 : decode cX5_renew 10 = .ok (.putfield 15, 3) := by decide +kernel
theorem dX5_renew_13 : decode cX5_renew 13 = .ok (.aload_n 0, 1) := by decide +kernel
theorem dX5_renew_14 : decode cX5_renew 14 = .ok (.iload_n 1, 1) := by decide +kernel
theorem dX5_renew_15 : decode cX5_renew 15 = .ok (.putfield 19, 3) := by decide +kernel
theorem dX5_renew_18 : decode cX5_renew 18 = .ok (.aload_n 0, 1) := by decide +kernel
theorem dX5_renew_19 : decode cX5_renew 19 = .ok (.iload_n 2, 1) := by decide +kernel
theorem dX5_renew_20 : decode cX5_renew 20 = .ok (.putfield 23, 3) := by decide +kernel
theorem dX5_renew_23 : decode cX5_renew 23 = .ok (.return_, 1) := by decide +kernel
theorem dX5_isOfOtherLane_0 : decode cX5_isOfOtherLane 0 = .ok (.aload_n 0, 1) := by decide +kernel
theorem dX5_isOfOtherLane_1 : decode cX5_isOfOtherLane 1 = .ok (.getfield 15, 3) := by decide +kernel
theorem dX5_isOfOtherLane_4 : decode cX5_isOfOtherLane 4 = .ok (.ifCond .eq 15, 3) := by decide +kernel
theorem dX5_isOfOtherLane_7 : decode cX5_isOfOtherLane 7 = .ok (.aload_n 0, 1) := by decide +kernel
theorem dX5_isOfOtherLane_8 : decode cX5_isOfOtherLane 8 = .ok (.getfield 19, 3) := by decide +kernel
theorem dX5_isOfOtherLane_11 : decode cX5_isOfOtherLane 11 = .ok (.iload_n 1, 1) := by decide +kernel
theorem dX5_isOfOtherLane_12 : decode cX5_isOfOtherLane 12 = .ok (.if_icmp .eq 7, 3) := by decide +kernel
theorem dX5_isOfOtherLane_15 : decode cX5_isOfOtherLane 15 = .ok (.iconst 1, 1) := by decide +kernel
theorem dX5_isOfOtherLane_16 : decode cX5_isOfOtherLane 16 = .ok (.goto 4, 3) := by decide +kernel
theorem dX5_isOfOtherLane_19 : decode cX5_isOfOtherLane 19 = .ok (.iconst 0, 1) := by decide +kernel
theorem dX5_isOfOtherLane_20 : decode cX5_isOfOtherLane 20 = .ok (.ireturn, 1) := by decide +kernel
theorem dX5_hasCells_0 : decode cX5_hasCells 0 = .ok (.iload_n 1, 1) := by decide +kernel
theorem dX5_hasCells_1 : decode cX5_hasCells 1 = .ok (.ifCond .lt 29, 3) := by decide +kernel
theorem dX5_hasCells_4 : decode cX5_hasCells 4 = .ok (.iload_n 1, 1) := by decide +kernel
theorem dX5_hasCells_5 : decode cX5_hasCells 5 = .ok (.aload_n 0, 1) := by decide +kernel
theorem dX5_hasCells_6 : decode cX5_hasCells 6 = .ok (.getfield 23, 3) := by decide +kernel
theorem dX5_hasCells_9 : decode cX5_hasCells 9 = .ok (.if_icmp .gt 21, 3) := by decide +kernel
theorem dX5_hasCells_12 : decode cX5_hasCells 12 = .ok (.iload_n 2, 1) := by decide +kernel
theorem dX5_hasCells_13 : decode cX5_hasCells 13 = .ok (.ifCond .lt 17, 3) := by decide +kernel
theorem dX5_hasCells_16 : decode cX5_hasCells 16 = .ok (.iload_n 2, 1) := by decide +kernel
theorem dX5_hasCells_17 : decode cX5_hasCells 17 = .ok (.aload_n 0, 1) := by decide +kernel
theorem dX5_hasCells_18 : decode cX5_hasCells 18 = .ok (.getfield 23, 3) := by decide +kernel
theorem dX5_hasCells_21 : decode cX5_hasCells 21 = .ok (.iload_n 1, 1) := by decide +kernel
theorem dX5_hasCells_22 : decode cX5_hasCells 22 = .ok (.isub, 1) := by decide +kernel
theorem dX5_hasCells_23 : decode cX5_hasCells 23 = .ok (.if_icmp .gt 7, 3) := by decide +kernel
theorem dX5_hasCells_26 : decode cX5_hasCells 26 = .ok (.iconst 1, 1) := by decide +kernel
theorem dX5_hasCells_27 : decode cX5_hasCells 27 = .ok (.goto 4, 3) := by decide +kernel
theorem dX5_hasCells_30 : decode cX5_hasCells 30 = .ok (.iconst 0, 1) := by decide +kernel
theorem dX5_hasCells_31 : decode cX5_hasCells 31 = .ok (.ireturn, 1) := by decide +kernel
theorem dX5_cutToLane_0 : decode cX5_cutToLane 0 = .ok (.aload_n 0, 1) := by decide +kernel
theorem dX5_cutToLane_1 : decode cX5_cutToLane 1 = .ok (.getfield 19, 3) := by decide +kernel
theorem dX5_cutToLane_4 : decode cX5_cutToLane 4 = .ok (.lookupswitch 34 #[(0, 28), (1, 31)], 28) := by decide +kernel
theorem dX5_cutToLane_32 : decode cX5_cutToLane 32 = .ok (.iload_n 1, 1) := by decide +kernel
theorem dX5_cutToLane_33 : decode cX5_cutToLane 33 = .ok (.i2b, 1) := by decide +kernel
theorem dX5_cutToLane_34 : decode cX5_cutToLane 34 = .ok (.ireturn, 1) := by decide +kernel
theorem dX5_cutToLane_35 : decode cX5_cutToLane 35 = .ok (.iload_n 1, 1) := by decide +kernel
theorem dX5_cutToLane_36 : decode cX5_cutToLane 36 = .ok (.i2s, 1) := by decide +kernel
theorem dX5_cutToLane_37 : decode cX5_cutToLane 37 = .ok (.ireturn, 1) := by decide +kernel
theorem dX5_cutToLane_38 : decode cX5_cutToLane 38 = .ok (.iload_n 1, 1) := by decide +kernel
theorem dX5_cutToLane_39 : decode cX5_cutToLane 39 = .ok (.ireturn, 1) := by decide +kernel
theorem dX6_init_0 : decode cX6_init 0 = .ok (.aload_n 0, 1) := by decide +kernel
theorem dX6_init_1 : decode cX6_init 1 = .ok (.invokespecial 3, 3) := by decide +kernel
theorem dX6_init_4 : decode cX6_init 4 = .ok (.aload_n 0, 1) := by decide +kernel
theorem dX6_init_5 : decode cX6_init 5 = .ok (.bipush 50, 2) := by decide +kernel
theorem dX6_init_7 : decode cX6_init 7 = .ok (.newarray .int, 2) := by decide +kernel
theorem dX6_init_9 : decode cX6_init 9 = .ok (.putfield 9, 3) := by decide +kernel
theorem dX6_init_12 : decode cX6_init 12 = .ok (.aload_n 0, 1) := by decide +kernel
theorem dX6_init_13 : decode cX6_init 13 = .ok (.iconst 0, 1) := by decide +kernel
theorem dX6_init_14 : decode cX6_init 14 = .ok (.putfield 15, 3) := by decide +kernel
theorem dX6_init_17 : decode cX6_init 17 = .ok (.aload_n 0, 1) := by decide +kernel
theorem dX6_init_18 : decode cX6_init 18 = .ok (.iconst 0, 1) := by decide +kernel
theorem dX6_init_19 : decode cX6_init 19 = .ok (.putfield 19, 3) := by decide +kernel
theorem dX6_init_22 : decode cX6_init 22 = .ok (.aload_n 0, 1) := by decide +kernel
theorem dX6_init_23 : decode cX6_init 23 = .ok (.iconst 0, 1) := by decide +kernel
theorem dX6_init_24 : decode cX6_init 24 = .ok (.putfield 22, 3) := by decide +kernel
theorem dX6_init_27 : decode cX6_init 27 = .ok (.return_, 1) := by decide +kernel
theorem dX6_take_0 : decode cX6_take 0 = .ok (.aload_n 1, 1) := by decide +kernel
theorem dX6_take_1 : decode cX6_take 1 = .ok (.getfield 25, 3) := by decide +kernel
theorem dX6_take_4 : decode cX6_take 4 = .ok (.iload_n 2, 1) := by decide +kernel
theorem dX6_take_5 : decode cX6_take 5 = .ok (.aload_n 0, 1) := by decide +kernel
theorem dX6_take_6 : decode cX6_take 6 = .ok (.getfield 9, 3) := by decide +kernel
theorem dX6_take_9 : decode cX6_take 9 = .ok (.iconst 0, 1) := by decide +kernel
theorem dX6_take_10 : decode cX6_take 10 = .ok (.iload_n 3, 1) := by decide +kernel
theorem dX6_take_11 : decode cX6_take 11 = .ok (.invokestatic 30, 3) := by decide +kernel
theorem dX6_take_14 : decode cX6_take 14 = .ok (.aload_n 0, 1) := by decide +kernel
theorem dX6_take_15 : decode cX6_take 15 = .ok (.iload_n 3, 1) := by decide +kernel
theorem dX6_take_16 : decode cX6_take 16 = .ok (.putfield 15, 3) := by decide +kernel
theorem dX6_take_19 : decode cX6_take 19 = .ok (.return_, 1) := by decide +kernel
theorem dX6_firstFault_0 : decode cX6_firstFault 0 = .ok (.aload_n 0, 1) := by decide +kernel
theorem dX6_firstFault_1 : decode cX6_firstFault 1 = .ok (.iconst 0, 1) := by decide +kernel
theorem dX6_firstFault_2 : decode cX6_firstFault 2 = .ok (.putfield 19, 3) := by decide +kernel
theorem dX6_firstFault_5 : decode cX6_firstFault 5 = .ok (.aload_n 0, 1) := by decide +kernel
theorem dX6_firstFault_6 : decode cX6_firstFault 6 = .ok (.iconst 0, 1) := by decide +kernel
theorem dX6_firstFault_7 : decode cX6_firstFault 7 = .ok (.putfield 22, 3) := by decide +kernel
theorem dX6_firstFault_10 : decode cX6_firstFault 10 = .ok (.aload_n 0, 1) := by decide +kernel
theorem dX6_firstFault_11 : decode cX6_firstFault 11 = .ok (.iconst 0, 1) := by decide +kernel
theorem dX6_firstFault_12 : decode cX6_firstFault 12 = .ok (.invokevirtual 36, 3) := by decide +kernel
theorem dX6_firstFault_15 : decode cX6_firstFault 15 = .ok (.bipush 107, 2) := by decide +kernel
theorem dX6_firstFault_17 : decode cX6_firstFault 17 = .ok (.if_icmp .eq 5, 3) := by decide +kernel
theorem dX6_firstFault_20 : decode cX6_firstFault 20 = .ok (.iconst 0, 1) := by decide +kernel
theorem dX6_firstFault_21 : decode cX6_firstFault 21 = .ok (.ireturn, 1) := by decide +kernel
theorem dX6_firstFault_22 : decode cX6_firstFault 22 = .ok (.iconst 1, 1) := by decide +kernel
theorem dX6_firstFault_23 : decode cX6_firstFault 23 = .ok (.istore_n 1, 1) := by decide +kernel
theorem dX6_firstFault_24 : decode cX6_firstFault 24 = .ok (.aload_n 0, 1) := by decide +kernel
theorem dX6_firstFault_25 : decode cX6_firstFault 25 = .ok (.getfield 19, 3) := by decide +kernel
theorem dX6_firstFault_28 : decode cX6_firstFault 28 = .ok (.bipush 6, 2) := by decide +kernel
theorem dX6_firstFault_30 : decode cX6_firstFault 30 = .ok (.if_icmp .ge 62, 3) := by decide +kernel
theorem dX6_firstFault_33 : decode cX6_firstFault 33 = .ok (.aload_n 0, 1) := by decide +kernel
theorem dX6_firstFault_34 : decode cX6_firstFault 34 = .ok (.iload_n 1, 1) := by decide +kernel
theorem dX6_firstFault_35 : decode cX6_firstFault 35 = .ok (.invokevirtual 40, 3) := by decide +kernel
theorem dX6_firstFault_38 : decode cX6_firstFault 38 = .ok (.bipush (-9), 2) := by decide +kernel
theorem dX6_firstFault_40 : decode cX6_firstFault 40 = .ok (.if_icmp .eq 52, 3) := by decide +kernel
theorem dX6_firstFault_43 : decode cX6_firstFault 43 = .ok (.aload_n 0, 1) := by decide +kernel
theorem dX6_firstFault_44 : decode cX6_firstFault 44 = .ok (.iload_n 1, 1) := by decide +kernel
theorem dX6_firstFault_45 : decode cX6_firstFault 45 = .ok (.iconst 1, 1) := by decide +kernel
theorem dX6_firstFault_46 : decode cX6_firstFault 46 = .ok (.iadd, 1) := by decide +kernel
theorem dX6_firstFault_47 : decode cX6_firstFault 47 = .ok (.iconst 0, 1) := by decide +kernel
theorem dX6_firstFault_48 : decode cX6_firstFault 48 = .ok (.iconst 5, 1) := by decide +kernel
theorem dX6_firstFault_49 : decode cX6_firstFault 49 = .ok (.invokevirtual 43, 3) := by decide +kernel
theorem dX6_firstFault_52 : decode cX6_firstFault 52 = .ok (.ifCond .ne 7, 3) := by decide +kernel
theorem dX6_firstFault_55 : decode cX6_firstFault 55 = .ok (.iload_n 1, 1) := by decide +kernel
theorem dX6_firstFault_56 : decode cX6_firstFault 56 = .ok (.iconst 1, 1) := by decide +kernel
theorem dX6_firstFault_57 : decode cX6_firstFault 57 = .ok (.iadd, 1) := by decide +kernel
theorem dX6_firstFault_58 : decode cX6_firstFault 58 = .ok (.ireturn, 1) := by decide +kernel
theorem dX6_firstFault_59 : decode cX6_firstFault 59 = .ok (.aload_n 0, 1) := by decide +kernel
theorem dX6_firstFault_60 : decode cX6_firstFault 60 = .ok (.iload_n 1, 1) := by decide +kernel
theorem dX6_firstFault_61 : decode cX6_firstFault 61 = .ok (.iconst 2, 1) := by decide +kernel
theorem dX6_firstFault_62 : decode cX6_firstFault 62 = .ok (.iadd, 1) := by decide +kernel
theorem dX6_firstFault_63 : decode cX6_firstFault 63 = .ok (.iconst 1, 1) := by decide +kernel
theorem dX6_firstFault_64 : decode cX6_firstFault 64 = .ok (.bipush 9, 2) := by decide +kernel
theorem dX6_firstFault_66 : decode cX6_firstFault 66 = .ok (.invokevirtual 43, 3) := by decide +kernel
theorem dX6_firstFault_69 : decode cX6_firstFault 69 = .ok (.ifCond .ne 7, 3) := by decide +kernel
theorem dX6_firstFault_72 : decode cX6_firstFault 72 = .ok (.iload_n 1, 1) := by decide +kernel
theorem dX6_firstFault_73 : decode cX6_firstFault 73 = .ok (.iconst 2, 1) := by decide +kernel
theorem dX6_firstFault_74 : decode cX6_firstFault 74 = .ok (.iadd, 1) := by decide +kernel
theorem dX6_firstFault_75 : decode cX6_firstFault 75 = .ok (.ireturn, 1) := by decide +kernel
theorem dX6_firstFault_76 : decode cX6_firstFault 76 = .ok (.aload_n 0, 1) := by decide +kernel
theorem dX6_firstFault_77 : decode cX6_firstFault 77 = .ok (.dup, 1) := by decide +kernel
theorem dX6_firstFault_78 : decode cX6_firstFault 78 = .ok (.getfield 19, 3) := by decide +kernel
theorem dX6_firstFault_81 : decode cX6_firstFault 81 = .ok (.iconst 1, 1) := by decide +kernel
theorem dX6_firstFault_82 : decode cX6_firstFault 82 = .ok (.iadd, 1) := by decide +kernel
theorem dX6_firstFault_83 : decode cX6_firstFault 83 = .ok (.putfield 19, 3) := by decide +kernel
theorem dX6_firstFault_86 : decode cX6_firstFault 86 = .ok (.iinc 1 3, 3) := by decide +kernel
theorem dX6_firstFault_89 : decode cX6_firstFault 89 = .ok (.goto (-65), 3) := by decide +kernel
theorem dX6_firstFault_92 : decode cX6_firstFault 92 = .ok (.aload_n 0, 1) := by decide +kernel
theorem dX6_firstFault_93 : decode cX6_firstFault 93 = .ok (.getfield 19, 3) := by decide +kernel
theorem dX6_firstFault_96 : decode cX6_firstFault 96 = .ok (.ifCond .ne 5, 3) := by decide +kernel
theorem dX6_firstFault_99 : decode cX6_firstFault 99 = .ok (.iload_n 1, 1) := by decide +kernel
theorem dX6_firstFault_100 : decode cX6_firstFault 100 = .ok (.ireturn, 1) := by decide +kernel
theorem dX6_firstFault_101 : decode cX6_firstFault 101 = .ok (.aload_n 0, 1) := by decide +kernel
theorem dX6_firstFault_102 : decode cX6_firstFault 102 = .ok (.getfield 22, 3) := by decide +kernel
theorem dX6_firstFault_105 : decode cX6_firstFault 105 = .ok (.bipush 6, 2) := by decide +kernel
theorem dX6_firstFault_107 : decode cX6_firstFault 107 = .ok (.if_icmp .ge 78, 3) := by decide +kernel
theorem dX6_firstFault_110 : decode cX6_firstFault 110 = .ok (.aload_n 0, 1) := by decide +kernel
theorem dX6_firstFault_111 : decode cX6_firstFault 111 = .ok (.iload_n 1, 1) := by decide +kernel
theorem dX6_firstFault_112 : decode cX6_firstFault 112 = .ok (.invokevirtual 36, 3) := by decide +kernel
theorem dX6_firstFault_115 : decode cX6_firstFault 115 = .ok (.bipush 59, 2) := by decide +kernel
theorem dX6_firstFault_117 : decode cX6_firstFault 117 = .ok (.if_icmp .ne 68, 3) := by decide +kernel
theorem dX6_firstFault_120 : decode cX6_firstFault 120 = .ok (.aload_n 0, 1) := by decide +kernel
theorem dX6_firstFault_121 : decode cX6_firstFault 121 = .ok (.iload_n 1, 1) := by decide +kernel
theorem dX6_firstFault_122 : decode cX6_firstFault 122 = .ok (.iconst 1, 1) := by decide +kernel
theorem dX6_firstFault_123 : decode cX6_firstFault 123 = .ok (.iadd, 1) := by decide +kernel
theorem dX6_firstFault_124 : decode cX6_firstFault 124 = .ok (.iconst 0, 1) := by decide +kernel
theorem dX6_firstFault_125 : decode cX6_firstFault 125 = .ok (.iconst 5, 1) := by decide +kernel
theorem dX6_firstFault_126 : decode cX6_firstFault 126 = .ok (.invokevirtual 43, 3) := by decide +kernel
theorem dX6_firstFault_129 : decode cX6_firstFault 129 = .ok (.ifCond .ne 7, 3) := by decide +kernel
theorem dX6_firstFault_132 : decode cX6_firstFault 132 = .ok (.iload_n 1, 1) := by decide +kernel
theorem dX6_firstFault_133 : decode cX6_firstFault 133 = .ok (.iconst 1, 1) := by decide +kernel
theorem dX6_firstFault_134 : decode cX6_firstFault 134 = .ok (.iadd, 1) := by decide +kernel
theorem dX6_firstFault_135 : decode cX6_firstFault 135 = .ok (.ireturn, 1) := by decide +kernel
theorem dX6_firstFault_136 : decode cX6_firstFault 136 = .ok (.aload_n 0, 1) := by decide +kernel
theorem dX6_firstFault_137 : decode cX6_firstFault 137 = .ok (.iload_n 1, 1) := by decide +kernel
theorem dX6_firstFault_138 : decode cX6_firstFault 138 = .ok (.iconst 2, 1) := by decide +kernel
theorem dX6_firstFault_139 : decode cX6_firstFault 139 = .ok (.iadd, 1) := by decide +kernel
theorem dX6_firstFault_140 : decode cX6_firstFault 140 = .ok (.iconst 0, 1) := by decide +kernel
theorem dX6_firstFault_141 : decode cX6_firstFault 141 = .ok (.iconst 2, 1) := by decide +kernel
theorem dX6_firstFault_142 : decode cX6_firstFault 142 = .ok (.invokevirtual 43, 3) := by decide +kernel
theorem dX6_firstFault_145 : decode cX6_firstFault 145 = .ok (.ifCond .ne 7, 3) := by decide +kernel
theorem dX6_firstFault_148 : decode cX6_firstFault 148 = .ok (.iload_n 1, 1) := by decide +kernel
theorem dX6_firstFault_149 : decode cX6_firstFault 149 = .ok (.iconst 2, 1) := by decide +kernel
theorem dX6_firstFault_150 : decode cX6_firstFault 150 = .ok (.iadd, 1) := by decide +kernel
theorem dX6_firstFault_151 : decode cX6_firstFault 151 = .ok (.ireturn, 1) := by decide +kernel
theorem dX6_firstFault_152 : decode cX6_firstFault 152 = .ok (.aload_n 0, 1) := by decide +kernel
theorem dX6_firstFault_153 : decode cX6_firstFault 153 = .ok (.iload_n 1, 1) := by decide +kernel
theorem dX6_firstFault_154 : decode cX6_firstFault 154 = .ok (.iconst 3, 1) := by decide +kernel
theorem dX6_firstFault_155 : decode cX6_firstFault 155 = .ok (.iadd, 1) := by decide +kernel
theorem dX6_firstFault_156 : decode cX6_firstFault 156 = .ok (.iconst 0, 1) := by decide +kernel
theorem dX6_firstFault_157 : decode cX6_firstFault 157 = .ok (.bipush 9, 2) := by decide +kernel
theorem dX6_firstFault_159 : decode cX6_firstFault 159 = .ok (.invokevirtual 43, 3) := by decide +kernel
theorem dX6_firstFault_162 : decode cX6_firstFault 162 = .ok (.ifCond .ne 7, 3) := by decide +kernel
theorem dX6_firstFault_165 : decode cX6_firstFault 165 = .ok (.iload_n 1, 1) := by decide +kernel
theorem dX6_firstFault_166 : decode cX6_firstFault 166 = .ok (.iconst 3, 1) := by decide +kernel
theorem dX6_firstFault_167 : decode cX6_firstFault 167 = .ok (.iadd, 1) := by decide +kernel
theorem dX6_firstFault_168 : decode cX6_firstFault 168 = .ok (.ireturn, 1) := by decide +kernel
theorem dX6_firstFault_169 : decode cX6_firstFault 169 = .ok (.aload_n 0, 1) := by decide +kernel
theorem dX6_firstFault_170 : decode cX6_firstFault 170 = .ok (.dup, 1) := by decide +kernel
theorem dX6_firstFault_171 : decode cX6_firstFault 171 = .ok (.getfield 22, 3) := by decide +kernel
theorem dX6_firstFault_174 : decode cX6_firstFault 174 = .ok (.iconst 1, 1) := by decide +kernel
theorem dX6_firstFault_175 : decode cX6_firstFault 175 = .ok (.iadd, 1) := by decide +kernel
theorem dX6_firstFault_176 : decode cX6_firstFault 176 = .ok (.putfield 22, 3) := by decide +kernel
theorem dX6_firstFault_179 : decode cX6_firstFault 179 = .ok (.iinc 1 4, 3) := by decide +kernel
theorem dX6_firstFault_182 : decode cX6_firstFault 182 = .ok (.goto (-81), 3) := by decide +kernel
theorem dX6_firstFault_185 : decode cX6_firstFault 185 = .ok (.aload_n 0, 1) := by decide +kernel
theorem dX6_firstFault_186 : decode cX6_firstFault 186 = .ok (.getfield 22, 3) := by decide +kernel
theorem dX6_firstFault_189 : decode cX6_firstFault 189 = .ok (.ifCond .eq 11, 3) := by decide +kernel
theorem dX6_firstFault_192 : decode cX6_firstFault 192 = .ok (.iload_n 1, 1) := by decide +kernel
theorem dX6_firstFault_193 : decode cX6_firstFault 193 = .ok (.aload_n 0, 1) := by decide +kernel
theorem dX6_firstFault_194 : decode cX6_firstFault 194 = .ok (.getfield 15, 3) := by decide +kernel
theorem dX6_firstFault_197 : decode cX6_firstFault 197 = .ok (.if_icmp .ge 7, 3) := by decide +kernel
theorem dX6_firstFault_200 : decode cX6_firstFault 200 = .ok (.iload_n 1, 1) := by decide +kernel
theorem dX6_firstFault_201 : decode cX6_firstFault 201 = .ok (.goto 4, 3) := by decide +kernel
theorem dX6_firstFault_204 : decode cX6_firstFault 204 = .ok (.iconst (-1), 1) := by decide +kernel
theorem dX6_firstFault_205 : decode cX6_firstFault 205 = .ok (.ireturn, 1) := by decide +kernel
theorem dX6_codeAt_0 : decode cX6_codeAt 0 = .ok (.iload_n 1, 1) := by decide +kernel
theorem dX6_codeAt_1 : decode cX6_codeAt 1 = .ok (.ifCond .lt 20, 3) := by decide +kernel
theorem dX6_codeAt_4 : decode cX6_codeAt 4 = .ok (.iload_n 1, 1) := by decide +kernel
theorem dX6_codeAt_5 : decode cX6_codeAt 5 = .ok (.aload_n 0, 1) := by decide +kernel
theorem dX6_codeAt_6 : decode cX6_codeAt 6 = .ok (.getfield 15, 3) := by decide +kernel
theorem dX6_codeAt_9 : decode cX6_codeAt 9 = .ok (.if_icmp .ge 12, 3) := by decide +kernel
theorem dX6_codeAt_12 : decode cX6_codeAt 12 = .ok (.aload_n 0, 1) := by decide +kernel
theorem dX6_codeAt_13 : decode cX6_codeAt 13 = .ok (.getfield 9, 3) := by decide +kernel
theorem dX6_codeAt_16 : decode cX6_codeAt 16 = .ok (.iload_n 1, 1) := by decide +kernel
theorem dX6_codeAt_17 : decode cX6_codeAt 17 = .ok (.iaload, 1) := by decide +kernel
theorem dX6_codeAt_18 : decode cX6_codeAt 18 = .ok (.goto 5, 3) := by decide +kernel
theorem dX6_codeAt_21 : decode cX6_codeAt 21 = .ok (.bipush (-9), 2) := by decide +kernel
theorem dX6_codeAt_23 : decode cX6_codeAt 23 = .ok (.ireturn, 1) := by decide +kernel
theorem dX6_kindAt_0 : decode cX6_kindAt 0 = .ok (.aload_n 0, 1) := by decide +kernel
theorem dX6_kindAt_1 : decode cX6_kindAt 1 = .ok (.iload_n 1, 1) := by decide +kernel
theorem dX6_kindAt_2 : decode cX6_kindAt 2 = .ok (.invokevirtual 36, 3) := by decide +kernel
theorem dX6_kindAt_5 : decode cX6_kindAt 5 = .ok (.lookupswitch 41 #[(103, 37), (111, 39), (116, 35)], 35) := by decide +kernel
theorem dX6_kindAt_40 : decode cX6_kindAt 40 = .ok (.iconst 0, 1) := by decide +kernel
theorem dX6_kindAt_41 : decode cX6_kindAt 41 = .ok (.ireturn, 1) := by decide +kernel
theorem dX6_kindAt_42 : decode cX6_kindAt 42 = .ok (.iconst 1, 1) := by decide +kernel
theorem dX6_kindAt_43 : decode cX6_kindAt 43 = .ok (.ireturn, 1) := by decide +kernel
theorem dX6_kindAt_44 : decode cX6_kindAt 44 = .ok (.iconst 2, 1) := by decide +kernel
theorem dX6_kindAt_45 : decode cX6_kindAt 45 = .ok (.ireturn, 1) := by decide +kernel
theorem dX6_kindAt_46 : decode cX6_kindAt 46 = .ok (.bipush (-9), 2) := by decide +kernel
theorem dX6_kindAt_48 : decode cX6_kindAt 48 = .ok (.ireturn, 1) := by decide +kernel
theorem dX6_digitAt_0 : decode cX6_digitAt 0 = .ok (.aload_n 0, 1) := by decide +kernel
theorem dX6_digitAt_1 : decode cX6_digitAt 1 = .ok (.iload_n 1, 1) := by decide +kernel
theorem dX6_digitAt_2 : decode cX6_digitAt 2 = .ok (.invokevirtual 36, 3) := by decide +kernel
theorem dX6_digitAt_5 : decode cX6_digitAt 5 = .ok (.bipush 48, 2) := by decide +kernel
theorem dX6_digitAt_7 : decode cX6_digitAt 7 = .ok (.isub, 1) := by decide +kernel
theorem dX6_digitAt_8 : decode cX6_digitAt 8 = .ok (.ireturn, 1) := by decide +kernel
theorem dX6_termAt_0 : decode cX6_termAt 0 = .ok (.bipush 10, 2) := by decide +kernel
theorem dX6_termAt_2 : decode cX6_termAt 2 = .ok (.aload_n 0, 1) := by decide +kernel
theorem dX6_termAt_3 : decode cX6_termAt 3 = .ok (.iload_n 1, 1) := by decide +kernel
theorem dX6_termAt_4 : decode cX6_termAt 4 = .ok (.invokevirtual 47, 3) := by decide +kernel
theorem dX6_termAt_7 : decode cX6_termAt 7 = .ok (.imul, 1) := by decide +kernel
theorem dX6_termAt_8 : decode cX6_termAt 8 = .ok (.aload_n 0, 1) := by decide +kernel
theorem dX6_termAt_9 : decode cX6_termAt 9 = .ok (.iload_n 1, 1) := by decide +kernel
theorem dX6_termAt_10 : decode cX6_termAt 10 = .ok (.iconst 1, 1) := by decide +kernel
theorem dX6_termAt_11 : decode cX6_termAt 11 = .ok (.iadd, 1) := by decide +kernel
theorem dX6_termAt_12 : decode cX6_termAt 12 = .ok (.invokevirtual 47, 3) := by decide +kernel
theorem dX6_termAt_15 : decode cX6_termAt 15 = .ok (.iadd, 1) := by decide +kernel
theorem dX6_termAt_16 : decode cX6_termAt 16 = .ok (.istore_n 2, 1) := by decide +kernel
theorem dX6_termAt_17 : decode cX6_termAt 17 = .ok (.iload_n 2, 1) := by decide +kernel
theorem dX6_termAt_18 : decode cX6_termAt 18 = .ok (.invokestatic 50, 3) := by decide +kernel
theorem dX6_termAt_21 : decode cX6_termAt 21 = .ok (.ifCond .eq 7, 3) := by decide +kernel
theorem dX6_termAt_24 : decode cX6_termAt 24 = .ok (.iload_n 2, 1) := by decide +kernel
theorem dX6_termAt_25 : decode cX6_termAt 25 = .ok (.goto 5, 3) := by decide +kernel
theorem dX6_termAt_28 : decode cX6_termAt 28 = .ok (.bipush 29, 2) := by decide +kernel
theorem dX6_termAt_30 : decode cX6_termAt 30 = .ok (.ireturn, 1) := by decide +kernel
theorem dX6_isDigit_0 : decode cX6_isDigit 0 = .ok (.iload_n 1, 1) := by decide +kernel
theorem dX6_isDigit_1 : decode cX6_isDigit 1 = .ok (.aload_n 0, 1) := by decide +kernel
theorem dX6_isDigit_2 : decode cX6_isDigit 2 = .ok (.getfield 15, 3) := by decide +kernel
theorem dX6_isDigit_5 : decode cX6_isDigit 5 = .ok (.if_icmp .ge 25, 3) := by decide +kernel
theorem dX6_isDigit_8 : decode cX6_isDigit 8 = .ok (.aload_n 0, 1) := by decide +kernel
theorem dX6_isDigit_9 : decode cX6_isDigit 9 = .ok (.iload_n 1, 1) := by decide +kernel
theorem dX6_isDigit_10 : decode cX6_isDigit 10 = .ok (.invokevirtual 47, 3) := by decide +kernel
theorem dX6_isDigit_13 : decode cX6_isDigit 13 = .ok (.iload_n 2, 1) := by decide +kernel
theorem dX6_isDigit_14 : decode cX6_isDigit 14 = .ok (.if_icmp .lt 16, 3) := by decide +kernel
theorem dX6_isDigit_17 : decode cX6_isDigit 17 = .ok (.aload_n 0, 1) := by decide +kernel
theorem dX6_isDigit_18 : decode cX6_isDigit 18 = .ok (.iload_n 1, 1) := by decide +kernel
theorem dX6_isDigit_19 : decode cX6_isDigit 19 = .ok (.invokevirtual 47, 3) := by decide +kernel
theorem dX6_isDigit_22 : decode cX6_isDigit 22 = .ok (.iload_n 3, 1) := by decide +kernel
theorem dX6_isDigit_23 : decode cX6_isDigit 23 = .ok (.if_icmp .gt 7, 3) := by decide +kernel
theorem dX6_isDigit_26 : decode cX6_isDigit 26 = .ok (.iconst 1, 1) := by decide +kernel
theorem dX6_isDigit_27 : decode cX6_isDigit 27 = .ok (.goto 4, 3) := by decide +kernel
theorem dX6_isDigit_30 : decode cX6_isDigit 30 = .ok (.iconst 0, 1) := by decide +kernel
theorem dX6_isDigit_31 : decode cX6_isDigit 31 = .ok (.ireturn, 1) := by decide +kernel
theorem dX7_init_0 : decode cX7_init 0 = .ok (.aload_n 0, 1) := by decide +kernel
theorem dX7_init_1 : decode cX7_init 1 = .ok (.invokespecial 3, 3) := by decide +kernel
theorem dX7_init_4 : decode cX7_init 4 = .ok (.aload_n 0, 1) := by decide +kernel
theorem dX7_init_5 : decode cX7_init 5 = .ok (.bipush 30, 2) := by decide +kernel
theorem dX7_init_7 : decode cX7_init 7 = .ok (.newarray .int, 2) := by decide +kernel
theorem dX7_init_9 : decode cX7_init 9 = .ok (.putfield 9, 3) := by decide +kernel
theorem dX7_init_12 : decode cX7_init 12 = .ok (.aload_n 0, 1) := by decide +kernel
theorem dX7_init_13 : decode cX7_init 13 = .ok (.bipush 30, 2) := by decide +kernel
theorem dX7_init_15 : decode cX7_init 15 = .ok (.newarray .int, 2) := by decide +kernel
theorem dX7_init_17 : decode cX7_init 17 = .ok (.putfield 15, 3) := by decide +kernel
theorem dX7_init_20 : decode cX7_init 20 = .ok (.aload_n 0, 1) := by decide +kernel
theorem dX7_init_21 : decode cX7_init 21 = .ok (.bipush 6, 2) := by decide +kernel
theorem dX7_init_23 : decode cX7_init 23 = .ok (.newarray .int, 2) := by decide +kernel
theorem dX7_init_25 : decode cX7_init 25 = .ok (.putfield 18, 3) := by decide +kernel
theorem dX7_init_28 : decode cX7_init 28 = .ok (.aload_n 0, 1) := by decide +kernel
theorem dX7_init_29 : decode cX7_init 29 = .ok (.bipush 6, 2) := by decide +kernel
theorem dX7_init_31 : decode cX7_init 31 = .ok (.newarray .int, 2) := by decide +kernel
theorem dX7_init_33 : decode cX7_init 33 = .ok (.putfield 21, 3) := by decide +kernel
theorem dX7_init_36 : decode cX7_init 36 = .ok (.aload_n 0, 1) := by decide +kernel
theorem dX7_init_37 : decode cX7_init 37 = .ok (.iconst 0, 1) := by decide +kernel
theorem dX7_init_38 : decode cX7_init 38 = .ok (.putfield 24, 3) := by decide +kernel
theorem dX7_init_41 : decode cX7_init 41 = .ok (.aload_n 0, 1) := by decide +kernel
theorem dX7_init_42 : decode cX7_init 42 = .ok (.iconst 0, 1) := by decide +kernel
theorem dX7_init_43 : decode cX7_init 43 = .ok (.putfield 28, 3) := by decide +kernel
theorem dX7_init_46 : decode cX7_init 46 = .ok (.return_, 1) := by decide +kernel
theorem dX7_clear_0 : decode cX7_clear 0 = .ok (.aload_n 0, 1) := by decide +kernel
theorem dX7_clear_1 : decode cX7_clear 1 = .ok (.getfield 9, 3) := by decide +kernel
theorem dX7_clear_4 : decode cX7_clear 4 = .ok (.iconst 0, 1) := by decide +kernel
theorem dX7_clear_5 : decode cX7_clear 5 = .ok (.invokestatic 31, 3) := by decide +kernel
theorem dX7_clear_8 : decode cX7_clear 8 = .ok (.aload_n 0, 1) := by decide +kernel
theorem dX7_clear_9 : decode cX7_clear 9 = .ok (.getfield 15, 3) := by decide +kernel
theorem dX7_clear_12 : decode cX7_clear 12 = .ok (.bipush (-9), 2) := by decide +kernel
theorem dX7_clear_14 : decode cX7_clear 14 = .ok (.invokestatic 31, 3) := by decide +kernel
theorem dX7_clear_17 : decode cX7_clear 17 = .ok (.aload_n 0, 1) := by decide +kernel
theorem dX7_clear_18 : decode cX7_clear 18 = .ok (.iconst 0, 1) := by decide +kernel
theorem dX7_clear_19 : decode cX7_clear 19 = .ok (.putfield 24, 3) := by decide +kernel
theorem dX7_clear_22 : decode cX7_clear 22 = .ok (.aload_n 0, 1) := by decide +kernel
theorem dX7_clear_23 : decode cX7_clear 23 = .ok (.iconst 0, 1) := by decide +kernel
theorem dX7_clear_24 : decode cX7_clear 24 = .ok (.putfield 28, 3) := by decide +kernel
theorem dX7_clear_27 : decode cX7_clear 27 = .ok (.return_, 1) := by decide +kernel
theorem dX7_addCrow_0 : decode cX7_addCrow 0 = .ok (.aload_n 0, 1) := by decide +kernel
theorem dX7_addCrow_1 : decode cX7_addCrow 1 = .ok (.getfield 18, 3) := by decide +kernel
theorem dX7_addCrow_4 : decode cX7_addCrow 4 = .ok (.aload_n 0, 1) := by decide +kernel
theorem dX7_addCrow_5 : decode cX7_addCrow 5 = .ok (.getfield 28, 3) := by decide +kernel
theorem dX7_addCrow_8 : decode cX7_addCrow 8 = .ok (.iload_n 1, 1) := by decide +kernel
theorem dX7_addCrow_9 : decode cX7_addCrow 9 = .ok (.iastore, 1) := by decide +kernel
theorem dX7_addCrow_10 : decode cX7_addCrow 10 = .ok (.aload_n 0, 1) := by decide +kernel
theorem dX7_addCrow_11 : decode cX7_addCrow 11 = .ok (.getfield 21, 3) := by decide +kernel
theorem dX7_addCrow_14 : decode cX7_addCrow 14 = .ok (.aload_n 0, 1) := by decide +kernel
theorem dX7_addCrow_15 : decode cX7_addCrow 15 = .ok (.getfield 28, 3) := by decide +kernel
theorem dX7_addCrow_18 : decode cX7_addCrow 18 = .ok (.iload_n 2, 1) := by decide +kernel
theorem dX7_addCrow_19 : decode cX7_addCrow 19 = .ok (.iastore, 1) := by decide +kernel
theorem dX7_addCrow_20 : decode cX7_addCrow 20 = .ok (.aload_n 0, 1) := by decide +kernel
theorem dX7_addCrow_21 : decode cX7_addCrow 21 = .ok (.dup, 1) := by decide +kernel
theorem dX7_addCrow_22 : decode cX7_addCrow 22 = .ok (.getfield 28, 3) := by decide +kernel
theorem dX7_addCrow_25 : decode cX7_addCrow 25 = .ok (.iconst 1, 1) := by decide +kernel
theorem dX7_addCrow_26 : decode cX7_addCrow 26 = .ok (.iadd, 1) := by decide +kernel
theorem dX7_addCrow_27 : decode cX7_addCrow 27 = .ok (.putfield 28, 3) := by decide +kernel
theorem dX7_addCrow_30 : decode cX7_addCrow 30 = .ok (.aload_n 0, 1) := by decide +kernel
theorem dX7_addCrow_31 : decode cX7_addCrow 31 = .ok (.getfield 28, 3) := by decide +kernel
theorem dX7_addCrow_34 : decode cX7_addCrow 34 = .ok (.iconst 1, 1) := by decide +kernel
theorem dX7_addCrow_35 : decode cX7_addCrow 35 = .ok (.isub, 1) := by decide +kernel
theorem dX7_addCrow_36 : decode cX7_addCrow 36 = .ok (.ireturn, 1) := by decide +kernel
theorem dX8_init_0 : decode cX8_init 0 = .ok (.aload_n 0, 1) := by decide +kernel
theorem dX8_init_1 : decode cX8_init 1 = .ok (.invokespecial 3, 3) := by decide +kernel
theorem dX8_init_4 : decode cX8_init 4 = .ok (.aload_n 0, 1) := by decide +kernel
theorem dX8_init_5 : decode cX8_init 5 = .ok (.iconst 4, 1) := by decide +kernel
theorem dX8_init_6 : decode cX8_init 6 = .ok (.anewarray 11, 3) := by decide +kernel
theorem dX8_init_9 : decode cX8_init 9 = .ok (.putfield 13, 3) := by decide +kernel
theorem dX8_init_12 : decode cX8_init 12 = .ok (.aload_n 0, 1) := by decide +kernel
theorem dX8_init_13 : decode cX8_init 13 = .ok (.new 17, 3) := by decide +kernel
theorem dX8_init_16 : decode cX8_init 16 = .ok (.dup, 1) := by decide +kernel
theorem dX8_init_17 : decode cX8_init 17 = .ok (.invokespecial 19, 3) := by decide +kernel
theorem dX8_init_20 : decode cX8_init 20 = .ok (.putfield 20, 3) := by decide +kernel
theorem dX8_init_23 : decode cX8_init 23 = .ok (.aload_n 0, 1) := by decide +kernel
theorem dX8_init_24 : decode cX8_init 24 = .ok (.new 24, 3) := by decide +kernel
theorem dX8_init_27 : decode cX8_init 27 = .ok (.dup, 1) := by decide +kernel
theorem dX8_init_28 : decode cX8_init 28 = .ok (.invokespecial 26, 3) := by decide +kernel
theorem dX8_init_31 : decode cX8_init 31 = .ok (.putfield 27, 3) := by decide +kernel
theorem dX8_init_34 : decode cX8_init 34 = .ok (.aload_n 0, 1) := by decide +kernel
theorem dX8_init_35 : decode cX8_init 35 = .ok (.new 31, 3) := by decide +kernel
theorem dX8_init_38 : decode cX8_init 38 = .ok (.dup, 1) := by decide +kernel
theorem dX8_init_39 : decode cX8_init 39 = .ok (.invokespecial 33, 3) := by decide +kernel
theorem dX8_init_42 : decode cX8_init 42 = .ok (.putfield 34, 3) := by decide +kernel
theorem dX8_init_45 : decode cX8_init 45 = .ok (.aload_n 0, 1) := by decide +kernel
theorem dX8_init_46 : decode cX8_init 46 = .ok (.new 38, 3) := by decide +kernel
theorem dX8_init_49 : decode cX8_init 49 = .ok (.dup, 1) := by decide +kernel
theorem dX8_init_50 : decode cX8_init 50 = .ok (.invokespecial 40, 3) := by decide +kernel
theorem dX8_init_53 : decode cX8_init 53 = .ok (.putfield 41, 3) := by decide +kernel
theorem dX8_init_56 : decode cX8_init 56 = .ok (.aload_n 0, 1) := by decide +kernel
theorem dX8_init_57 : decode cX8_init 57 = .ok (.iconst 0, 1) := by decide +kernel
theorem dX8_init_58 : decode cX8_init 58 = .ok (.putfield 45, 3) := by decide +kernel
theorem dX8_init_61 : decode cX8_init 61 = .ok (.new 49, 3) := by decide +kernel
theorem dX8_init_64 : decode cX8_init 64 = .ok (.dup, 1) := by decide +kernel
theorem dX8_init_65 : decode cX8_init 65 = .ok (.invokespecial 51, 3) := by decide +kernel
theorem dX8_init_68 : decode cX8_init 68 = .ok (.astore_n 1, 1) := by decide +kernel
theorem dX8_init_69 : decode cX8_init 69 = .ok (.new 52, 3) := by decide +kernel
theorem dX8_init_72 : decode cX8_init 72 = .ok (.dup, 1) := by decide +kernel
theorem dX8_init_73 : decode cX8_init 73 = .ok (.aload_n 1, 1) := by decide +kernel
theorem dX8_init_74 : decode cX8_init 74 = .ok (.invokespecial 54, 3) := by decide +kernel
theorem dX8_init_77 : decode cX8_init 77 = .ok (.astore_n 2, 1) := by decide +kernel
theorem dX8_init_78 : decode cX8_init 78 = .ok (.aload_n 0, 1) := by decide +kernel
theorem dX8_init_79 : decode cX8_init 79 = .ok (.aload_n 1, 1) := by decide +kernel
theorem dX8_init_80 : decode cX8_init 80 = .ok (.putfield 57, 3) := by decide +kernel
theorem dX8_init_83 : decode cX8_init 83 = .ok (.aload_n 0, 1) := by decide +kernel
theorem dX8_init_84 : decode cX8_init 84 = .ok (.aload_n 2, 1) := by decide +kernel
theorem dX8_init_85 : decode cX8_init 85 = .ok (.putfield 61, 3) := by decide +kernel
theorem dX8_init_88 : decode cX8_init 88 = .ok (.aload_n 0, 1) := by decide +kernel
theorem dX8_init_89 : decode cX8_init 89 = .ok (.new 65, 3) := by decide +kernel
theorem dX8_init_92 : decode cX8_init 92 = .ok (.dup, 1) := by decide +kernel
theorem dX8_init_93 : decode cX8_init 93 = .ok (.aload_n 1, 1) := by decide +kernel
theorem dX8_init_94 : decode cX8_init 94 = .ok (.aload_n 2, 1) := by decide +kernel
theorem dX8_init_95 : decode cX8_init 95 = .ok (.invokespecial 67, 3) := by decide +kernel
theorem dX8_init_98 : decode cX8_init 98 = .ok (.putfield 70, 3) := by decide +kernel
theorem dX8_init_101 : decode cX8_init 101 = .ok (.iconst 0, 1) := by decide +kernel
theorem dX8_init_102 : decode cX8_init 102 = .ok (.istore_n 3, 1) := by decide +kernel
theorem dX8_init_103 : decode cX8_init 103 = .ok (.iload_n 3, 1) := by decide +kernel
theorem dX8_init_104 : decode cX8_init 104 = .ok (.iconst 4, 1) := by decide +kernel
theorem dX8_init_105 : decode cX8_init 105 = .ok (.if_icmp .ge 22, 3) := by decide +kernel
theorem dX8_init_108 : decode cX8_init 108 = .ok (.aload_n 0, 1) := by decide +kernel
theorem dX8_init_109 : decode cX8_init 109 = .ok (.getfield 13, 3) := by decide +kernel
theorem dX8_init_112 : decode cX8_init 112 = .ok (.iload_n 3, 1) := by decide +kernel
theorem dX8_init_113 : decode cX8_init 113 = .ok (.new 11, 3) := by decide +kernel
theorem dX8_init_116 : decode cX8_init 116 = .ok (.dup, 1) := by decide +kernel
theorem dX8_init_117 : decode cX8_init 117 = .ok (.invokespecial 74, 3) := by decide +kernel
theorem dX8_init_120 : decode cX8_init 120 = .ok (.aastore, 1) := by decide +kernel
theorem dX8_init_121 : decode cX8_init 121 = .ok (.iinc 3 1, 3) := by decide +kernel
theorem dX8_init_124 : decode cX8_init 124 = .ok (.goto (-21), 3) := by decide +kernel
theorem dX8_init_127 : decode cX8_init 127 = .ok (.return_, 1) := by decide +kernel
theorem dX8_orchard_0 : decode cX8_orchard 0 = .ok (.aload_n 0, 1) := by decide +kernel
theorem dX8_orchard_1 : decode cX8_orchard 1 = .ok (.iconst 0, 1) := by decide +kernel
theorem dX8_orchard_2 : decode cX8_orchard 2 = .ok (.putfield 45, 3) := by decide +kernel
theorem dX8_orchard_5 : decode cX8_orchard 5 = .ok (.aload_n 0, 1) := by decide +kernel
theorem dX8_orchard_6 : decode cX8_orchard 6 = .ok (.iload_n 1, 1) := by decide +kernel
theorem dX8_orchard_7 : decode cX8_orchard 7 = .ok (.invokevirtual 75, 3) := by decide +kernel
theorem dX8_orchard_10 : decode cX8_orchard 10 = .ok (.astore 5, 2) := by decide +kernel
theorem dX8_orchard_12 : decode cX8_orchard 12 = .ok (.aload 5, 2) := by decide +kernel
theorem dX8_orchard_14 : decode cX8_orchard 14 = .ok (.ifnonnull 5, 3) := by decide +kernel
theorem dX8_orchard_17 : decode cX8_orchard 17 = .ok (.iconst (-1), 1) := by decide +kernel
theorem dX8_orchard_18 : decode cX8_orchard 18 = .ok (.ireturn, 1) := by decide +kernel
theorem dX8_orchard_19 : decode cX8_orchard 19 = .ok (.iload_n 2, 1) := by decide +kernel
theorem dX8_orchard_20 : decode cX8_orchard 20 = .ok (.invokestatic 79, 3) := by decide +kernel
theorem dX8_orchard_23 : decode cX8_orchard 23 = .ok (.ifCond .ne 6, 3) := by decide +kernel
theorem dX8_orchard_26 : decode cX8_orchard 26 = .ok (.bipush (-2), 2) := by decide +kernel
theorem dX8_orchard_28 : decode cX8_orchard 28 = .ok (.ireturn, 1) := by decide +kernel
theorem dX8_orchard_29 : decode cX8_orchard 29 = .ok (.aload 5, 2) := by decide +kernel
theorem dX8_orchard_31 : decode cX8_orchard 31 = .ok (.iload_n 2, 1) := by decide +kernel
theorem dX8_orchard_32 : decode cX8_orchard 32 = .ok (.invokevirtual 83, 3) := by decide +kernel
theorem dX8_orchard_35 : decode cX8_orchard 35 = .ok (.ifCond .eq 9, 3) := by decide +kernel
theorem dX8_orchard_38 : decode cX8_orchard 38 = .ok (.aload_n 0, 1) := by decide +kernel
theorem dX8_orchard_39 : decode cX8_orchard 39 = .ok (.iconst 2, 1) := by decide +kernel
theorem dX8_orchard_40 : decode cX8_orchard 40 = .ok (.invokevirtual 86, 3) := by decide +kernel
theorem dX8_orchard_43 : decode cX8_orchard 43 = .ok (.ireturn, 1) := by decide +kernel
theorem dX8_orchard_44 : decode cX8_orchard 44 = .ok (.aload 5, 2) := by decide +kernel
theorem dX8_orchard_46 : decode cX8_orchard 46 = .ok (.getfield 90, 3) := by decide +kernel
theorem dX8_orchard_49 : decode cX8_orchard 49 = .ok (.ifCond .ne 9, 3) := by decide +kernel
theorem dX8_orchard_52 : decode cX8_orchard 52 = .ok (.aload_n 0, 1) := by decide +kernel
theorem dX8_orchard_53 : decode cX8_orchard 53 = .ok (.iconst 1, 1) := by decide +kernel
theorem dX8_orchard_54 : decode cX8_orchard 54 = .ok (.invokevirtual 86, 3) := by decide +kernel
theorem dX8_orchard_57 : decode cX8_orchard 57 = .ok (.ireturn, 1) := by decide +kernel
theorem dX8_orchard_58 : decode cX8_orchard 58 = .ok (.iload 4, 2) := by decide +kernel
theorem dX8_orchard_60 : decode cX8_orchard 60 = .ok (.ifCond .ge 9, 3) := by decide +kernel
theorem dX8_orchard_63 : decode cX8_orchard 63 = .ok (.aload_n 0, 1) := by decide +kernel
theorem dX8_orchard_64 : decode cX8_orchard 64 = .ok (.iconst 4, 1) := by decide +kernel
theorem dX8_orchard_65 : decode cX8_orchard 65 = .ok (.invokevirtual 86, 3) := by decide +kernel
theorem dX8_orchard_68 : decode cX8_orchard 68 = .ok (.ireturn, 1) := by decide +kernel
theorem dX8_orchard_69 : decode cX8_orchard 69 = .ok (.aload 5, 2) := by decide +kernel
theorem dX8_orchard_71 : decode cX8_orchard 71 = .ok (.iload_n 3, 1) := by decide +kernel
theorem dX8_orchard_72 : decode cX8_orchard 72 = .ok (.iload 4, 2) := by decide +kernel
theorem dX8_orchard_74 : decode cX8_orchard 74 = .ok (.invokevirtual 94, 3) := by decide +kernel
theorem dX8_orchard_77 : decode cX8_orchard 77 = .ok (.ifCond .ne 9, 3) := by decide +kernel
theorem dX8_orchard_80 : decode cX8_orchard 80 = .ok (.aload_n 0, 1) := by decide +kernel
theorem dX8_orchard_81 : decode cX8_orchard 81 = .ok (.iconst 3, 1) := by decide +kernel
theorem dX8_orchard_82 : decode cX8_orchard 82 = .ok (.invokevirtual 86, 3) := by decide +kernel
theorem dX8_orchard_85 : decode cX8_orchard 85 = .ok (.ireturn, 1) := by decide +kernel
theorem dX8_orchard_86 : decode cX8_orchard 86 = .ok (.aload_n 0, 1) := by decide +kernel
theorem dX8_orchard_87 : decode cX8_orchard 87 = .ok (.getfield 20, 3) := by decide +kernel
theorem dX8_orchard_90 : decode cX8_orchard 90 = .ok (.aload 5, 2) := by decide +kernel
theorem dX8_orchard_92 : decode cX8_orchard 92 = .ok (.iload_n 3, 1) := by decide +kernel
theorem dX8_orchard_93 : decode cX8_orchard 93 = .ok (.iload 4, 2) := by decide +kernel
theorem dX8_orchard_95 : decode cX8_orchard 95 = .ok (.invokevirtual 98, 3) := by decide +kernel
theorem dX8_orchard_98 : decode cX8_orchard 98 = .ok (.aload_n 0, 1) := by decide +kernel
theorem dX8_orchard_99 : decode cX8_orchard 99 = .ok (.getfield 20, 3) := by decide +kernel
theorem dX8_orchard_102 : decode cX8_orchard 102 = .ok (.invokevirtual 102, 3) := by decide +kernel
theorem dX8_orchard_105 : decode cX8_orchard 105 = .ok (.istore 6, 2) := by decide +kernel
theorem dX8_orchard_107 : decode cX8_orchard 107 = .ok (.iload 6, 2) := by decide +kernel
theorem dX8_orchard_109 : decode cX8_orchard 109 = .ok (.iconst (-1), 1) := by decide +kernel
theorem dX8_orchard_110 : decode cX8_orchard 110 = .ok (.if_icmp .eq 9, 3) := by decide +kernel
theorem dX8_orchard_113 : decode cX8_orchard 113 = .ok (.bipush (-100), 2) := by decide +kernel
theorem dX8_orchard_115 : decode cX8_orchard 115 = .ok (.iload 6, 2) := by decide +kernel
theorem dX8_orchard_117 : decode cX8_orchard 117 = .ok (.isub, 1) := by decide +kernel
theorem dX8_orchard_118 : decode cX8_orchard 118 = .ok (.ireturn, 1) := by decide +kernel
theorem dX8_orchard_119 : decode cX8_orchard 119 = .ok (.aload_n 0, 1) := by decide +kernel
theorem dX8_orchard_120 : decode cX8_orchard 120 = .ok (.getfield 57, 3) := by decide +kernel
theorem dX8_orchard_123 : decode cX8_orchard 123 = .ok (.aload_n 0, 1) := by decide +kernel
theorem dX8_orchard_124 : decode cX8_orchard 124 = .ok (.getfield 20, 3) := by decide +kernel
theorem dX8_orchard_127 : decode cX8_orchard 127 = .ok (.invokevirtual 106, 3) := by decide +kernel
theorem dX8_orchard_130 : decode cX8_orchard 130 = .ok (.aload_n 0, 1) := by decide +kernel
theorem dX8_orchard_131 : decode cX8_orchard 131 = .ok (.getfield 27, 3) := by decide +kernel
theorem dX8_orchard_134 : decode cX8_orchard 134 = .ok (.invokevirtual 110, 3) := by decide +kernel
theorem dX8_orchard_137 : decode cX8_orchard 137 = .ok (.aload_n 0, 1) := by decide +kernel
theorem dX8_orchard_138 : decode cX8_orchard 138 = .ok (.getfield 34, 3) := by decide +kernel
theorem dX8_orchard_141 : decode cX8_orchard 141 = .ok (.iconst 0, 1) := by decide +kernel
theorem dX8_orchard_142 : decode cX8_orchard 142 = .ok (.putfield 113, 3) := by decide +kernel
theorem dX8_orchard_145 : decode cX8_orchard 145 = .ok (.aload_n 0, 1) := by decide +kernel
theorem dX8_orchard_146 : decode cX8_orchard 146 = .ok (.getfield 57, 3) := by decide +kernel
theorem dX8_orchard_149 : decode cX8_orchard 149 = .ok (.getfield 116, 3) := by decide +kernel
theorem dX8_orchard_152 : decode cX8_orchard 152 = .ok (.ireturn, 1) := by decide +kernel
theorem dX8_ofTree_0 : decode cX8_ofTree 0 = .ok (.aload_n 0, 1) := by decide +kernel
theorem dX8_ofTree_1 : decode cX8_ofTree 1 = .ok (.getfield 57, 3) := by decide +kernel
theorem dX8_ofTree_4 : decode cX8_ofTree 4 = .ok (.iload_n 1, 1) := by decide +kernel
theorem dX8_ofTree_5 : decode cX8_ofTree 5 = .ok (.invokevirtual 119, 3) := by decide +kernel
theorem dX8_ofTree_8 : decode cX8_ofTree 8 = .ok (.ifCond .ne 5, 3) := by decide +kernel
theorem dX8_ofTree_11 : decode cX8_ofTree 11 = .ok (.iconst (-1), 1) := by decide +kernel
theorem dX8_ofTree_12 : decode cX8_ofTree 12 = .ok (.ireturn, 1) := by decide +kernel
theorem dX8_ofTree_13 : decode cX8_ofTree 13 = .ok (.iload_n 2, 1) := by decide +kernel
theorem dX8_ofTree_14 : decode cX8_ofTree 14 = .ok (.tableswitch 107 0 5 #[38, 48, 58, 68, 78, 87], 38) := by decide +kernel
theorem dX8_ofTree_52 : decode cX8_ofTree 52 = .ok (.aload_n 0, 1) := by decide +kernel
theorem dX8_ofTree_53 : decode cX8_ofTree 53 = .ok (.getfield 57, 3) := by decide +kernel
theorem dX8_ofTree_56 : decode cX8_ofTree 56 = .ok (.getfield 122, 3) := by decide +kernel
theorem dX8_ofTree_59 : decode cX8_ofTree 59 = .ok (.iload_n 1, 1) := by decide +kernel
theorem dX8_ofTree_60 : decode cX8_ofTree 60 = .ok (.iaload, 1) := by decide +kernel
theorem dX8_ofTree_61 : decode cX8_ofTree 61 = .ok (.ireturn, 1) := by decide +kernel
theorem dX8_ofTree_62 : decode cX8_ofTree 62 = .ok (.aload_n 0, 1) := by decide +kernel
theorem dX8_ofTree_63 : decode cX8_ofTree 63 = .ok (.getfield 57, 3) := by decide +kernel
theorem dX8_ofTree_66 : decode cX8_ofTree 66 = .ok (.getfield 126, 3) := by decide +kernel
theorem dX8_ofTree_69 : decode cX8_ofTree 69 = .ok (.iload_n 1, 1) := by decide +kernel
theorem dX8_ofTree_70 : decode cX8_ofTree 70 = .ok (.iaload, 1) := by decide +kernel
theorem dX8_ofTree_71 : decode cX8_ofTree 71 = .ok (.ireturn, 1) := by decide +kernel
theorem dX8_ofTree_72 : decode cX8_ofTree 72 = .ok (.aload_n 0, 1) := by decide +kernel
theorem dX8_ofTree_73 : decode cX8_ofTree 73 = .ok (.getfield 57, 3) := by decide +kernel
theorem dX8_ofTree_76 : decode cX8_ofTree 76 = .ok (.getfield 129, 3) := by decide +kernel
theorem dX8_ofTree_79 : decode cX8_ofTree 79 = .ok (.iload_n 1, 1) := by decide +kernel
theorem dX8_ofTree_80 : decode cX8_ofTree 80 = .ok (.iaload, 1) := by decide +kernel
theorem dX8_ofTree_81 : decode cX8_ofTree 81 = .ok (.ireturn, 1) := by decide +kernel
theorem dX8_ofTree_82 : decode cX8_ofTree 82 = .ok (.aload_n 0, 1) := by decide +kernel
theorem dX8_ofTree_83 : decode cX8_ofTree 83 = .ok (.getfield 57, 3) := by decide +kernel
theorem dX8_ofTree_86 : decode cX8_ofTree 86 = .ok (.getfield 132, 3) := by decide +kernel
theorem dX8_ofTree_89 : decode cX8_ofTree 89 = .ok (.iload_n 1, 1) := by decide +kernel
theorem dX8_ofTree_90 : decode cX8_ofTree 90 = .ok (.iaload, 1) := by decide +kernel
theorem dX8_ofTree_91 : decode cX8_ofTree 91 = .ok (.ireturn, 1) := by decide +kernel
theorem dX8_ofTree_92 : decode cX8_ofTree 92 = .ok (.aload_n 0, 1) := by decide +kernel
theorem dX8_ofTree_93 : decode cX8_ofTree 93 = .ok (.getfield 57, 3) := by decide +kernel
theorem dX8_ofTree_96 : decode cX8_ofTree 96 = .ok (.iload_n 1, 1) := by decide +kernel
theorem dX8_ofTree_97 : decode cX8_ofTree 97 = .ok (.invokevirtual 135, 3) := by decide +kernel
theorem dX8_ofTree_100 : decode cX8_ofTree 100 = .ok (.ireturn, 1) := by decide +kernel
theorem dX8_ofTree_101 : decode cX8_ofTree 101 = .ok (.aload_n 0, 1) := by decide +kernel
theorem dX8_ofTree_102 : decode cX8_ofTree 102 = .ok (.getfield 57, 3) := by decide +kernel
theorem dX8_ofTree_105 : decode cX8_ofTree 105 = .ok (.getfield 138, 3) := by decide +kernel
theorem dX8_ofTree_108 : decode cX8_ofTree 108 = .ok (.iload_n 1, 1) := by decide +kernel
theorem dX8_ofTree_109 : decode cX8_ofTree 109 = .ok (.invokestatic 141, 3) := by decide +kernel
theorem dX8_ofTree_112 : decode cX8_ofTree 112 = .ok (.ifCond .eq 7, 3) := by decide +kernel
theorem dX8_ofTree_115 : decode cX8_ofTree 115 = .ok (.iconst 1, 1) := by decide +kernel
theorem dX8_ofTree_116 : decode cX8_ofTree 116 = .ok (.goto 4, 3) := by decide +kernel
theorem dX8_ofTree_119 : decode cX8_ofTree 119 = .ok (.iconst 0, 1) := by decide +kernel
theorem dX8_ofTree_120 : decode cX8_ofTree 120 = .ok (.ireturn, 1) := by decide +kernel
theorem dX8_ofTree_121 : decode cX8_ofTree 121 = .ok (.bipush (-2), 2) := by decide +kernel
theorem dX8_ofTree_123 : decode cX8_ofTree 123 = .ok (.ireturn, 1) := by decide +kernel
theorem dX8_ofPrisoner_0 : decode cX8_ofPrisoner 0 = .ok (.aload_n 0, 1) := by decide +kernel
theorem dX8_ofPrisoner_1 : decode cX8_ofPrisoner 1 = .ok (.getfield 57, 3) := by decide +kernel
theorem dX8_ofPrisoner_4 : decode cX8_ofPrisoner 4 = .ok (.iload_n 1, 1) := by decide +kernel
theorem dX8_ofPrisoner_5 : decode cX8_ofPrisoner 5 = .ok (.invokevirtual 144, 3) := by decide +kernel
theorem dX8_ofPrisoner_8 : decode cX8_ofPrisoner 8 = .ok (.ifCond .ne 5, 3) := by decide +kernel
theorem dX8_ofPrisoner_11 : decode cX8_ofPrisoner 11 = .ok (.iconst (-1), 1) := by decide +kernel
theorem dX8_ofPrisoner_12 : decode cX8_ofPrisoner 12 = .ok (.ireturn, 1) := by decide +kernel
theorem dX8_ofPrisoner_13 : decode cX8_ofPrisoner 13 = .ok (.iload_n 2, 1) := by decide +kernel
theorem dX8_ofPrisoner_14 : decode cX8_ofPrisoner 14 = .ok (.lookupswitch 46 #[(0, 26), (1, 36)], 26) := by decide +kernel
theorem dX8_ofPrisoner_40 : decode cX8_ofPrisoner 40 = .ok (.aload_n 0, 1) := by decide +kernel
theorem dX8_ofPrisoner_41 : decode cX8_ofPrisoner 41 = .ok (.getfield 57, 3) := by decide +kernel
theorem dX8_ofPrisoner_44 : decode cX8_ofPrisoner 44 = .ok (.getfield 147, 3) := by decide +kernel
theorem dX8_ofPrisoner_47 : decode cX8_ofPrisoner 47 = .ok (.iload_n 1, 1) := by decide +kernel
theorem dX8_ofPrisoner_48 : decode cX8_ofPrisoner 48 = .ok (.iaload, 1) := by decide +kernel
theorem dX8_ofPrisoner_49 : decode cX8_ofPrisoner 49 = .ok (.ireturn, 1) := by decide +kernel
theorem dX8_ofPrisoner_50 : decode cX8_ofPrisoner 50 = .ok (.aload_n 0, 1) := by decide +kernel
theorem dX8_ofPrisoner_51 : decode cX8_ofPrisoner 51 = .ok (.getfield 57, 3) := by decide +kernel
theorem dX8_ofPrisoner_54 : decode cX8_ofPrisoner 54 = .ok (.getfield 150, 3) := by decide +kernel
theorem dX8_ofPrisoner_57 : decode cX8_ofPrisoner 57 = .ok (.iload_n 1, 1) := by decide +kernel
theorem dX8_ofPrisoner_58 : decode cX8_ofPrisoner 58 = .ok (.iaload, 1) := by decide +kernel
theorem dX8_ofPrisoner_59 : decode cX8_ofPrisoner 59 = .ok (.ireturn, 1) := by decide +kernel
theorem dX8_ofPrisoner_60 : decode cX8_ofPrisoner 60 = .ok (.bipush (-2), 2) := by decide +kernel
theorem dX8_ofPrisoner_62 : decode cX8_ofPrisoner 62 = .ok (.ireturn, 1) := by decide +kernel
theorem dX8_rain_0 : decode cX8_rain 0 = .ok (.iload_n 1, 1) := by decide +kernel
theorem dX8_rain_1 : decode cX8_rain 1 = .ok (.invokestatic 153, 3) := by decide +kernel
theorem dX8_rain_4 : decode cX8_rain 4 = .ok (.ifCond .ne 5, 3) := by decide +kernel
theorem dX8_rain_7 : decode cX8_rain 7 = .ok (.iconst (-1), 1) := by decide +kernel
theorem dX8_rain_8 : decode cX8_rain 8 = .ok (.ireturn, 1) := by decide +kernel
theorem dX8_rain_9 : decode cX8_rain 9 = .ok (.iload_n 2, 1) := by decide +kernel
theorem dX8_rain_10 : decode cX8_rain 10 = .ok (.ifCond .lt 9, 3) := by decide +kernel
theorem dX8_rain_13 : decode cX8_rain 13 = .ok (.iload_n 2, 1) := by decide +kernel
theorem dX8_rain_14 : decode cX8_rain 14 = .ok (.bipush 9, 2) := by decide +kernel
theorem dX8_rain_16 : decode cX8_rain 16 = .ok (.if_icmp .le 6, 3) := by decide +kernel
theorem dX8_rain_19 : decode cX8_rain 19 = .ok (.bipush (-2), 2) := by decide +kernel
theorem dX8_rain_21 : decode cX8_rain 21 = .ok (.ireturn, 1) := by decide +kernel
theorem dX8_rain_22 : decode cX8_rain 22 = .ok (.aload_n 0, 1) := by decide +kernel
theorem dX8_rain_23 : decode cX8_rain 23 = .ok (.getfield 57, 3) := by decide +kernel
theorem dX8_rain_26 : decode cX8_rain 26 = .ok (.invokevirtual 156, 3) := by decide +kernel
theorem dX8_rain_29 : decode cX8_rain 29 = .ok (.ifCond .ne 6, 3) := by decide +kernel
theorem dX8_rain_32 : decode cX8_rain 32 = .ok (.bipush (-3), 2) := by decide +kernel
theorem dX8_rain_34 : decode cX8_rain 34 = .ok (.ireturn, 1) := by decide +kernel
theorem dX8_rain_35 : decode cX8_rain 35 = .ok (.aload_n 0, 1) := by decide +kernel
theorem dX8_rain_36 : decode cX8_rain 36 = .ok (.getfield 27, 3) := by decide +kernel
theorem dX8_rain_39 : decode cX8_rain 39 = .ok (.getfield 160, 3) := by decide +kernel
theorem dX8_rain_42 : decode cX8_rain 42 = .ok (.iload_n 1, 1) := by decide +kernel
theorem dX8_rain_43 : decode cX8_rain 43 = .ok (.iaload, 1) := by decide +kernel
theorem dX8_rain_44 : decode cX8_rain 44 = .ok (.istore_n 3, 1) := by decide +kernel
theorem dX8_rain_45 : decode cX8_rain 45 = .ok (.aload_n 0, 1) := by decide +kernel
theorem dX8_rain_46 : decode cX8_rain 46 = .ok (.getfield 27, 3) := by decide +kernel
theorem dX8_rain_49 : decode cX8_rain 49 = .ok (.getfield 160, 3) := by decide +kernel
theorem dX8_rain_52 : decode cX8_rain 52 = .ok (.iload_n 1, 1) := by decide +kernel
theorem dX8_rain_53 : decode cX8_rain 53 = .ok (.iload_n 2, 1) := by decide +kernel
theorem dX8_rain_54 : decode cX8_rain 54 = .ok (.iastore, 1) := by decide +kernel
theorem dX8_rain_55 : decode cX8_rain 55 = .ok (.iload_n 3, 1) := by decide +kernel
theorem dX8_rain_56 : decode cX8_rain 56 = .ok (.ireturn, 1) := by decide +kernel
theorem dX8_water_0 : decode cX8_water 0 = .ok (.iload_n 1, 1) := by decide +kernel
theorem dX8_water_1 : decode cX8_water 1 = .ok (.invokestatic 153, 3) := by decide +kernel
theorem dX8_water_4 : decode cX8_water 4 = .ok (.ifCond .eq 20, 3) := by decide +kernel
theorem dX8_water_7 : decode cX8_water 7 = .ok (.iload_n 2, 1) := by decide +kernel
theorem dX8_water_8 : decode cX8_water 8 = .ok (.bipush (-9), 2) := by decide +kernel
theorem dX8_water_10 : decode cX8_water 10 = .ok (.if_icmp .eq 16, 3) := by decide +kernel
theorem dX8_water_13 : decode cX8_water 13 = .ok (.aload_n 0, 1) := by decide +kernel
theorem dX8_water_14 : decode cX8_water 14 = .ok (.getfield 57, 3) := by decide +kernel
theorem dX8_water_17 : decode cX8_water 17 = .ok (.iload_n 2, 1) := by decide +kernel
theorem dX8_water_18 : decode cX8_water 18 = .ok (.invokevirtual 119, 3) := by decide +kernel
theorem dX8_water_21 : decode cX8_water 21 = .ok (.ifCond .ne 5, 3) := by decide +kernel
theorem dX8_water_24 : decode cX8_water 24 = .ok (.iconst (-1), 1) := by decide +kernel
theorem dX8_water_25 : decode cX8_water 25 = .ok (.ireturn, 1) := by decide +kernel
theorem dX8_water_26 : decode cX8_water 26 = .ok (.aload_n 0, 1) := by decide +kernel
theorem dX8_water_27 : decode cX8_water 27 = .ok (.getfield 57, 3) := by decide +kernel
theorem dX8_water_30 : decode cX8_water 30 = .ok (.invokevirtual 156, 3) := by decide +kernel
theorem dX8_water_33 : decode cX8_water 33 = .ok (.ifCond .ne 6, 3) := by decide +kernel
theorem dX8_water_36 : decode cX8_water 36 = .ok (.bipush (-3), 2) := by decide +kernel
theorem dX8_water_38 : decode cX8_water 38 = .ok (.ireturn, 1) := by decide +kernel
theorem dX8_water_39 : decode cX8_water 39 = .ok (.aload_n 0, 1) := by decide +kernel
theorem dX8_water_40 : decode cX8_water 40 = .ok (.getfield 27, 3) := by decide +kernel
theorem dX8_water_43 : decode cX8_water 43 = .ok (.getfield 163, 3) := by decide +kernel
theorem dX8_water_46 : decode cX8_water 46 = .ok (.iload_n 1, 1) := by decide +kernel
theorem dX8_water_47 : decode cX8_water 47 = .ok (.iaload, 1) := by decide +kernel
theorem dX8_water_48 : decode cX8_water 48 = .ok (.istore_n 3, 1) := by decide +kernel
theorem dX8_water_49 : decode cX8_water 49 = .ok (.aload_n 0, 1) := by decide +kernel
theorem dX8_water_50 : decode cX8_water 50 = .ok (.getfield 27, 3) := by decide +kernel
theorem dX8_water_53 : decode cX8_water 53 = .ok (.getfield 163, 3) := by decide +kernel
theorem dX8_water_56 : decode cX8_water 56 = .ok (.iload_n 1, 1) := by decide +kernel
theorem dX8_water_57 : decode cX8_water 57 = .ok (.iload_n 2, 1) := by decide +kernel
theorem dX8_water_58 : decode cX8_water 58 = .ok (.iastore, 1) := by decide +kernel
theorem dX8_water_59 : decode cX8_water 59 = .ok (.iload_n 3, 1) := by decide +kernel
theorem dX8_water_60 : decode cX8_water 60 = .ok (.ireturn, 1) := by decide +kernel
theorem dX8_frost_0 : decode cX8_frost 0 = .ok (.iload_n 1, 1) := by decide +kernel
theorem dX8_frost_1 : decode cX8_frost 1 = .ok (.invokestatic 153, 3) := by decide +kernel
theorem dX8_frost_4 : decode cX8_frost 4 = .ok (.ifCond .ne 5, 3) := by decide +kernel
theorem dX8_frost_7 : decode cX8_frost 7 = .ok (.iconst (-1), 1) := by decide +kernel
theorem dX8_frost_8 : decode cX8_frost 8 = .ok (.ireturn, 1) := by decide +kernel
theorem dX8_frost_9 : decode cX8_frost 9 = .ok (.aload_n 0, 1) := by decide +kernel
theorem dX8_frost_10 : decode cX8_frost 10 = .ok (.getfield 57, 3) := by decide +kernel
theorem dX8_frost_13 : decode cX8_frost 13 = .ok (.invokevirtual 156, 3) := by decide +kernel
theorem dX8_frost_16 : decode cX8_frost 16 = .ok (.ifCond .ne 6, 3) := by decide +kernel
theorem dX8_frost_19 : decode cX8_frost 19 = .ok (.bipush (-3), 2) := by decide +kernel
theorem dX8_frost_21 : decode cX8_frost 21 = .ok (.ireturn, 1) := by decide +kernel
theorem dX8_frost_22 : decode cX8_frost 22 = .ok (.aload_n 0, 1) := by decide +kernel
theorem dX8_frost_23 : decode cX8_frost 23 = .ok (.getfield 27, 3) := by decide +kernel
theorem dX8_frost_26 : decode cX8_frost 26 = .ok (.getfield 166, 3) := by decide +kernel
theorem dX8_frost_29 : decode cX8_frost 29 = .ok (.iload_n 1, 1) := by decide +kernel
theorem dX8_frost_30 : decode cX8_frost 30 = .ok (.invokestatic 141, 3) := by decide +kernel
theorem dX8_frost_33 : decode cX8_frost 33 = .ok (.iload_n 2, 1) := by decide +kernel
theorem dX8_frost_34 : decode cX8_frost 34 = .ok (.if_icmp .ne 5, 3) := by decide +kernel
theorem dX8_frost_37 : decode cX8_frost 37 = .ok (.iconst 0, 1) := by decide +kernel
theorem dX8_frost_38 : decode cX8_frost 38 = .ok (.ireturn, 1) := by decide +kernel
theorem dX8_frost_39 : decode cX8_frost 39 = .ok (.aload_n 0, 1) := by decide +kernel
theorem dX8_frost_40 : decode cX8_frost 40 = .ok (.getfield 27, 3) := by decide +kernel
theorem dX8_frost_43 : decode cX8_frost 43 = .ok (.dup, 1) := by decide +kernel
theorem dX8_frost_44 : decode cX8_frost 44 = .ok (.getfield 166, 3) := by decide +kernel
theorem dX8_frost_47 : decode cX8_frost 47 = .ok (.iconst 1, 1) := by decide +kernel
theorem dX8_frost_48 : decode cX8_frost 48 = .ok (.iload_n 1, 1) := by decide +kernel
theorem dX8_frost_49 : decode cX8_frost 49 = .ok (.ishl, 1) := by decide +kernel
theorem dX8_frost_50 : decode cX8_frost 50 = .ok (.ixor, 1) := by decide +kernel
theorem dX8_frost_51 : decode cX8_frost 51 = .ok (.putfield 166, 3) := by decide +kernel
theorem dX8_frost_54 : decode cX8_frost 54 = .ok (.iconst 1, 1) := by decide +kernel
theorem dX8_frost_55 : decode cX8_frost 55 = .ok (.ireturn, 1) := by decide +kernel
theorem dX8_crow_0 : decode cX8_crow 0 = .ok (.iload_n 1, 1) := by decide +kernel
theorem dX8_crow_1 : decode cX8_crow 1 = .ok (.invokestatic 153, 3) := by decide +kernel
theorem dX8_crow_4 : decode cX8_crow 4 = .ok (.ifCond .eq 14, 3) := by decide +kernel
theorem dX8_crow_7 : decode cX8_crow 7 = .ok (.aload_n 0, 1) := by decide +kernel
theorem dX8_crow_8 : decode cX8_crow 8 = .ok (.getfield 57, 3) := by decide +kernel
theorem dX8_crow_11 : decode cX8_crow 11 = .ok (.iload_n 2, 1) := by decide +kernel
theorem dX8_crow_12 : decode cX8_crow 12 = .ok (.invokevirtual 119, 3) := by decide +kernel
theorem dX8_crow_15 : decode cX8_crow 15 = .ok (.ifCond .ne 5, 3) := by decide +kernel
theorem dX8_crow_18 : decode cX8_crow 18 = .ok (.iconst (-1), 1) := by decide +kernel
theorem dX8_crow_19 : decode cX8_crow 19 = .ok (.ireturn, 1) := by decide +kernel
theorem dX8_crow_20 : decode cX8_crow 20 = .ok (.aload_n 0, 1) := by decide +kernel
theorem dX8_crow_21 : decode cX8_crow 21 = .ok (.getfield 27, 3) := by decide +kernel
theorem dX8_crow_24 : decode cX8_crow 24 = .ok (.getfield 169, 3) := by decide +kernel
theorem dX8_crow_27 : decode cX8_crow 27 = .ok (.bipush 6, 2) := by decide +kernel
theorem dX8_crow_29 : decode cX8_crow 29 = .ok (.if_icmp .lt 6, 3) := by decide +kernel
theorem dX8_crow_32 : decode cX8_crow 32 = .ok (.bipush (-4), 2) := by decide +kernel
theorem dX8_crow_34 : decode cX8_crow 34 = .ok (.ireturn, 1) := by decide +kernel
theorem dX8_crow_35 : decode cX8_crow 35 = .ok (.aload_n 0, 1) := by decide +kernel
theorem dX8_crow_36 : decode cX8_crow 36 = .ok (.getfield 27, 3) := by decide +kernel
theorem dX8_crow_39 : decode cX8_crow 39 = .ok (.iload_n 1, 1) := by decide +kernel
theorem dX8_crow_40 : decode cX8_crow 40 = .ok (.iload_n 2, 1) := by decide +kernel
theorem dX8_crow_41 : decode cX8_crow 41 = .ok (.invokevirtual 172, 3) := by decide +kernel
theorem dX8_crow_44 : decode cX8_crow 44 = .ok (.ireturn, 1) := by decide +kernel
theorem dX8_shoo_0 : decode cX8_shoo 0 = .ok (.iload_n 1, 1) := by decide +kernel
theorem dX8_shoo_1 : decode cX8_shoo 1 = .ok (.ifCond .lt 14, 3) := by decide +kernel
theorem dX8_shoo_4 : decode cX8_shoo 4 = .ok (.iload_n 1, 1) := by decide +kernel
theorem dX8_shoo_5 : decode cX8_shoo 5 = .ok (.aload_n 0, 1) := by decide +kernel
theorem dX8_shoo_6 : decode cX8_shoo 6 = .ok (.getfield 27, 3) := by decide +kernel
theorem dX8_shoo_9 : decode cX8_shoo 9 = .ok (.getfield 169, 3) := by decide +kernel
theorem dX8_shoo_12 : decode cX8_shoo 12 = .ok (.if_icmp .le 6, 3) := by decide +kernel
theorem dX8_shoo_15 : decode cX8_shoo 15 = .ok (.bipush (-2), 2) := by decide +kernel
theorem dX8_shoo_17 : decode cX8_shoo 17 = .ok (.ireturn, 1) := by decide +kernel
theorem dX8_shoo_18 : decode cX8_shoo 18 = .ok (.aload_n 0, 1) := by decide +kernel
theorem dX8_shoo_19 : decode cX8_shoo 19 = .ok (.getfield 27, 3) := by decide +kernel
theorem dX8_shoo_22 : decode cX8_shoo 22 = .ok (.dup, 1) := by decide +kernel
theorem dX8_shoo_23 : decode cX8_shoo 23 = .ok (.getfield 169, 3) := by decide +kernel
theorem dX8_shoo_26 : decode cX8_shoo 26 = .ok (.iload_n 1, 1) := by decide +kernel
theorem dX8_shoo_27 : decode cX8_shoo 27 = .ok (.isub, 1) := by decide +kernel
theorem dX8_shoo_28 : decode cX8_shoo 28 = .ok (.putfield 169, 3) := by decide +kernel
theorem dX8_shoo_31 : decode cX8_shoo 31 = .ok (.aload_n 0, 1) := by decide +kernel
theorem dX8_shoo_32 : decode cX8_shoo 32 = .ok (.getfield 27, 3) := by decide +kernel
theorem dX8_shoo_35 : decode cX8_shoo 35 = .ok (.getfield 169, 3) := by decide +kernel
theorem dX8_shoo_38 : decode cX8_shoo 38 = .ok (.ireturn, 1) := by decide +kernel
theorem dX8_fell_0 : decode cX8_fell 0 = .ok (.aload_n 0, 1) := by decide +kernel
theorem dX8_fell_1 : decode cX8_fell 1 = .ok (.getfield 57, 3) := by decide +kernel
theorem dX8_fell_4 : decode cX8_fell 4 = .ok (.iload_n 1, 1) := by decide +kernel
theorem dX8_fell_5 : decode cX8_fell 5 = .ok (.invokevirtual 119, 3) := by decide +kernel
theorem dX8_fell_8 : decode cX8_fell 8 = .ok (.ifCond .ne 5, 3) := by decide +kernel
theorem dX8_fell_11 : decode cX8_fell 11 = .ok (.iconst (-1), 1) := by decide +kernel
theorem dX8_fell_12 : decode cX8_fell 12 = .ok (.ireturn, 1) := by decide +kernel
theorem dX8_fell_13 : decode cX8_fell 13 = .ok (.aload_n 0, 1) := by decide +kernel
theorem dX8_fell_14 : decode cX8_fell 14 = .ok (.getfield 57, 3) := by decide +kernel
theorem dX8_fell_17 : decode cX8_fell 17 = .ok (.getfield 138, 3) := by decide +kernel
theorem dX8_fell_20 : decode cX8_fell 20 = .ok (.iload_n 1, 1) := by decide +kernel
theorem dX8_fell_21 : decode cX8_fell 21 = .ok (.invokestatic 141, 3) := by decide +kernel
theorem dX8_fell_24 : decode cX8_fell 24 = .ok (.iload_n 2, 1) := by decide +kernel
theorem dX8_fell_25 : decode cX8_fell 25 = .ok (.if_icmp .ne 5, 3) := by decide +kernel
theorem dX8_fell_28 : decode cX8_fell 28 = .ok (.iconst 0, 1) := by decide +kernel
theorem dX8_fell_29 : decode cX8_fell 29 = .ok (.ireturn, 1) := by decide +kernel
theorem dX8_fell_30 : decode cX8_fell 30 = .ok (.aload_n 0, 1) := by decide +kernel
theorem dX8_fell_31 : decode cX8_fell 31 = .ok (.getfield 57, 3) := by decide +kernel
theorem dX8_fell_34 : decode cX8_fell 34 = .ok (.dup, 1) := by decide +kernel
theorem dX8_fell_35 : decode cX8_fell 35 = .ok (.getfield 138, 3) := by decide +kernel
theorem dX8_fell_38 : decode cX8_fell 38 = .ok (.iconst 1, 1) := by decide +kernel
theorem dX8_fell_39 : decode cX8_fell 39 = .ok (.iload_n 1, 1) := by decide +kernel
theorem dX8_fell_40 : decode cX8_fell 40 = .ok (.ishl, 1) := by decide +kernel
theorem dX8_fell_41 : decode cX8_fell 41 = .ok (.ixor, 1) := by decide +kernel
theorem dX8_fell_42 : decode cX8_fell 42 = .ok (.putfield 138, 3) := by decide +kernel
theorem dX8_fell_45 : decode cX8_fell 45 = .ok (.iconst 1, 1) := by decide +kernel
theorem dX8_fell_46 : decode cX8_fell 46 = .ok (.ireturn, 1) := by decide +kernel
theorem dX8_out_0 : decode cX8_out 0 = .ok (.aload_n 0, 1) := by decide +kernel
theorem dX8_out_1 : decode cX8_out 1 = .ok (.getfield 57, 3) := by decide +kernel
theorem dX8_out_4 : decode cX8_out 4 = .ok (.iload_n 1, 1) := by decide +kernel
theorem dX8_out_5 : decode cX8_out 5 = .ok (.invokevirtual 144, 3) := by decide +kernel
theorem dX8_out_8 : decode cX8_out 8 = .ok (.ifCond .ne 5, 3) := by decide +kernel
theorem dX8_out_11 : decode cX8_out 11 = .ok (.iconst (-1), 1) := by decide +kernel
theorem dX8_out_12 : decode cX8_out 12 = .ok (.ireturn, 1) := by decide +kernel
theorem dX8_out_13 : decode cX8_out 13 = .ok (.aload_n 0, 1) := by decide +kernel
theorem dX8_out_14 : decode cX8_out 14 = .ok (.bipush 29, 2) := by decide +kernel
theorem dX8_out_16 : decode cX8_out 16 = .ok (.invokevirtual 176, 3) := by decide +kernel
theorem dX8_out_19 : decode cX8_out 19 = .ok (.aload_n 0, 1) := by decide +kernel
theorem dX8_out_20 : decode cX8_out 20 = .ok (.getfield 61, 3) := by decide +kernel
theorem dX8_out_23 : decode cX8_out 23 = .ok (.getfield 180, 3) := by decide +kernel
theorem dX8_out_26 : decode cX8_out 26 = .ok (.iload_n 1, 1) := by decide +kernel
theorem dX8_out_27 : decode cX8_out 27 = .ok (.iaload, 1) := by decide +kernel
theorem dX8_out_28 : decode cX8_out 28 = .ok (.ireturn, 1) := by decide +kernel
theorem dX8_by_0 : decode cX8_by 0 = .ok (.aload_n 0, 1) := by decide +kernel
theorem dX8_by_1 : decode cX8_by 1 = .ok (.getfield 57, 3) := by decide +kernel
theorem dX8_by_4 : decode cX8_by 4 = .ok (.iload_n 1, 1) := by decide +kernel
theorem dX8_by_5 : decode cX8_by 5 = .ok (.invokevirtual 144, 3) := by decide +kernel
theorem dX8_by_8 : decode cX8_by 8 = .ok (.ifCond .ne 5, 3) := by decide +kernel
theorem dX8_by_11 : decode cX8_by 11 = .ok (.iconst (-1), 1) := by decide +kernel
theorem dX8_by_12 : decode cX8_by 12 = .ok (.ireturn, 1) := by decide +kernel
theorem dX8_by_13 : decode cX8_by 13 = .ok (.aload_n 0, 1) := by decide +kernel
theorem dX8_by_14 : decode cX8_by 14 = .ok (.bipush 29, 2) := by decide +kernel
theorem dX8_by_16 : decode cX8_by 16 = .ok (.invokevirtual 176, 3) := by decide +kernel
theorem dX8_by_19 : decode cX8_by 19 = .ok (.aload_n 0, 1) := by decide +kernel
theorem dX8_by_20 : decode cX8_by 20 = .ok (.getfield 61, 3) := by decide +kernel
theorem dX8_by_23 : decode cX8_by 23 = .ok (.getfield 183, 3) := by decide +kernel
theorem dX8_by_26 : decode cX8_by 26 = .ok (.iload_n 1, 1) := by decide +kernel
theorem dX8_by_27 : decode cX8_by 27 = .ok (.iaload, 1) := by decide +kernel
theorem dX8_by_28 : decode cX8_by 28 = .ok (.ireturn, 1) := by decide +kernel
theorem dX8_free_0 : decode cX8_free 0 = .ok (.iload_n 1, 1) := by decide +kernel
theorem dX8_free_1 : decode cX8_free 1 = .ok (.invokestatic 153, 3) := by decide +kernel
theorem dX8_free_4 : decode cX8_free 4 = .ok (.ifCond .ne 5, 3) := by decide +kernel
theorem dX8_free_7 : decode cX8_free 7 = .ok (.iconst (-1), 1) := by decide +kernel
theorem dX8_free_8 : decode cX8_free 8 = .ok (.ireturn, 1) := by decide +kernel
theorem dX8_free_9 : decode cX8_free 9 = .ok (.aload_n 0, 1) := by decide +kernel
theorem dX8_free_10 : decode cX8_free 10 = .ok (.getfield 57, 3) := by decide +kernel
theorem dX8_free_13 : decode cX8_free 13 = .ok (.invokevirtual 156, 3) := by decide +kernel
theorem dX8_free_16 : decode cX8_free 16 = .ok (.ifCond .ne 6, 3) := by decide +kernel
theorem dX8_free_19 : decode cX8_free 19 = .ok (.bipush (-3), 2) := by decide +kernel
theorem dX8_free_21 : decode cX8_free 21 = .ok (.ireturn, 1) := by decide +kernel
theorem dX8_free_22 : decode cX8_free 22 = .ok (.aload_n 0, 1) := by decide +kernel
theorem dX8_free_23 : decode cX8_free 23 = .ok (.iload_n 1, 1) := by decide +kernel
theorem dX8_free_24 : decode cX8_free 24 = .ok (.invokevirtual 176, 3) := by decide +kernel
theorem dX8_free_27 : decode cX8_free 27 = .ok (.aload_n 0, 1) := by decide +kernel
theorem dX8_free_28 : decode cX8_free 28 = .ok (.getfield 57, 3) := by decide +kernel
theorem dX8_free_31 : decode cX8_free 31 = .ok (.invokevirtual 186, 3) := by decide +kernel
theorem dX8_free_34 : decode cX8_free 34 = .ok (.aload_n 0, 1) := by decide +kernel
theorem dX8_free_35 : decode cX8_free 35 = .ok (.getfield 61, 3) := by decide +kernel
theorem dX8_free_38 : decode cX8_free 38 = .ok (.getfield 189, 3) := by decide +kernel
theorem dX8_free_41 : decode cX8_free 41 = .ok (.iconst (-1), 1) := by decide +kernel
theorem dX8_free_42 : decode cX8_free 42 = .ok (.ixor, 1) := by decide +kernel
theorem dX8_free_43 : decode cX8_free 43 = .ok (.iand, 1) := by decide +kernel
theorem dX8_free_44 : decode cX8_free 44 = .ok (.ireturn, 1) := by decide +kernel
theorem dX8_has_0 : decode cX8_has 0 = .ok (.aload_n 0, 1) := by decide +kernel
theorem dX8_has_1 : decode cX8_has 1 = .ok (.getfield 57, 3) := by decide +kernel
theorem dX8_has_4 : decode cX8_has 4 = .ok (.iload_n 1, 1) := by decide +kernel
theorem dX8_has_5 : decode cX8_has 5 = .ok (.invokevirtual 119, 3) := by decide +kernel
theorem dX8_has_8 : decode cX8_has 8 = .ok (.ifCond .eq 10, 3) := by decide +kernel
theorem dX8_has_11 : decode cX8_has 11 = .ok (.iload_n 2, 1) := by decide +kernel
theorem dX8_has_12 : decode cX8_has 12 = .ok (.invokestatic 153, 3) := by decide +kernel
theorem dX8_has_15 : decode cX8_has 15 = .ok (.ifCond .ne 5, 3) := by decide +kernel
theorem dX8_has_18 : decode cX8_has 18 = .ok (.iconst (-1), 1) := by decide +kernel
theorem dX8_has_19 : decode cX8_has 19 = .ok (.ireturn, 1) := by decide +kernel
theorem dX8_has_20 : decode cX8_has 20 = .ok (.aload_n 0, 1) := by decide +kernel
theorem dX8_has_21 : decode cX8_has 21 = .ok (.iload_n 2, 1) := by decide +kernel
theorem dX8_has_22 : decode cX8_has 22 = .ok (.invokevirtual 176, 3) := by decide +kernel
theorem dX8_has_25 : decode cX8_has 25 = .ok (.aload_n 0, 1) := by decide +kernel
theorem dX8_has_26 : decode cX8_has 26 = .ok (.getfield 61, 3) := by decide +kernel
theorem dX8_has_29 : decode cX8_has 29 = .ok (.getfield 192, 3) := by decide +kernel
theorem dX8_has_32 : decode cX8_has 32 = .ok (.iload_n 1, 1) := by decide +kernel
theorem dX8_has_33 : decode cX8_has 33 = .ok (.iaload, 1) := by decide +kernel
theorem dX8_has_34 : decode cX8_has 34 = .ok (.ireturn, 1) := by decide +kernel
theorem dX8_worth_0 : decode cX8_worth 0 = .ok (.aload_n 0, 1) := by decide +kernel
theorem dX8_worth_1 : decode cX8_worth 1 = .ok (.getfield 57, 3) := by decide +kernel
theorem dX8_worth_4 : decode cX8_worth 4 = .ok (.iload_n 1, 1) := by decide +kernel
theorem dX8_worth_5 : decode cX8_worth 5 = .ok (.invokevirtual 119, 3) := by decide +kernel
theorem dX8_worth_8 : decode cX8_worth 8 = .ok (.ifCond .ne 5, 3) := by decide +kernel
theorem dX8_worth_11 : decode cX8_worth 11 = .ok (.iconst (-1), 1) := by decide +kernel
theorem dX8_worth_12 : decode cX8_worth 12 = .ok (.ireturn, 1) := by decide +kernel
theorem dX8_worth_13 : decode cX8_worth 13 = .ok (.aload_n 0, 1) := by decide +kernel
theorem dX8_worth_14 : decode cX8_worth 14 = .ok (.bipush 29, 2) := by decide +kernel
theorem dX8_worth_16 : decode cX8_worth 16 = .ok (.invokevirtual 176, 3) := by decide +kernel
theorem dX8_worth_19 : decode cX8_worth 19 = .ok (.aload_n 0, 1) := by decide +kernel
theorem dX8_worth_20 : decode cX8_worth 20 = .ok (.getfield 61, 3) := by decide +kernel
theorem dX8_worth_23 : decode cX8_worth 23 = .ok (.invokevirtual 224, 3) := by decide +kernel
theorem dX8_worth_26 : decode cX8_worth 26 = .ok (.istore_n 2, 1) := by decide +kernel
theorem dX8_worth_27 : decode cX8_worth 27 = .ok (.aload_n 0, 1) := by decide +kernel
theorem dX8_worth_28 : decode cX8_worth 28 = .ok (.getfield 61, 3) := by decide +kernel
theorem dX8_worth_31 : decode cX8_worth 31 = .ok (.aload_n 0, 1) := by decide +kernel
theorem dX8_worth_32 : decode cX8_worth 32 = .ok (.getfield 57, 3) := by decide +kernel
theorem dX8_worth_35 : decode cX8_worth 35 = .ok (.getfield 138, 3) := by decide +kernel
theorem dX8_worth_38 : decode cX8_worth 38 = .ok (.iconst 1, 1) := by decide +kernel
theorem dX8_worth_39 : decode cX8_worth 39 = .ok (.iload_n 1, 1) := by decide +kernel
theorem dX8_worth_40 : decode cX8_worth 40 = .ok (.ishl, 1) := by decide +kernel
theorem dX8_worth_41 : decode cX8_worth 41 = .ok (.ior, 1) := by decide +kernel
theorem dX8_worth_42 : decode cX8_worth 42 = .ok (.putfield 216, 3) := by decide +kernel
theorem dX8_worth_45 : decode cX8_worth 45 = .ok (.aload_n 0, 1) := by decide +kernel
theorem dX8_worth_46 : decode cX8_worth 46 = .ok (.getfield 61, 3) := by decide +kernel
theorem dX8_worth_49 : decode cX8_worth 49 = .ok (.bipush 29, 2) := by decide +kernel
theorem dX8_worth_51 : decode cX8_worth 51 = .ok (.invokevirtual 227, 3) := by decide +kernel
theorem dX8_worth_54 : decode cX8_worth 54 = .ok (.aload_n 0, 1) := by decide +kernel
theorem dX8_worth_55 : decode cX8_worth 55 = .ok (.getfield 61, 3) := by decide +kernel
theorem dX8_worth_58 : decode cX8_worth 58 = .ok (.invokevirtual 224, 3) := by decide +kernel
theorem dX8_worth_61 : decode cX8_worth 61 = .ok (.iload_n 2, 1) := by decide +kernel
theorem dX8_worth_62 : decode cX8_worth 62 = .ok (.isub, 1) := by decide +kernel
theorem dX8_worth_63 : decode cX8_worth 63 = .ok (.sipush 10000, 3) := by decide +kernel
theorem dX8_worth_66 : decode cX8_worth 66 = .ok (.iadd, 1) := by decide +kernel
theorem dX8_worth_67 : decode cX8_worth 67 = .ok (.ireturn, 1) := by decide +kernel
theorem dX8_sheet_0 : decode cX8_sheet 0 = .ok (.aload_n 0, 1) := by decide +kernel
theorem dX8_sheet_1 : decode cX8_sheet 1 = .ok (.iconst 0, 1) := by decide +kernel
theorem dX8_sheet_2 : decode cX8_sheet 2 = .ok (.putfield 45, 3) := by decide +kernel
theorem dX8_sheet_5 : decode cX8_sheet 5 = .ok (.aload_n 0, 1) := by decide +kernel
theorem dX8_sheet_6 : decode cX8_sheet 6 = .ok (.iload_n 1, 1) := by decide +kernel
theorem dX8_sheet_7 : decode cX8_sheet 7 = .ok (.invokevirtual 75, 3) := by decide +kernel
theorem dX8_sheet_10 : decode cX8_sheet 10 = .ok (.astore 4, 2) := by decide +kernel
theorem dX8_sheet_12 : decode cX8_sheet 12 = .ok (.aload 4, 2) := by decide +kernel
theorem dX8_sheet_14 : decode cX8_sheet 14 = .ok (.ifnonnull 5, 3) := by decide +kernel
theorem dX8_sheet_17 : decode cX8_sheet 17 = .ok (.iconst (-1), 1) := by decide +kernel
theorem dX8_sheet_18 : decode cX8_sheet 18 = .ok (.ireturn, 1) := by decide +kernel
theorem dX8_sheet_19 : decode cX8_sheet 19 = .ok (.iload_n 2, 1) := by decide +kernel
theorem dX8_sheet_20 : decode cX8_sheet 20 = .ok (.invokestatic 79, 3) := by decide +kernel
theorem dX8_sheet_23 : decode cX8_sheet 23 = .ok (.ifCond .eq 9, 3) := by decide +kernel
theorem dX8_sheet_26 : decode cX8_sheet 26 = .ok (.iload_n 3, 1) := by decide +kernel
theorem dX8_sheet_27 : decode cX8_sheet 27 = .ok (.bipush 50, 2) := by decide +kernel
theorem dX8_sheet_29 : decode cX8_sheet 29 = .ok (.if_icmp .le 6, 3) := by decide +kernel
theorem dX8_sheet_32 : decode cX8_sheet 32 = .ok (.bipush (-2), 2) := by decide +kernel
theorem dX8_sheet_34 : decode cX8_sheet 34 = .ok (.ireturn, 1) := by decide +kernel
theorem dX8_sheet_35 : decode cX8_sheet 35 = .ok (.iload_n 3, 1) := by decide +kernel
theorem dX8_sheet_36 : decode cX8_sheet 36 = .ok (.ifCond .ge 9, 3) := by decide +kernel
theorem dX8_sheet_39 : decode cX8_sheet 39 = .ok (.aload_n 0, 1) := by decide +kernel
theorem dX8_sheet_40 : decode cX8_sheet 40 = .ok (.iconst 4, 1) := by decide +kernel
theorem dX8_sheet_41 : decode cX8_sheet 41 = .ok (.invokevirtual 86, 3) := by decide +kernel
theorem dX8_sheet_44 : decode cX8_sheet 44 = .ok (.ireturn, 1) := by decide +kernel
theorem dX8_sheet_45 : decode cX8_sheet 45 = .ok (.aload 4, 2) := by decide +kernel
theorem dX8_sheet_47 : decode cX8_sheet 47 = .ok (.iload_n 2, 1) := by decide +kernel
theorem dX8_sheet_48 : decode cX8_sheet 48 = .ok (.iload_n 3, 1) := by decide +kernel
theorem dX8_sheet_49 : decode cX8_sheet 49 = .ok (.invokevirtual 249, 3) := by decide +kernel
theorem dX8_sheet_52 : decode cX8_sheet 52 = .ok (.iconst 1, 1) := by decide +kernel
theorem dX8_sheet_53 : decode cX8_sheet 53 = .ok (.ireturn, 1) := by decide +kernel
theorem dX8_put_0 : decode cX8_put 0 = .ok (.aload_n 0, 1) := by decide +kernel
theorem dX8_put_1 : decode cX8_put 1 = .ok (.iconst 0, 1) := by decide +kernel
theorem dX8_put_2 : decode cX8_put 2 = .ok (.putfield 45, 3) := by decide +kernel
theorem dX8_put_5 : decode cX8_put 5 = .ok (.aload_n 0, 1) := by decide +kernel
theorem dX8_put_6 : decode cX8_put 6 = .ok (.iload_n 1, 1) := by decide +kernel
theorem dX8_put_7 : decode cX8_put 7 = .ok (.invokevirtual 75, 3) := by decide +kernel
theorem dX8_put_10 : decode cX8_put 10 = .ok (.astore 4, 2) := by decide +kernel
theorem dX8_put_12 : decode cX8_put 12 = .ok (.aload 4, 2) := by decide +kernel
theorem dX8_put_14 : decode cX8_put 14 = .ok (.ifnonnull 5, 3) := by decide +kernel
theorem dX8_put_17 : decode cX8_put 17 = .ok (.iconst (-1), 1) := by decide +kernel
theorem dX8_put_18 : decode cX8_put 18 = .ok (.ireturn, 1) := by decide +kernel
theorem dX8_put_19 : decode cX8_put 19 = .ok (.aload 4, 2) := by decide +kernel
theorem dX8_put_21 : decode cX8_put 21 = .ok (.getfield 90, 3) := by decide +kernel
theorem dX8_put_24 : decode cX8_put 24 = .ok (.ifCond .ne 9, 3) := by decide +kernel
theorem dX8_put_27 : decode cX8_put 27 = .ok (.aload_n 0, 1) := by decide +kernel
theorem dX8_put_28 : decode cX8_put 28 = .ok (.iconst 1, 1) := by decide +kernel
theorem dX8_put_29 : decode cX8_put 29 = .ok (.invokevirtual 86, 3) := by decide +kernel
theorem dX8_put_32 : decode cX8_put 32 = .ok (.ireturn, 1) := by decide +kernel
theorem dX8_put_33 : decode cX8_put 33 = .ok (.aload 4, 2) := by decide +kernel
theorem dX8_put_35 : decode cX8_put 35 = .ok (.iload_n 2, 1) := by decide +kernel
theorem dX8_put_36 : decode cX8_put 36 = .ok (.iconst 1, 1) := by decide +kernel
theorem dX8_put_37 : decode cX8_put 37 = .ok (.invokevirtual 94, 3) := by decide +kernel
theorem dX8_put_40 : decode cX8_put 40 = .ok (.ifCond .ne 9, 3) := by decide +kernel
theorem dX8_put_43 : decode cX8_put 43 = .ok (.aload_n 0, 1) := by decide +kernel
theorem dX8_put_44 : decode cX8_put 44 = .ok (.iconst 3, 1) := by decide +kernel
theorem dX8_put_45 : decode cX8_put 45 = .ok (.invokevirtual 86, 3) := by decide +kernel
theorem dX8_put_48 : decode cX8_put 48 = .ok (.ireturn, 1) := by decide +kernel
theorem dX8_put_49 : decode cX8_put 49 = .ok (.aload 4, 2) := by decide +kernel
theorem dX8_put_51 : decode cX8_put 51 = .ok (.getfield 252, 3) := by decide +kernel
theorem dX8_put_54 : decode cX8_put 54 = .ok (.iload_n 2, 1) := by decide +kernel
theorem dX8_put_55 : decode cX8_put 55 = .ok (.aload 4, 2) := by decide +kernel
theorem dX8_put_57 : decode cX8_put 57 = .ok (.iload_n 3, 1) := by decide +kernel
theorem dX8_put_58 : decode cX8_put 58 = .ok (.invokevirtual 255, 3) := by decide +kernel
theorem dX8_put_61 : decode cX8_put 61 = .ok (.iastore, 1) := by decide +kernel
theorem dX8_put_62 : decode cX8_put 62 = .ok (.iconst 1, 1) := by decide +kernel
theorem dX8_put_63 : decode cX8_put 63 = .ok (.ireturn, 1) := by decide +kernel
theorem dX8_sheetOf_0 : decode cX8_sheetOf 0 = .ok (.iload_n 1, 1) := by decide +kernel
theorem dX8_sheetOf_1 : decode cX8_sheetOf 1 = .ok (.ifCond .lt 17, 3) := by decide +kernel
theorem dX8_sheetOf_4 : decode cX8_sheetOf 4 = .ok (.iload_n 1, 1) := by decide +kernel
theorem dX8_sheetOf_5 : decode cX8_sheetOf 5 = .ok (.iconst 4, 1) := by decide +kernel
theorem dX8_sheetOf_6 : decode cX8_sheetOf 6 = .ok (.if_icmp .ge 12, 3) := by decide +kernel
theorem dX8_sheetOf_9 : decode cX8_sheetOf 9 = .ok (.aload_n 0, 1) := by decide +kernel
theorem dX8_sheetOf_10 : decode cX8_sheetOf 10 = .ok (.getfield 13, 3) := by decide +kernel
theorem dX8_sheetOf_13 : decode cX8_sheetOf 13 = .ok (.iload_n 1, 1) := by decide +kernel
theorem dX8_sheetOf_14 : decode cX8_sheetOf 14 = .ok (.aaload, 1) := by decide +kernel
theorem dX8_sheetOf_15 : decode cX8_sheetOf 15 = .ok (.goto 4, 3) := by decide +kernel
theorem dX8_sheetOf_18 : decode cX8_sheetOf 18 = .ok (.aconst_null, 1) := by decide +kernel
theorem dX8_sheetOf_19 : decode cX8_sheetOf 19 = .ok (.areturn, 1) := by decide +kernel
theorem dX8_faulted_0 : decode cX8_faulted 0 = .ok (.aload_n 0, 1) := by decide +kernel
theorem dX8_faulted_1 : decode cX8_faulted 1 = .ok (.iload_n 1, 1) := by decide +kernel
theorem dX8_faulted_2 : decode cX8_faulted 2 = .ok (.putfield 45, 3) := by decide +kernel
theorem dX8_faulted_5 : decode cX8_faulted 5 = .ok (.bipush (-10), 2) := by decide +kernel
theorem dX8_faulted_7 : decode cX8_faulted 7 = .ok (.iload_n 1, 1) := by decide +kernel
theorem dX8_faulted_8 : decode cX8_faulted 8 = .ok (.isub, 1) := by decide +kernel
theorem dX8_faulted_9 : decode cX8_faulted 9 = .ok (.ireturn, 1) := by decide +kernel
theorem dX8_passAsTold_0 : decode cX8_passAsTold 0 = .ok (.aload_n 0, 1) := by decide +kernel
theorem dX8_passAsTold_1 : decode cX8_passAsTold 1 = .ok (.getfield 61, 3) := by decide +kernel
theorem dX8_passAsTold_4 : decode cX8_passAsTold 4 = .ok (.aload_n 0, 1) := by decide +kernel
theorem dX8_passAsTold_5 : decode cX8_passAsTold 5 = .ok (.getfield 27, 3) := by decide +kernel
theorem dX8_passAsTold_8 : decode cX8_passAsTold 8 = .ok (.invokevirtual 195, 3) := by decide +kernel
theorem dX8_passAsTold_11 : decode cX8_passAsTold 11 = .ok (.aload_n 0, 1) := by decide +kernel
theorem dX8_passAsTold_12 : decode cX8_passAsTold 12 = .ok (.getfield 61, 3) := by decide +kernel
theorem dX8_passAsTold_15 : decode cX8_passAsTold 15 = .ok (.iload_n 1, 1) := by decide +kernel
theorem dX8_passAsTold_16 : decode cX8_passAsTold 16 = .ok (.invokevirtual 227, 3) := by decide +kernel
theorem dX8_passAsTold_19 : decode cX8_passAsTold 19 = .ok (.return_, 1) := by decide +kernel
theorem dX8_isDay_0 : decode cX8_isDay 0 = .ok (.iload_n 0, 1) := by decide +kernel
theorem dX8_isDay_1 : decode cX8_isDay 1 = .ok (.ifCond .lt 13, 3) := by decide +kernel
theorem dX8_isDay_4 : decode cX8_isDay 4 = .ok (.iload_n 0, 1) := by decide +kernel
theorem dX8_isDay_5 : decode cX8_isDay 5 = .ok (.bipush 30, 2) := by decide +kernel
theorem dX8_isDay_7 : decode cX8_isDay 7 = .ok (.if_icmp .ge 7, 3) := by decide +kernel
theorem dX8_isDay_10 : decode cX8_isDay 10 = .ok (.iconst 1, 1) := by decide +kernel
theorem dX8_isDay_11 : decode cX8_isDay 11 = .ok (.goto 4, 3) := by decide +kernel
theorem dX8_isDay_14 : decode cX8_isDay 14 = .ok (.iconst 0, 1) := by decide +kernel
theorem dX8_isDay_15 : decode cX8_isDay 15 = .ok (.ireturn, 1) := by decide +kernel
theorem dX8_isLane_0 : decode cX8_isLane 0 = .ok (.iload_n 0, 1) := by decide +kernel
theorem dX8_isLane_1 : decode cX8_isLane 1 = .ok (.ifCond .lt 12, 3) := by decide +kernel
theorem dX8_isLane_4 : decode cX8_isLane 4 = .ok (.iload_n 0, 1) := by decide +kernel
theorem dX8_isLane_5 : decode cX8_isLane 5 = .ok (.iconst 3, 1) := by decide +kernel
theorem dX8_isLane_6 : decode cX8_isLane 6 = .ok (.if_icmp .ge 7, 3) := by decide +kernel
theorem dX8_isLane_9 : decode cX8_isLane 9 = .ok (.iconst 1, 1) := by decide +kernel
theorem dX8_isLane_10 : decode cX8_isLane 10 = .ok (.goto 4, 3) := by decide +kernel
theorem dX8_isLane_13 : decode cX8_isLane 13 = .ok (.iconst 0, 1) := by decide +kernel
theorem dX8_isLane_14 : decode cX8_isLane 14 = .ok (.ireturn, 1) := by decide +kernel
theorem dX8_isIn_0 : decode cX8_isIn 0 = .ok (.iload_n 0, 1) := by decide +kernel
theorem dX8_isIn_1 : decode cX8_isIn 1 = .ok (.iload_n 1, 1) := by decide +kernel
theorem dX8_isIn_2 : decode cX8_isIn 2 = .ok (.ishr, 1) := by decide +kernel
theorem dX8_isIn_3 : decode cX8_isIn 3 = .ok (.iconst 1, 1) := by decide +kernel
theorem dX8_isIn_4 : decode cX8_isIn 4 = .ok (.iand, 1) := by decide +kernel
theorem dX8_isIn_5 : decode cX8_isIn 5 = .ok (.ifCond .eq 7, 3) := by decide +kernel
theorem dX8_isIn_8 : decode cX8_isIn 8 = .ok (.iconst 1, 1) := by decide +kernel
theorem dX8_isIn_9 : decode cX8_isIn 9 = .ok (.goto 4, 3) := by decide +kernel
theorem dX8_isIn_12 : decode cX8_isIn 12 = .ok (.iconst 0, 1) := by decide +kernel
theorem dX8_isIn_13 : decode cX8_isIn 13 = .ok (.ireturn, 1) := by decide +kernel
theorem dJ7_fill_53178_0 : decode cJ7_fill_53178 0 = .ok (.iconst 0, 1) := by decide +kernel
theorem dJ7_fill_53178_1 : decode cJ7_fill_53178 1 = .ok (.istore_n 2, 1) := by decide +kernel
theorem dJ7_fill_53178_2 : decode cJ7_fill_53178 2 = .ok (.aload_n 0, 1) := by decide +kernel
theorem dJ7_fill_53178_3 : decode cJ7_fill_53178 3 = .ok (.arraylength, 1) := by decide +kernel
theorem dJ7_fill_53178_4 : decode cJ7_fill_53178 4 = .ok (.istore_n 3, 1) := by decide +kernel
theorem dJ7_fill_53178_5 : decode cJ7_fill_53178 5 = .ok (.iload_n 2, 1) := by decide +kernel
theorem dJ7_fill_53178_6 : decode cJ7_fill_53178 6 = .ok (.iload_n 3, 1) := by decide +kernel
theorem dJ7_fill_53178_7 : decode cJ7_fill_53178 7 = .ok (.if_icmp .ge 13, 3) := by decide +kernel
theorem dJ7_fill_53178_10 : decode cJ7_fill_53178 10 = .ok (.aload_n 0, 1) := by decide +kernel
theorem dJ7_fill_53178_11 : decode cJ7_fill_53178 11 = .ok (.iload_n 2, 1) := by decide +kernel
theorem dJ7_fill_53178_12 : decode cJ7_fill_53178 12 = .ok (.iload_n 1, 1) := by decide +kernel
theorem dJ7_fill_53178_13 : decode cJ7_fill_53178 13 = .ok (.iastore, 1) := by decide +kernel
theorem dJ7_fill_53178_14 : decode cJ7_fill_53178 14 = .ok (.iinc 2 1, 3) := by decide +kernel
theorem dJ7_fill_53178_17 : decode cJ7_fill_53178 17 = .ok (.goto (-12), 3) := by decide +kernel
theorem dJ7_fill_53178_20 : decode cJ7_fill_53178 20 = .ok (.return_, 1) := by decide +kernel
end
section
theorem dL_cell_0 : decode cL_cell 0 = .ok (.iload_n 1, 1) := by decide +kernel
theorem dL_cell_1 : decode cL_cell 1 = .ok (.aload_n 0, 1) := by decide +kernel
theorem dL_cell_2 : decode cL_cell 2 = .ok (.arraylength, 1) := by decide +kernel
theorem dL_cell_3 : decode cL_cell 3 = .ok (.if_icmp .ge 9, 3) := by decide +kernel
theorem dL_cell_6 : decode cL_cell 6 = .ok (.aload_n 0, 1) := by decide +kernel
theorem dL_cell_7 : decode cL_cell 7 = .ok (.iload_n 1, 1) := by decide +kernel
theorem dL_cell_8 : decode cL_cell 8 = .ok (.iaload, 1) := by decide +kernel
theorem dL_cell_9 : decode cL_cell 9 = .ok (.goto 9, 3) := by decide +kernel
theorem dL_cell_12 : decode cL_cell 12 = .ok (.ldc 7, 2) := by decide +kernel
theorem dL_cell_14 : decode cL_cell 14 = .ok (.iload_n 1, 1) := by decide +kernel
theorem dL_cell_15 : decode cL_cell 15 = .ok (.iconst 1, 1) := by decide +kernel
theorem dL_cell_16 : decode cL_cell 16 = .ok (.iadd, 1) := by decide +kernel
theorem dL_cell_17 : decode cL_cell 17 = .ok (.imul, 1) := by decide +kernel
theorem dL_cell_18 : decode cL_cell 18 = .ok (.ireturn, 1) := by decide +kernel
theorem dL_some_0 : decode cL_some 0 = .ok (.iload_n 0, 1) := by decide +kernel
theorem dL_some_1 : decode cL_some 1 = .ok (.ldc 8, 2) := by decide +kernel
theorem dL_some_3 : decode cL_some 3 = .ok (.iand, 1) := by decide +kernel
theorem dL_some_4 : decode cL_some 4 = .ok (.iload_n 1, 1) := by decide +kernel
theorem dL_some_5 : decode cL_some 5 = .ok (.irem, 1) := by decide +kernel
theorem dL_some_6 : decode cL_some 6 = .ok (.ireturn, 1) := by decide +kernel
theorem dL_put_0 : decode cL_put 0 = .ok (.aload_n 1, 1) := by decide +kernel
theorem dL_put_1 : decode cL_put 1 = .ok (.iload_n 2, 1) := by decide +kernel
theorem dL_put_2 : decode cL_put 2 = .ok (.invokestatic 9, 3) := by decide +kernel
theorem dL_put_5 : decode cL_put 5 = .ok (.istore 8, 2) := by decide +kernel
theorem dL_put_7 : decode cL_put 7 = .ok (.aload 4, 2) := by decide +kernel
theorem dL_put_9 : decode cL_put 9 = .ok (.iconst 0, 1) := by decide +kernel
theorem dL_put_10 : decode cL_put 10 = .ok (.iconst 1, 1) := by decide +kernel
theorem dL_put_11 : decode cL_put 11 = .ok (.iload 8, 2) := by decide +kernel
theorem dL_put_13 : decode cL_put 13 = .ok (.iload_n 3, 1) := by decide +kernel
theorem dL_put_14 : decode cL_put 14 = .ok (.invokestatic 15, 3) := by decide +kernel
theorem dL_put_17 : decode cL_put 17 = .ok (.iadd, 1) := by decide +kernel
theorem dL_put_18 : decode cL_put 18 = .ok (.iastore, 1) := by decide +kernel
theorem dL_put_19 : decode cL_put 19 = .ok (.aload 4, 2) := by decide +kernel
theorem dL_put_21 : decode cL_put 21 = .ok (.iconst 1, 1) := by decide +kernel
theorem dL_put_22 : decode cL_put 22 = .ok (.iconst 1, 1) := by decide +kernel
theorem dL_put_23 : decode cL_put 23 = .ok (.iload 8, 2) := by decide +kernel
theorem dL_put_25 : decode cL_put 25 = .ok (.iconst 3, 1) := by decide +kernel
theorem dL_put_26 : decode cL_put 26 = .ok (.ishr, 1) := by decide +kernel
theorem dL_put_27 : decode cL_put 27 = .ok (.bipush 6, 2) := by decide +kernel
theorem dL_put_29 : decode cL_put 29 = .ok (.invokestatic 15, 3) := by decide +kernel
theorem dL_put_32 : decode cL_put 32 = .ok (.iadd, 1) := by decide +kernel
theorem dL_put_33 : decode cL_put 33 = .ok (.iastore, 1) := by decide +kernel
theorem dL_put_34 : decode cL_put 34 = .ok (.aload 4, 2) := by decide +kernel
theorem dL_put_36 : decode cL_put 36 = .ok (.iconst 2, 1) := by decide +kernel
theorem dL_put_37 : decode cL_put 37 = .ok (.iconst 0, 1) := by decide +kernel
theorem dL_put_38 : decode cL_put 38 = .ok (.iastore, 1) := by decide +kernel
theorem dL_put_39 : decode cL_put 39 = .ok (.aload 4, 2) := by decide +kernel
theorem dL_put_41 : decode cL_put 41 = .ok (.bipush 21, 2) := by decide +kernel
theorem dL_put_43 : decode cL_put 43 = .ok (.iconst 0, 1) := by decide +kernel
theorem dL_put_44 : decode cL_put 44 = .ok (.iastore, 1) := by decide +kernel
theorem dL_put_45 : decode cL_put 45 = .ok (.iconst 0, 1) := by decide +kernel
theorem dL_put_46 : decode cL_put 46 = .ok (.istore 9, 2) := by decide +kernel
theorem dL_put_48 : decode cL_put 48 = .ok (.iload 9, 2) := by decide +kernel
theorem dL_put_50 : decode cL_put 50 = .ok (.bipush 30, 2) := by decide +kernel
theorem dL_put_52 : decode cL_put 52 = .ok (.if_icmp .ge 28, 3) := by decide +kernel
theorem dL_put_55 : decode cL_put 55 = .ok (.aload 5, 2) := by decide +kernel
theorem dL_put_57 : decode cL_put 57 = .ok (.iload 9, 2) := by decide +kernel
theorem dL_put_59 : decode cL_put 59 = .ok (.iconst 0, 1) := by decide +kernel
theorem dL_put_60 : decode cL_put 60 = .ok (.iastore, 1) := by decide +kernel
theorem dL_put_61 : decode cL_put 61 = .ok (.aload 6, 2) := by decide +kernel
theorem dL_put_63 : decode cL_put 63 = .ok (.iload 9, 2) := by decide +kernel
theorem dL_put_65 : decode cL_put 65 = .ok (.bipush (-9), 2) := by decide +kernel
theorem dL_put_67 : decode cL_put 67 = .ok (.iastore, 1) := by decide +kernel
theorem dL_put_68 : decode cL_put 68 = .ok (.aload 7, 2) := by decide +kernel
theorem dL_put_70 : decode cL_put 70 = .ok (.iload 9, 2) := by decide +kernel
theorem dL_put_72 : decode cL_put 72 = .ok (.iconst 0, 1) := by decide +kernel
theorem dL_put_73 : decode cL_put 73 = .ok (.iastore, 1) := by decide +kernel
theorem dL_put_74 : decode cL_put 74 = .ok (.iinc 9 1, 3) := by decide +kernel
theorem dL_put_77 : decode cL_put 77 = .ok (.goto (-29), 3) := by decide +kernel
theorem dL_put_80 : decode cL_put 80 = .ok (.aload_n 0, 1) := by decide +kernel
theorem dL_put_81 : decode cL_put 81 = .ok (.iconst 0, 1) := by decide +kernel
theorem dL_put_82 : decode cL_put 82 = .ok (.iconst 0, 1) := by decide +kernel
theorem dL_put_83 : decode cL_put 83 = .ok (.bipush 50, 2) := by decide +kernel
theorem dL_put_85 : decode cL_put 85 = .ok (.invokevirtual 19, 3) := by decide +kernel
theorem dL_put_88 : decode cL_put 88 = .ok (.iconst 1, 1) := by decide +kernel
theorem dL_put_89 : decode cL_put 89 = .ok (.if_icmp .ne 15, 3) := by decide +kernel
theorem dL_put_92 : decode cL_put 92 = .ok (.aload_n 0, 1) := by decide +kernel
theorem dL_put_93 : decode cL_put 93 = .ok (.iconst 0, 1) := by decide +kernel
theorem dL_put_94 : decode cL_put 94 = .ok (.iconst 0, 1) := by decide +kernel
theorem dL_put_95 : decode cL_put 95 = .ok (.bipush 107, 2) := by decide +kernel
theorem dL_put_97 : decode cL_put 97 = .ok (.invokevirtual 25, 3) := by decide +kernel
theorem dL_put_100 : decode cL_put 100 = .ok (.iconst 1, 1) := by decide +kernel
theorem dL_put_101 : decode cL_put 101 = .ok (.if_icmp .eq 6, 3) := by decide +kernel
theorem dL_put_104 : decode cL_put 104 = .ok (.bipush (-99), 2) := by decide +kernel
theorem dL_put_106 : decode cL_put 106 = .ok (.ireturn, 1) := by decide +kernel
theorem dL_put_107 : decode cL_put 107 = .ok (.iconst 1, 1) := by decide +kernel
theorem dL_put_108 : decode cL_put 108 = .ok (.istore 9, 2) := by decide +kernel
theorem dL_put_110 : decode cL_put 110 = .ok (.iconst 0, 1) := by decide +kernel
theorem dL_put_111 : decode cL_put 111 = .ok (.istore 10, 2) := by decide +kernel
theorem dL_put_113 : decode cL_put 113 = .ok (.iload 10, 2) := by decide +kernel
theorem dL_put_115 : decode cL_put 115 = .ok (.aload 4, 2) := by decide +kernel
theorem dL_put_117 : decode cL_put 117 = .ok (.iconst 0, 1) := by decide +kernel
theorem dL_put_118 : decode cL_put 118 = .ok (.iaload, 1) := by decide +kernel
theorem dL_put_119 : decode cL_put 119 = .ok (.if_icmp .ge 210, 3) := by decide +kernel
theorem dL_put_122 : decode cL_put 122 = .ok (.aload_n 1, 1) := by decide +kernel
theorem dL_put_123 : decode cL_put 123 = .ok (.iload_n 2, 1) := by decide +kernel
theorem dL_put_124 : decode cL_put 124 = .ok (.iconst 1, 1) := by decide +kernel
theorem dL_put_125 : decode cL_put 125 = .ok (.iadd, 1) := by decide +kernel
theorem dL_put_126 : decode cL_put 126 = .ok (.iload 10, 2) := by decide +kernel
theorem dL_put_128 : decode cL_put 128 = .ok (.iconst 2, 1) := by decide +kernel
theorem dL_put_129 : decode cL_put 129 = .ok (.irem, 1) := by decide +kernel
theorem dL_put_130 : decode cL_put 130 = .ok (.iadd, 1) := by decide +kernel
theorem dL_put_131 : decode cL_put 131 = .ok (.invokestatic 9, 3) := by decide +kernel
theorem dL_put_134 : decode cL_put 134 = .ok (.iload 10, 2) := by decide +kernel
theorem dL_put_136 : decode cL_put 136 = .ok (.iconst 2, 1) := by decide +kernel
theorem dL_put_137 : decode cL_put 137 = .ok (.idiv, 1) := by decide +kernel
theorem dL_put_138 : decode cL_put 138 = .ok (.bipush 7, 2) := by decide +kernel
theorem dL_put_140 : decode cL_put 140 = .ok (.imul, 1) := by decide +kernel
theorem dL_put_141 : decode cL_put 141 = .ok (.ishr, 1) := by decide +kernel
theorem dL_put_142 : decode cL_put 142 = .ok (.istore 11, 2) := by decide +kernel
theorem dL_put_144 : decode cL_put 144 = .ok (.aload 4, 2) := by decide +kernel
theorem dL_put_146 : decode cL_put 146 = .ok (.iconst 3, 1) := by decide +kernel
theorem dL_put_147 : decode cL_put 147 = .ok (.iload 10, 2) := by decide +kernel
theorem dL_put_149 : decode cL_put 149 = .ok (.iadd, 1) := by decide +kernel
theorem dL_put_150 : decode cL_put 150 = .ok (.iload 11, 2) := by decide +kernel
theorem dL_put_152 : decode cL_put 152 = .ok (.iconst 4, 1) := by decide +kernel
theorem dL_put_153 : decode cL_put 153 = .ok (.invokestatic 15, 3) := by decide +kernel
theorem dL_put_156 : decode cL_put 156 = .ok (.iconst 3, 1) := by decide +kernel
theorem dL_put_157 : decode cL_put 157 = .ok (.if_icmp .ne 7, 3) := by decide +kernel
theorem dL_put_160 : decode cL_put 160 = .ok (.iconst 0, 1) := by decide +kernel
theorem dL_put_161 : decode cL_put 161 = .ok (.goto 9, 3) := by decide +kernel
theorem dL_put_164 : decode cL_put 164 = .ok (.iload 11, 2) := by decide +kernel
theorem dL_put_166 : decode cL_put 166 = .ok (.iconst 4, 1) := by decide +kernel
theorem dL_put_167 : decode cL_put 167 = .ok (.invokestatic 15, 3) := by decide +kernel
theorem dL_put_170 : decode cL_put 170 = .ok (.iastore, 1) := by decide +kernel
theorem dL_put_171 : decode cL_put 171 = .ok (.aload 4, 2) := by decide +kernel
theorem dL_put_173 : decode cL_put 173 = .ok (.bipush 9, 2) := by decide +kernel
theorem dL_put_175 : decode cL_put 175 = .ok (.iload 10, 2) := by decide +kernel
theorem dL_put_177 : decode cL_put 177 = .ok (.iadd, 1) := by decide +kernel
theorem dL_put_178 : decode cL_put 178 = .ok (.iload 11, 2) := by decide +kernel
theorem dL_put_180 : decode cL_put 180 = .ok (.iconst 1, 1) := by decide +kernel
theorem dL_put_181 : decode cL_put 181 = .ok (.ishr, 1) := by decide +kernel
theorem dL_put_182 : decode cL_put 182 = .ok (.iload 8, 2) := by decide +kernel
theorem dL_put_184 : decode cL_put 184 = .ok (.bipush 6, 2) := by decide +kernel
theorem dL_put_186 : decode cL_put 186 = .ok (.ishr, 1) := by decide +kernel
theorem dL_put_187 : decode cL_put 187 = .ok (.iconst 2, 1) := by decide +kernel
theorem dL_put_188 : decode cL_put 188 = .ok (.invokestatic 15, 3) := by decide +kernel
theorem dL_put_191 : decode cL_put 191 = .ok (.ifCond .ne 8, 3) := by decide +kernel
theorem dL_put_194 : decode cL_put 194 = .ok (.bipush 6, 2) := by decide +kernel
theorem dL_put_196 : decode cL_put 196 = .ok (.goto 4, 3) := by decide +kernel
theorem dL_put_199 : decode cL_put 199 = .ok (.iconst 3, 1) := by decide +kernel
theorem dL_put_200 : decode cL_put 200 = .ok (.invokestatic 15, 3) := by decide +kernel
theorem dL_put_203 : decode cL_put 203 = .ok (.iastore, 1) := by decide +kernel
theorem dL_put_204 : decode cL_put 204 = .ok (.aload 4, 2) := by decide +kernel
theorem dL_put_206 : decode cL_put 206 = .ok (.bipush 15, 2) := by decide +kernel
theorem dL_put_208 : decode cL_put 208 = .ok (.iload 10, 2) := by decide +kernel
theorem dL_put_210 : decode cL_put 210 = .ok (.iadd, 1) := by decide +kernel
theorem dL_put_211 : decode cL_put 211 = .ok (.iconst 1, 1) := by decide +kernel
theorem dL_put_212 : decode cL_put 212 = .ok (.iload 11, 2) := by decide +kernel
theorem dL_put_214 : decode cL_put 214 = .ok (.iconst 3, 1) := by decide +kernel
theorem dL_put_215 : decode cL_put 215 = .ok (.ishr, 1) := by decide +kernel
theorem dL_put_216 : decode cL_put 216 = .ok (.bipush 9, 2) := by decide +kernel
theorem dL_put_218 : decode cL_put 218 = .ok (.invokestatic 15, 3) := by decide +kernel
theorem dL_put_221 : decode cL_put 221 = .ok (.iadd, 1) := by decide +kernel
theorem dL_put_222 : decode cL_put 222 = .ok (.iastore, 1) := by decide +kernel
theorem dL_put_223 : decode cL_put 223 = .ok (.aload_n 0, 1) := by decide +kernel
theorem dL_put_224 : decode cL_put 224 = .ok (.iconst 0, 1) := by decide +kernel
theorem dL_put_225 : decode cL_put 225 = .ok (.iload 9, 2) := by decide +kernel
theorem dL_put_227 : decode cL_put 227 = .ok (.iinc 9 1, 3) := by decide +kernel
theorem dL_put_230 : decode cL_put 230 = .ok (.aload 4, 2) := by decide +kernel
theorem dL_put_232 : decode cL_put 232 = .ok (.iconst 3, 1) := by decide +kernel
theorem dL_put_233 : decode cL_put 233 = .ok (.iload 10, 2) := by decide +kernel
theorem dL_put_235 : decode cL_put 235 = .ok (.iadd, 1) := by decide +kernel
theorem dL_put_236 : decode cL_put 236 = .ok (.iaload, 1) := by decide +kernel
theorem dL_put_237 : decode cL_put 237 = .ok (.ifCond .ne 8, 3) := by decide +kernel
theorem dL_put_240 : decode cL_put 240 = .ok (.bipush 116, 2) := by decide +kernel
theorem dL_put_242 : decode cL_put 242 = .ok (.goto 21, 3) := by decide +kernel
theorem dL_put_245 : decode cL_put 245 = .ok (.aload 4, 2) := by decide +kernel
theorem dL_put_247 : decode cL_put 247 = .ok (.iconst 3, 1) := by decide +kernel
theorem dL_put_248 : decode cL_put 248 = .ok (.iload 10, 2) := by decide +kernel
theorem dL_put_250 : decode cL_put 250 = .ok (.iadd, 1) := by decide +kernel
theorem dL_put_251 : decode cL_put 251 = .ok (.iaload, 1) := by decide +kernel
theorem dL_put_252 : decode cL_put 252 = .ok (.iconst 1, 1) := by decide +kernel
theorem dL_put_253 : decode cL_put 253 = .ok (.if_icmp .ne 8, 3) := by decide +kernel
theorem dL_put_256 : decode cL_put 256 = .ok (.bipush 103, 2) := by decide +kernel
theorem dL_put_258 : decode cL_put 258 = .ok (.goto 5, 3) := by decide +kernel
theorem dL_put_261 : decode cL_put 261 = .ok (.bipush 111, 2) := by decide +kernel
theorem dL_put_263 : decode cL_put 263 = .ok (.invokevirtual 25, 3) := by decide +kernel
theorem dL_put_266 : decode cL_put 266 = .ok (.iconst 1, 1) := by decide +kernel
theorem dL_put_267 : decode cL_put 267 = .ok (.if_icmp .ne 53, 3) := by decide +kernel
theorem dL_put_270 : decode cL_put 270 = .ok (.aload_n 0, 1) := by decide +kernel
theorem dL_put_271 : decode cL_put 271 = .ok (.iconst 0, 1) := by decide +kernel
theorem dL_put_272 : decode cL_put 272 = .ok (.iload 9, 2) := by decide +kernel
theorem dL_put_274 : decode cL_put 274 = .ok (.iinc 9 1, 3) := by decide +kernel
theorem dL_put_277 : decode cL_put 277 = .ok (.bipush 48, 2) := by decide +kernel
theorem dL_put_279 : decode cL_put 279 = .ok (.aload 4, 2) := by decide +kernel
theorem dL_put_281 : decode cL_put 281 = .ok (.bipush 9, 2) := by decide +kernel
theorem dL_put_283 : decode cL_put 283 = .ok (.iload 10, 2) := by decide +kernel
theorem dL_put_285 : decode cL_put 285 = .ok (.iadd, 1) := by decide +kernel
theorem dL_put_286 : decode cL_put 286 = .ok (.iaload, 1) := by decide +kernel
theorem dL_put_287 : decode cL_put 287 = .ok (.iadd, 1) := by decide +kernel
theorem dL_put_288 : decode cL_put 288 = .ok (.invokevirtual 25, 3) := by decide +kernel
theorem dL_put_291 : decode cL_put 291 = .ok (.iconst 1, 1) := by decide +kernel
theorem dL_put_292 : decode cL_put 292 = .ok (.if_icmp .ne 28, 3) := by decide +kernel
theorem dL_put_295 : decode cL_put 295 = .ok (.aload_n 0, 1) := by decide +kernel
theorem dL_put_296 : decode cL_put 296 = .ok (.iconst 0, 1) := by decide +kernel
theorem dL_put_297 : decode cL_put 297 = .ok (.iload 9, 2) := by decide +kernel
theorem dL_put_299 : decode cL_put 299 = .ok (.iinc 9 1, 3) := by decide +kernel
theorem dL_put_302 : decode cL_put 302 = .ok (.bipush 48, 2) := by decide +kernel
theorem dL_put_304 : decode cL_put 304 = .ok (.aload 4, 2) := by decide +kernel
theorem dL_put_306 : decode cL_put 306 = .ok (.bipush 15, 2) := by decide +kernel
theorem dL_put_308 : decode cL_put 308 = .ok (.iload 10, 2) := by decide +kernel
theorem dL_put_310 : decode cL_put 310 = .ok (.iadd, 1) := by decide +kernel
theorem dL_put_311 : decode cL_put 311 = .ok (.iaload, 1) := by decide +kernel
theorem dL_put_312 : decode cL_put 312 = .ok (.iadd, 1) := by decide +kernel
theorem dL_put_313 : decode cL_put 313 = .ok (.invokevirtual 25, 3) := by decide +kernel
theorem dL_put_316 : decode cL_put 316 = .ok (.iconst 1, 1) := by decide +kernel
theorem dL_put_317 : decode cL_put 317 = .ok (.if_icmp .eq 6, 3) := by decide +kernel
theorem dL_put_320 : decode cL_put 320 = .ok (.bipush (-99), 2) := by decide +kernel
theorem dL_put_322 : decode cL_put 322 = .ok (.ireturn, 1) := by decide +kernel
theorem dL_put_323 : decode cL_put 323 = .ok (.iinc 10 1, 3) := by decide +kernel
theorem dL_put_326 : decode cL_put 326 = .ok (.goto (-213), 3) := by decide +kernel
theorem dL_put_329 : decode cL_put 329 = .ok (.iconst 0, 1) := by decide +kernel
theorem dL_put_330 : decode cL_put 330 = .ok (.istore 10, 2) := by decide +kernel
theorem dL_put_332 : decode cL_put 332 = .ok (.iload 10, 2) := by decide +kernel
theorem dL_put_334 : decode cL_put 334 = .ok (.aload 4, 2) := by decide +kernel
theorem dL_put_336 : decode cL_put 336 = .ok (.iconst 1, 1) := by decide +kernel
theorem dL_put_337 : decode cL_put 337 = .ok (.iaload, 1) := by decide +kernel
theorem dL_put_338 : decode cL_put 338 = .ok (.if_icmp .ge 171, 3) := by decide +kernel
theorem dL_put_341 : decode cL_put 341 = .ok (.aload_n 1, 1) := by decide +kernel
theorem dL_put_342 : decode cL_put 342 = .ok (.iload_n 2, 1) := by decide +kernel
theorem dL_put_343 : decode cL_put 343 = .ok (.iconst 3, 1) := by decide +kernel
theorem dL_put_344 : decode cL_put 344 = .ok (.iadd, 1) := by decide +kernel
theorem dL_put_345 : decode cL_put 345 = .ok (.invokestatic 9, 3) := by decide +kernel
theorem dL_put_348 : decode cL_put 348 = .ok (.iconst 3, 1) := by decide +kernel
theorem dL_put_349 : decode cL_put 349 = .ok (.iload 10, 2) := by decide +kernel
theorem dL_put_351 : decode cL_put 351 = .ok (.imul, 1) := by decide +kernel
theorem dL_put_352 : decode cL_put 352 = .ok (.ishr, 1) := by decide +kernel
theorem dL_put_353 : decode cL_put 353 = .ok (.istore 11, 2) := by decide +kernel
theorem dL_put_355 : decode cL_put 355 = .ok (.aload 4, 2) := by decide +kernel
theorem dL_put_357 : decode cL_put 357 = .ok (.bipush 22, 2) := by decide +kernel
theorem dL_put_359 : decode cL_put 359 = .ok (.iload 10, 2) := by decide +kernel
theorem dL_put_361 : decode cL_put 361 = .ok (.iadd, 1) := by decide +kernel
theorem dL_put_362 : decode cL_put 362 = .ok (.iload 11, 2) := by decide +kernel
theorem dL_put_364 : decode cL_put 364 = .ok (.iload 8, 2) := by decide +kernel
theorem dL_put_366 : decode cL_put 366 = .ok (.bipush 6, 2) := by decide +kernel
theorem dL_put_368 : decode cL_put 368 = .ok (.ishr, 1) := by decide +kernel
theorem dL_put_369 : decode cL_put 369 = .ok (.iconst 2, 1) := by decide +kernel
theorem dL_put_370 : decode cL_put 370 = .ok (.invokestatic 15, 3) := by decide +kernel
theorem dL_put_373 : decode cL_put 373 = .ok (.ifCond .ne 8, 3) := by decide +kernel
theorem dL_put_376 : decode cL_put 376 = .ok (.bipush 6, 2) := by decide +kernel
theorem dL_put_378 : decode cL_put 378 = .ok (.goto 4, 3) := by decide +kernel
theorem dL_put_381 : decode cL_put 381 = .ok (.iconst 3, 1) := by decide +kernel
theorem dL_put_382 : decode cL_put 382 = .ok (.invokestatic 15, 3) := by decide +kernel
theorem dL_put_385 : decode cL_put 385 = .ok (.iastore, 1) := by decide +kernel
theorem dL_put_386 : decode cL_put 386 = .ok (.aload 4, 2) := by decide +kernel
theorem dL_put_388 : decode cL_put 388 = .ok (.bipush 28, 2) := by decide +kernel
theorem dL_put_390 : decode cL_put 390 = .ok (.iload 10, 2) := by decide +kernel
theorem dL_put_392 : decode cL_put 392 = .ok (.iadd, 1) := by decide +kernel
theorem dL_put_393 : decode cL_put 393 = .ok (.iload 11, 2) := by decide +kernel
theorem dL_put_395 : decode cL_put 395 = .ok (.iconst 2, 1) := by decide +kernel
theorem dL_put_396 : decode cL_put 396 = .ok (.ishr, 1) := by decide +kernel
theorem dL_put_397 : decode cL_put 397 = .ok (.bipush 30, 2) := by decide +kernel
theorem dL_put_399 : decode cL_put 399 = .ok (.invokestatic 15, 3) := by decide +kernel
theorem dL_put_402 : decode cL_put 402 = .ok (.iastore, 1) := by decide +kernel
theorem dL_put_403 : decode cL_put 403 = .ok (.aload_n 0, 1) := by decide +kernel
theorem dL_put_404 : decode cL_put 404 = .ok (.iconst 0, 1) := by decide +kernel
theorem dL_put_405 : decode cL_put 405 = .ok (.iload 9, 2) := by decide +kernel
theorem dL_put_407 : decode cL_put 407 = .ok (.iinc 9 1, 3) := by decide +kernel
theorem dL_put_410 : decode cL_put 410 = .ok (.bipush 59, 2) := by decide +kernel
theorem dL_put_412 : decode cL_put 412 = .ok (.invokevirtual 25, 3) := by decide +kernel
theorem dL_put_415 : decode cL_put 415 = .ok (.iconst 1, 1) := by decide +kernel
theorem dL_put_416 : decode cL_put 416 = .ok (.if_icmp .ne 84, 3) := by decide +kernel
theorem dL_put_419 : decode cL_put 419 = .ok (.aload_n 0, 1) := by decide +kernel
theorem dL_put_420 : decode cL_put 420 = .ok (.iconst 0, 1) := by decide +kernel
theorem dL_put_421 : decode cL_put 421 = .ok (.iload 9, 2) := by decide +kernel
theorem dL_put_423 : decode cL_put 423 = .ok (.iinc 9 1, 3) := by decide +kernel
theorem dL_put_426 : decode cL_put 426 = .ok (.bipush 48, 2) := by decide +kernel
theorem dL_put_428 : decode cL_put 428 = .ok (.aload 4, 2) := by decide +kernel
theorem dL_put_430 : decode cL_put 430 = .ok (.bipush 22, 2) := by decide +kernel
theorem dL_put_432 : decode cL_put 432 = .ok (.iload 10, 2) := by decide +kernel
theorem dL_put_434 : decode cL_put 434 = .ok (.iadd, 1) := by decide +kernel
theorem dL_put_435 : decode cL_put 435 = .ok (.iaload, 1) := by decide +kernel
theorem dL_put_436 : decode cL_put 436 = .ok (.iadd, 1) := by decide +kernel
theorem dL_put_437 : decode cL_put 437 = .ok (.invokevirtual 25, 3) := by decide +kernel
theorem dL_put_440 : decode cL_put 440 = .ok (.iconst 1, 1) := by decide +kernel
theorem dL_put_441 : decode cL_put 441 = .ok (.if_icmp .ne 59, 3) := by decide +kernel
theorem dL_put_444 : decode cL_put 444 = .ok (.aload_n 0, 1) := by decide +kernel
theorem dL_put_445 : decode cL_put 445 = .ok (.iconst 0, 1) := by decide +kernel
theorem dL_put_446 : decode cL_put 446 = .ok (.iload 9, 2) := by decide +kernel
theorem dL_put_448 : decode cL_put 448 = .ok (.iinc 9 1, 3) := by decide +kernel
theorem dL_put_451 : decode cL_put 451 = .ok (.bipush 48, 2) := by decide +kernel
theorem dL_put_453 : decode cL_put 453 = .ok (.aload 4, 2) := by decide +kernel
theorem dL_put_455 : decode cL_put 455 = .ok (.bipush 28, 2) := by decide +kernel
theorem dL_put_457 : decode cL_put 457 = .ok (.iload 10, 2) := by decide +kernel
theorem dL_put_459 : decode cL_put 459 = .ok (.iadd, 1) := by decide +kernel
theorem dL_put_460 : decode cL_put 460 = .ok (.iaload, 1) := by decide +kernel
theorem dL_put_461 : decode cL_put 461 = .ok (.bipush 10, 2) := by decide +kernel
theorem dL_put_463 : decode cL_put 463 = .ok (.idiv, 1) := by decide +kernel
theorem dL_put_464 : decode cL_put 464 = .ok (.iadd, 1) := by decide +kernel
theorem dL_put_465 : decode cL_put 465 = .ok (.invokevirtual 25, 3) := by decide +kernel
theorem dL_put_468 : decode cL_put 468 = .ok (.iconst 1, 1) := by decide +kernel
theorem dL_put_469 : decode cL_put 469 = .ok (.if_icmp .ne 31, 3) := by decide +kernel
theorem dL_put_472 : decode cL_put 472 = .ok (.aload_n 0, 1) := by decide +kernel
theorem dL_put_473 : decode cL_put 473 = .ok (.iconst 0, 1) := by decide +kernel
theorem dL_put_474 : decode cL_put 474 = .ok (.iload 9, 2) := by decide +kernel
theorem dL_put_476 : decode cL_put 476 = .ok (.iinc 9 1, 3) := by decide +kernel
theorem dL_put_479 : decode cL_put 479 = .ok (.bipush 48, 2) := by decide +kernel
theorem dL_put_481 : decode cL_put 481 = .ok (.aload 4, 2) := by decide +kernel
theorem dL_put_483 : decode cL_put 483 = .ok (.bipush 28, 2) := by decide +kernel
theorem dL_put_485 : decode cL_put 485 = .ok (.iload 10, 2) := by decide +kernel
theorem dL_put_487 : decode cL_put 487 = .ok (.iadd, 1) := by decide +kernel
theorem dL_put_488 : decode cL_put 488 = .ok (.iaload, 1) := by decide +kernel
theorem dL_put_489 : decode cL_put 489 = .ok (.bipush 10, 2) := by decide +kernel
theorem dL_put_491 : decode cL_put 491 = .ok (.irem, 1) := by decide +kernel
theorem dL_put_492 : decode cL_put 492 = .ok (.iadd, 1) := by decide +kernel
theorem dL_put_493 : decode cL_put 493 = .ok (.invokevirtual 25, 3) := by decide +kernel
theorem dL_put_496 : decode cL_put 496 = .ok (.iconst 1, 1) := by decide +kernel
theorem dL_put_497 : decode cL_put 497 = .ok (.if_icmp .eq 6, 3) := by decide +kernel
theorem dL_put_500 : decode cL_put 500 = .ok (.bipush (-99), 2) := by decide +kernel
theorem dL_put_502 : decode cL_put 502 = .ok (.ireturn, 1) := by decide +kernel
theorem dL_put_503 : decode cL_put 503 = .ok (.iinc 10 1, 3) := by decide +kernel
theorem dL_put_506 : decode cL_put 506 = .ok (.goto (-174), 3) := by decide +kernel
theorem dL_put_509 : decode cL_put 509 = .ok (.iload 9, 2) := by decide +kernel
theorem dL_put_511 : decode cL_put 511 = .ok (.ireturn, 1) := by decide +kernel
theorem dL_change_0 : decode cL_change 0 = .ok (.iconst 0, 1) := by decide +kernel
theorem dL_change_1 : decode cL_change 1 = .ok (.istore 7, 2) := by decide +kernel
theorem dL_change_3 : decode cL_change 3 = .ok (.iload 7, 2) := by decide +kernel
theorem dL_change_5 : decode cL_change 5 = .ok (.bipush 6, 2) := by decide +kernel
theorem dL_change_7 : decode cL_change 7 = .ok (.if_icmp .ge 162, 3) := by decide +kernel
theorem dL_change_10 : decode cL_change 10 = .ok (.iload_n 1, 1) := by decide +kernel
theorem dL_change_11 : decode cL_change 11 = .ok (.iconst 3, 1) := by decide +kernel
theorem dL_change_12 : decode cL_change 12 = .ok (.iload 7, 2) := by decide +kernel
theorem dL_change_14 : decode cL_change 14 = .ok (.imul, 1) := by decide +kernel
theorem dL_change_15 : decode cL_change 15 = .ok (.ishr, 1) := by decide +kernel
theorem dL_change_16 : decode cL_change 16 = .ok (.iload 7, 2) := by decide +kernel
theorem dL_change_18 : decode cL_change 18 = .ok (.iconst 4, 1) := by decide +kernel
theorem dL_change_19 : decode cL_change 19 = .ok (.if_icmp .ge 8, 3) := by decide +kernel
theorem dL_change_22 : decode cL_change 22 = .ok (.bipush 8, 2) := by decide +kernel
theorem dL_change_24 : decode cL_change 24 = .ok (.goto 5, 3) := by decide +kernel
theorem dL_change_27 : decode cL_change 27 = .ok (.bipush 30, 2) := by decide +kernel
theorem dL_change_29 : decode cL_change 29 = .ok (.invokestatic 15, 3) := by decide +kernel
theorem dL_change_32 : decode cL_change 32 = .ok (.istore 8, 2) := by decide +kernel
theorem dL_change_34 : decode cL_change 34 = .ok (.iload_n 2, 1) := by decide +kernel
theorem dL_change_35 : decode cL_change 35 = .ok (.iconst 2, 1) := by decide +kernel
theorem dL_change_36 : decode cL_change 36 = .ok (.iload 7, 2) := by decide +kernel
theorem dL_change_38 : decode cL_change 38 = .ok (.imul, 1) := by decide +kernel
theorem dL_change_39 : decode cL_change 39 = .ok (.ishr, 1) := by decide +kernel
theorem dL_change_40 : decode cL_change 40 = .ok (.iload_n 1, 1) := by decide +kernel
theorem dL_change_41 : decode cL_change 41 = .ok (.bipush 19, 2) := by decide +kernel
theorem dL_change_43 : decode cL_change 43 = .ok (.ishr, 1) := by decide +kernel
theorem dL_change_44 : decode cL_change 44 = .ok (.iconst 2, 1) := by decide +kernel
theorem dL_change_45 : decode cL_change 45 = .ok (.invokestatic 15, 3) := by decide +kernel
theorem dL_change_48 : decode cL_change 48 = .ok (.ifCond .ne 8, 3) := by decide +kernel
theorem dL_change_51 : decode cL_change 51 = .ok (.bipush 10, 2) := by decide +kernel
theorem dL_change_53 : decode cL_change 53 = .ok (.goto 4, 3) := by decide +kernel
theorem dL_change_56 : decode cL_change 56 = .ok (.iconst 4, 1) := by decide +kernel
theorem dL_change_57 : decode cL_change 57 = .ok (.invokestatic 15, 3) := by decide +kernel
theorem dL_change_60 : decode cL_change 60 = .ok (.istore 9, 2) := by decide +kernel
theorem dL_change_62 : decode cL_change 62 = .ok (.aload_n 0, 1) := by decide +kernel
theorem dL_change_63 : decode cL_change 63 = .ok (.iload 8, 2) := by decide +kernel
theorem dL_change_65 : decode cL_change 65 = .ok (.iload 9, 2) := by decide +kernel
theorem dL_change_67 : decode cL_change 67 = .ok (.invokevirtual 28, 3) := by decide +kernel
theorem dL_change_70 : decode cL_change 70 = .ok (.aload 4, 2) := by decide +kernel
theorem dL_change_72 : decode cL_change 72 = .ok (.iload 8, 2) := by decide +kernel
theorem dL_change_74 : decode cL_change 74 = .ok (.iaload, 1) := by decide +kernel
theorem dL_change_75 : decode cL_change 75 = .ok (.if_icmp .eq 5, 3) := by decide +kernel
theorem dL_change_78 : decode cL_change 78 = .ok (.iconst 0, 1) := by decide +kernel
theorem dL_change_79 : decode cL_change 79 = .ok (.ireturn, 1) := by decide +kernel
theorem dL_change_80 : decode cL_change 80 = .ok (.aload 4, 2) := by decide +kernel
theorem dL_change_82 : decode cL_change 82 = .ok (.iload 8, 2) := by decide +kernel
theorem dL_change_84 : decode cL_change 84 = .ok (.iload 9, 2) := by decide +kernel
theorem dL_change_86 : decode cL_change 86 = .ok (.iastore, 1) := by decide +kernel
theorem dL_change_87 : decode cL_change 87 = .ok (.iload_n 2, 1) := by decide +kernel
theorem dL_change_88 : decode cL_change 88 = .ok (.iconst 3, 1) := by decide +kernel
theorem dL_change_89 : decode cL_change 89 = .ok (.iload 7, 2) := by decide +kernel
theorem dL_change_91 : decode cL_change 91 = .ok (.imul, 1) := by decide +kernel
theorem dL_change_92 : decode cL_change 92 = .ok (.ishr, 1) := by decide +kernel
theorem dL_change_93 : decode cL_change 93 = .ok (.iload 7, 2) := by decide +kernel
theorem dL_change_95 : decode cL_change 95 = .ok (.iconst 4, 1) := by decide +kernel
theorem dL_change_96 : decode cL_change 96 = .ok (.if_icmp .ge 8, 3) := by decide +kernel
theorem dL_change_99 : decode cL_change 99 = .ok (.bipush 8, 2) := by decide +kernel
theorem dL_change_101 : decode cL_change 101 = .ok (.goto 5, 3) := by decide +kernel
theorem dL_change_104 : decode cL_change 104 = .ok (.bipush 30, 2) := by decide +kernel
theorem dL_change_106 : decode cL_change 106 = .ok (.invokestatic 15, 3) := by decide +kernel
theorem dL_change_109 : decode cL_change 109 = .ok (.istore 8, 2) := by decide +kernel
theorem dL_change_111 : decode cL_change 111 = .ok (.iload_n 1, 1) := by decide +kernel
theorem dL_change_112 : decode cL_change 112 = .ok (.iconst 2, 1) := by decide +kernel
theorem dL_change_113 : decode cL_change 113 = .ok (.iload 7, 2) := by decide +kernel
theorem dL_change_115 : decode cL_change 115 = .ok (.imul, 1) := by decide +kernel
theorem dL_change_116 : decode cL_change 116 = .ok (.ishr, 1) := by decide +kernel
theorem dL_change_117 : decode cL_change 117 = .ok (.aload_n 3, 1) := by decide +kernel
theorem dL_change_118 : decode cL_change 118 = .ok (.iconst 0, 1) := by decide +kernel
theorem dL_change_119 : decode cL_change 119 = .ok (.iaload, 1) := by decide +kernel
theorem dL_change_120 : decode cL_change 120 = .ok (.iconst 1, 1) := by decide +kernel
theorem dL_change_121 : decode cL_change 121 = .ok (.iadd, 1) := by decide +kernel
theorem dL_change_122 : decode cL_change 122 = .ok (.invokestatic 15, 3) := by decide +kernel
theorem dL_change_125 : decode cL_change 125 = .ok (.iconst 1, 1) := by decide +kernel
theorem dL_change_126 : decode cL_change 126 = .ok (.isub, 1) := by decide +kernel
theorem dL_change_127 : decode cL_change 127 = .ok (.istore 10, 2) := by decide +kernel
theorem dL_change_129 : decode cL_change 129 = .ok (.iload 10, 2) := by decide +kernel
theorem dL_change_131 : decode cL_change 131 = .ok (.ifCond .ge 7, 3) := by decide +kernel
theorem dL_change_134 : decode cL_change 134 = .ok (.bipush (-9), 2) := by decide +kernel
theorem dL_change_136 : decode cL_change 136 = .ok (.istore 10, 2) := by decide +kernel
theorem dL_change_138 : decode cL_change 138 = .ok (.aload_n 0, 1) := by decide +kernel
theorem dL_change_139 : decode cL_change 139 = .ok (.iload 8, 2) := by decide +kernel
theorem dL_change_141 : decode cL_change 141 = .ok (.iload 10, 2) := by decide +kernel
theorem dL_change_143 : decode cL_change 143 = .ok (.invokevirtual 31, 3) := by decide +kernel
theorem dL_change_146 : decode cL_change 146 = .ok (.aload 5, 2) := by decide +kernel
theorem dL_change_148 : decode cL_change 148 = .ok (.iload 8, 2) := by decide +kernel
theorem dL_change_150 : decode cL_change 150 = .ok (.iaload, 1) := by decide +kernel
theorem dL_change_151 : decode cL_change 151 = .ok (.if_icmp .eq 5, 3) := by decide +kernel
theorem dL_change_154 : decode cL_change 154 = .ok (.iconst 0, 1) := by decide +kernel
theorem dL_change_155 : decode cL_change 155 = .ok (.ireturn, 1) := by decide +kernel
theorem dL_change_156 : decode cL_change 156 = .ok (.aload 5, 2) := by decide +kernel
theorem dL_change_158 : decode cL_change 158 = .ok (.iload 8, 2) := by decide +kernel
theorem dL_change_160 : decode cL_change 160 = .ok (.iload 10, 2) := by decide +kernel
theorem dL_change_162 : decode cL_change 162 = .ok (.iastore, 1) := by decide +kernel
theorem dL_change_163 : decode cL_change 163 = .ok (.iinc 7 1, 3) := by decide +kernel
theorem dL_change_166 : decode cL_change 166 = .ok (.goto (-163), 3) := by decide +kernel
theorem dL_change_169 : decode cL_change 169 = .ok (.iload_n 1, 1) := by decide +kernel
theorem dL_change_170 : decode cL_change 170 = .ok (.bipush 7, 2) := by decide +kernel
theorem dL_change_172 : decode cL_change 172 = .ok (.ishr, 1) := by decide +kernel
theorem dL_change_173 : decode cL_change 173 = .ok (.bipush 30, 2) := by decide +kernel
theorem dL_change_175 : decode cL_change 175 = .ok (.invokestatic 15, 3) := by decide +kernel
theorem dL_change_178 : decode cL_change 178 = .ok (.istore 7, 2) := by decide +kernel
theorem dL_change_180 : decode cL_change 180 = .ok (.iload_n 2, 1) := by decide +kernel
theorem dL_change_181 : decode cL_change 181 = .ok (.bipush 8, 2) := by decide +kernel
theorem dL_change_183 : decode cL_change 183 = .ok (.ishr, 1) := by decide +kernel
theorem dL_change_184 : decode cL_change 184 = .ok (.iconst 3, 1) := by decide +kernel
theorem dL_change_185 : decode cL_change 185 = .ok (.invokestatic 15, 3) := by decide +kernel
theorem dL_change_188 : decode cL_change 188 = .ok (.ifCond .ne 7, 3) := by decide +kernel
theorem dL_change_191 : decode cL_change 191 = .ok (.iconst 1, 1) := by decide +kernel
theorem dL_change_192 : decode cL_change 192 = .ok (.goto 4, 3) := by decide +kernel
theorem dL_change_195 : decode cL_change 195 = .ok (.iconst 0, 1) := by decide +kernel
theorem dL_change_196 : decode cL_change 196 = .ok (.istore 8, 2) := by decide +kernel
theorem dL_change_198 : decode cL_change 198 = .ok (.aload_n 0, 1) := by decide +kernel
theorem dL_change_199 : decode cL_change 199 = .ok (.iload 7, 2) := by decide +kernel
theorem dL_change_201 : decode cL_change 201 = .ok (.iload 8, 2) := by decide +kernel
theorem dL_change_203 : decode cL_change 203 = .ok (.iconst 1, 1) := by decide +kernel
theorem dL_change_204 : decode cL_change 204 = .ok (.if_icmp .ne 7, 3) := by decide +kernel
theorem dL_change_207 : decode cL_change 207 = .ok (.iconst 1, 1) := by decide +kernel
theorem dL_change_208 : decode cL_change 208 = .ok (.goto 4, 3) := by decide +kernel
theorem dL_change_211 : decode cL_change 211 = .ok (.iconst 0, 1) := by decide +kernel
theorem dL_change_212 : decode cL_change 212 = .ok (.invokevirtual 34, 3) := by decide +kernel
theorem dL_change_215 : decode cL_change 215 = .ok (.aload 6, 2) := by decide +kernel
theorem dL_change_217 : decode cL_change 217 = .ok (.iload 7, 2) := by decide +kernel
theorem dL_change_219 : decode cL_change 219 = .ok (.iaload, 1) := by decide +kernel
theorem dL_change_220 : decode cL_change 220 = .ok (.iload 8, 2) := by decide +kernel
theorem dL_change_222 : decode cL_change 222 = .ok (.if_icmp .ne 7, 3) := by decide +kernel
theorem dL_change_225 : decode cL_change 225 = .ok (.iconst 0, 1) := by decide +kernel
theorem dL_change_226 : decode cL_change 226 = .ok (.goto 4, 3) := by decide +kernel
theorem dL_change_229 : decode cL_change 229 = .ok (.iconst 1, 1) := by decide +kernel
theorem dL_change_230 : decode cL_change 230 = .ok (.if_icmp .eq 5, 3) := by decide +kernel
theorem dL_change_233 : decode cL_change 233 = .ok (.iconst 0, 1) := by decide +kernel
theorem dL_change_234 : decode cL_change 234 = .ok (.ireturn, 1) := by decide +kernel
theorem dL_change_235 : decode cL_change 235 = .ok (.aload 6, 2) := by decide +kernel
theorem dL_change_237 : decode cL_change 237 = .ok (.iload 7, 2) := by decide +kernel
theorem dL_change_239 : decode cL_change 239 = .ok (.iload 8, 2) := by decide +kernel
theorem dL_change_241 : decode cL_change 241 = .ok (.iastore, 1) := by decide +kernel
theorem dL_change_242 : decode cL_change 242 = .ok (.aload_n 3, 1) := by decide +kernel
theorem dL_change_243 : decode cL_change 243 = .ok (.iconst 2, 1) := by decide +kernel
theorem dL_change_244 : decode cL_change 244 = .ok (.iaload, 1) := by decide +kernel
theorem dL_change_245 : decode cL_change 245 = .ok (.bipush 6, 2) := by decide +kernel
theorem dL_change_247 : decode cL_change 247 = .ok (.if_icmp .ne 18, 3) := by decide +kernel
theorem dL_change_250 : decode cL_change 250 = .ok (.aload_n 0, 1) := by decide +kernel
theorem dL_change_251 : decode cL_change 251 = .ok (.iconst 5, 1) := by decide +kernel
theorem dL_change_252 : decode cL_change 252 = .ok (.invokevirtual 38, 3) := by decide +kernel
theorem dL_change_255 : decode cL_change 255 = .ok (.iconst 1, 1) := by decide +kernel
theorem dL_change_256 : decode cL_change 256 = .ok (.if_icmp .eq 5, 3) := by decide +kernel
theorem dL_change_259 : decode cL_change 259 = .ok (.iconst 0, 1) := by decide +kernel
theorem dL_change_260 : decode cL_change 260 = .ok (.ireturn, 1) := by decide +kernel
theorem dL_change_261 : decode cL_change 261 = .ok (.aload_n 3, 1) := by decide +kernel
theorem dL_change_262 : decode cL_change 262 = .ok (.iconst 2, 1) := by decide +kernel
theorem dL_change_263 : decode cL_change 263 = .ok (.iconst 1, 1) := by decide +kernel
theorem dL_change_264 : decode cL_change 264 = .ok (.iastore, 1) := by decide +kernel
theorem dL_change_265 : decode cL_change 265 = .ok (.iload_n 2, 1) := by decide +kernel
theorem dL_change_266 : decode cL_change 266 = .ok (.bipush 10, 2) := by decide +kernel
theorem dL_change_268 : decode cL_change 268 = .ok (.ishr, 1) := by decide +kernel
theorem dL_change_269 : decode cL_change 269 = .ok (.bipush 12, 2) := by decide +kernel
theorem dL_change_271 : decode cL_change 271 = .ok (.invokestatic 15, 3) := by decide +kernel
theorem dL_change_274 : decode cL_change 274 = .ok (.istore 7, 2) := by decide +kernel
theorem dL_change_276 : decode cL_change 276 = .ok (.iload_n 1, 1) := by decide +kernel
theorem dL_change_277 : decode cL_change 277 = .ok (.bipush 12, 2) := by decide +kernel
theorem dL_change_279 : decode cL_change 279 = .ok (.ishr, 1) := by decide +kernel
theorem dL_change_280 : decode cL_change 280 = .ok (.aload_n 3, 1) := by decide +kernel
theorem dL_change_281 : decode cL_change 281 = .ok (.iconst 0, 1) := by decide +kernel
theorem dL_change_282 : decode cL_change 282 = .ok (.iaload, 1) := by decide +kernel
theorem dL_change_283 : decode cL_change 283 = .ok (.invokestatic 15, 3) := by decide +kernel
theorem dL_change_286 : decode cL_change 286 = .ok (.istore 9, 2) := by decide +kernel
theorem dL_change_288 : decode cL_change 288 = .ok (.aload_n 0, 1) := by decide +kernel
theorem dL_change_289 : decode cL_change 289 = .ok (.iload 7, 2) := by decide +kernel
theorem dL_change_291 : decode cL_change 291 = .ok (.iload 9, 2) := by decide +kernel
theorem dL_change_293 : decode cL_change 293 = .ok (.invokevirtual 42, 3) := by decide +kernel
theorem dL_change_296 : decode cL_change 296 = .ok (.aload_n 3, 1) := by decide +kernel
theorem dL_change_297 : decode cL_change 297 = .ok (.iconst 2, 1) := by decide +kernel
theorem dL_change_298 : decode cL_change 298 = .ok (.iaload, 1) := by decide +kernel
theorem dL_change_299 : decode cL_change 299 = .ok (.if_icmp .eq 5, 3) := by decide +kernel
theorem dL_change_302 : decode cL_change 302 = .ok (.iconst 0, 1) := by decide +kernel
theorem dL_change_303 : decode cL_change 303 = .ok (.ireturn, 1) := by decide +kernel
theorem dL_change_304 : decode cL_change 304 = .ok (.aload_n 3, 1) := by decide +kernel
theorem dL_change_305 : decode cL_change 305 = .ok (.bipush 34, 2) := by decide +kernel
theorem dL_change_307 : decode cL_change 307 = .ok (.iconst 2, 1) := by decide +kernel
theorem dL_change_308 : decode cL_change 308 = .ok (.aload_n 3, 1) := by decide +kernel
theorem dL_change_309 : decode cL_change 309 = .ok (.iconst 2, 1) := by decide +kernel
theorem dL_change_310 : decode cL_change 310 = .ok (.iaload, 1) := by decide +kernel
theorem dL_change_311 : decode cL_change 311 = .ok (.imul, 1) := by decide +kernel
theorem dL_change_312 : decode cL_change 312 = .ok (.iadd, 1) := by decide +kernel
theorem dL_change_313 : decode cL_change 313 = .ok (.iload 7, 2) := by decide +kernel
theorem dL_change_315 : decode cL_change 315 = .ok (.iastore, 1) := by decide +kernel
theorem dL_change_316 : decode cL_change 316 = .ok (.aload_n 3, 1) := by decide +kernel
theorem dL_change_317 : decode cL_change 317 = .ok (.bipush 35, 2) := by decide +kernel
theorem dL_change_319 : decode cL_change 319 = .ok (.iconst 2, 1) := by decide +kernel
theorem dL_change_320 : decode cL_change 320 = .ok (.aload_n 3, 1) := by decide +kernel
theorem dL_change_321 : decode cL_change 321 = .ok (.iconst 2, 1) := by decide +kernel
theorem dL_change_322 : decode cL_change 322 = .ok (.iaload, 1) := by decide +kernel
theorem dL_change_323 : decode cL_change 323 = .ok (.imul, 1) := by decide +kernel
theorem dL_change_324 : decode cL_change 324 = .ok (.iadd, 1) := by decide +kernel
theorem dL_change_325 : decode cL_change 325 = .ok (.iload 9, 2) := by decide +kernel
theorem dL_change_327 : decode cL_change 327 = .ok (.iastore, 1) := by decide +kernel
theorem dL_change_328 : decode cL_change 328 = .ok (.aload_n 3, 1) := by decide +kernel
theorem dL_change_329 : decode cL_change 329 = .ok (.iconst 2, 1) := by decide +kernel
theorem dL_change_330 : decode cL_change 330 = .ok (.dup2, 1) := by decide +kernel
theorem dL_change_331 : decode cL_change 331 = .ok (.iaload, 1) := by decide +kernel
theorem dL_change_332 : decode cL_change 332 = .ok (.iconst 1, 1) := by decide +kernel
theorem dL_change_333 : decode cL_change 333 = .ok (.iadd, 1) := by decide +kernel
theorem dL_change_334 : decode cL_change 334 = .ok (.iastore, 1) := by decide +kernel
theorem dL_change_335 : decode cL_change 335 = .ok (.iload_n 2, 1) := by decide +kernel
theorem dL_change_336 : decode cL_change 336 = .ok (.bipush 13, 2) := by decide +kernel
theorem dL_change_338 : decode cL_change 338 = .ok (.ishr, 1) := by decide +kernel
theorem dL_change_339 : decode cL_change 339 = .ok (.aload_n 3, 1) := by decide +kernel
theorem dL_change_340 : decode cL_change 340 = .ok (.iconst 0, 1) := by decide +kernel
theorem dL_change_341 : decode cL_change 341 = .ok (.iaload, 1) := by decide +kernel
theorem dL_change_342 : decode cL_change 342 = .ok (.invokestatic 15, 3) := by decide +kernel
theorem dL_change_345 : decode cL_change 345 = .ok (.istore 9, 2) := by decide +kernel
theorem dL_change_347 : decode cL_change 347 = .ok (.iload_n 1, 1) := by decide +kernel
theorem dL_change_348 : decode cL_change 348 = .ok (.bipush 15, 2) := by decide +kernel
theorem dL_change_350 : decode cL_change 350 = .ok (.ishr, 1) := by decide +kernel
theorem dL_change_351 : decode cL_change 351 = .ok (.iconst 4, 1) := by decide +kernel
theorem dL_change_352 : decode cL_change 352 = .ok (.invokestatic 15, 3) := by decide +kernel
theorem dL_change_355 : decode cL_change 355 = .ok (.ifCond .ne 7, 3) := by decide +kernel
theorem dL_change_358 : decode cL_change 358 = .ok (.iconst 1, 1) := by decide +kernel
theorem dL_change_359 : decode cL_change 359 = .ok (.goto 4, 3) := by decide +kernel
theorem dL_change_362 : decode cL_change 362 = .ok (.iconst 0, 1) := by decide +kernel
theorem dL_change_363 : decode cL_change 363 = .ok (.istore 10, 2) := by decide +kernel
theorem dL_change_365 : decode cL_change 365 = .ok (.aload_n 0, 1) := by decide +kernel
theorem dL_change_366 : decode cL_change 366 = .ok (.iload 9, 2) := by decide +kernel
theorem dL_change_368 : decode cL_change 368 = .ok (.iload 10, 2) := by decide +kernel
theorem dL_change_370 : decode cL_change 370 = .ok (.invokevirtual 45, 3) := by decide +kernel
theorem dL_change_373 : decode cL_change 373 = .ok (.aload_n 3, 1) := by decide +kernel
theorem dL_change_374 : decode cL_change 374 = .ok (.bipush 21, 2) := by decide +kernel
theorem dL_change_376 : decode cL_change 376 = .ok (.iaload, 1) := by decide +kernel
theorem dL_change_377 : decode cL_change 377 = .ok (.iload 9, 2) := by decide +kernel
theorem dL_change_379 : decode cL_change 379 = .ok (.ishr, 1) := by decide +kernel
theorem dL_change_380 : decode cL_change 380 = .ok (.iconst 1, 1) := by decide +kernel
theorem dL_change_381 : decode cL_change 381 = .ok (.iand, 1) := by decide +kernel
theorem dL_change_382 : decode cL_change 382 = .ok (.iconst 1, 1) := by decide +kernel
theorem dL_change_383 : decode cL_change 383 = .ok (.if_icmp .ne 7, 3) := by decide +kernel
theorem dL_change_386 : decode cL_change 386 = .ok (.iconst 1, 1) := by decide +kernel
theorem dL_change_387 : decode cL_change 387 = .ok (.goto 4, 3) := by decide +kernel
theorem dL_change_390 : decode cL_change 390 = .ok (.iconst 0, 1) := by decide +kernel
theorem dL_change_391 : decode cL_change 391 = .ok (.iload 10, 2) := by decide +kernel
theorem dL_change_393 : decode cL_change 393 = .ok (.if_icmp .ne 7, 3) := by decide +kernel
theorem dL_change_396 : decode cL_change 396 = .ok (.iconst 0, 1) := by decide +kernel
theorem dL_change_397 : decode cL_change 397 = .ok (.goto 4, 3) := by decide +kernel
theorem dL_change_400 : decode cL_change 400 = .ok (.iconst 1, 1) := by decide +kernel
theorem dL_change_401 : decode cL_change 401 = .ok (.if_icmp .eq 5, 3) := by decide +kernel
theorem dL_change_404 : decode cL_change 404 = .ok (.iconst 0, 1) := by decide +kernel
theorem dL_change_405 : decode cL_change 405 = .ok (.ireturn, 1) := by decide +kernel
theorem dL_change_406 : decode cL_change 406 = .ok (.aload_n 3, 1) := by decide +kernel
theorem dL_change_407 : decode cL_change 407 = .ok (.bipush 21, 2) := by decide +kernel
theorem dL_change_409 : decode cL_change 409 = .ok (.iload 10, 2) := by decide +kernel
theorem dL_change_411 : decode cL_change 411 = .ok (.ifCond .eq 15, 3) := by decide +kernel
theorem dL_change_414 : decode cL_change 414 = .ok (.aload_n 3, 1) := by decide +kernel
theorem dL_change_415 : decode cL_change 415 = .ok (.bipush 21, 2) := by decide +kernel
theorem dL_change_417 : decode cL_change 417 = .ok (.iaload, 1) := by decide +kernel
theorem dL_change_418 : decode cL_change 418 = .ok (.iconst 1, 1) := by decide +kernel
theorem dL_change_419 : decode cL_change 419 = .ok (.iload 9, 2) := by decide +kernel
theorem dL_change_421 : decode cL_change 421 = .ok (.ishl, 1) := by decide +kernel
theorem dL_change_422 : decode cL_change 422 = .ok (.ior, 1) := by decide +kernel
theorem dL_change_423 : decode cL_change 423 = .ok (.goto 14, 3) := by decide +kernel
theorem dL_change_426 : decode cL_change 426 = .ok (.aload_n 3, 1) := by decide +kernel
theorem dL_change_427 : decode cL_change 427 = .ok (.bipush 21, 2) := by decide +kernel
theorem dL_change_429 : decode cL_change 429 = .ok (.iaload, 1) := by decide +kernel
theorem dL_change_430 : decode cL_change 430 = .ok (.iconst 1, 1) := by decide +kernel
theorem dL_change_431 : decode cL_change 431 = .ok (.iload 9, 2) := by decide +kernel
theorem dL_change_433 : decode cL_change 433 = .ok (.ishl, 1) := by decide +kernel
theorem dL_change_434 : decode cL_change 434 = .ok (.iconst (-1), 1) := by decide +kernel
theorem dL_change_435 : decode cL_change 435 = .ok (.ixor, 1) := by decide +kernel
theorem dL_change_436 : decode cL_change 436 = .ok (.iand, 1) := by decide +kernel
theorem dL_change_437 : decode cL_change 437 = .ok (.iastore, 1) := by decide +kernel
theorem dL_change_438 : decode cL_change 438 = .ok (.iconst 1, 1) := by decide +kernel
theorem dL_change_439 : decode cL_change 439 = .ok (.ireturn, 1) := by decide +kernel
theorem dL_wants_0 : decode cL_wants 0 = .ok (.aload_n 0, 1) := by decide +kernel
theorem dL_wants_1 : decode cL_wants 1 = .ok (.bipush 15, 2) := by decide +kernel
theorem dL_wants_3 : decode cL_wants 3 = .ok (.iload_n 1, 1) := by decide +kernel
theorem dL_wants_4 : decode cL_wants 4 = .ok (.iadd, 1) := by decide +kernel
theorem dL_wants_5 : decode cL_wants 5 = .ok (.iaload, 1) := by decide +kernel
theorem dL_wants_6 : decode cL_wants 6 = .ok (.aload_n 0, 1) := by decide +kernel
theorem dL_wants_7 : decode cL_wants 7 = .ok (.iconst 3, 1) := by decide +kernel
theorem dL_wants_8 : decode cL_wants 8 = .ok (.iload_n 1, 1) := by decide +kernel
theorem dL_wants_9 : decode cL_wants 9 = .ok (.iadd, 1) := by decide +kernel
theorem dL_wants_10 : decode cL_wants 10 = .ok (.iaload, 1) := by decide +kernel
theorem dL_wants_11 : decode cL_wants 11 = .ok (.ifCond .le 7, 3) := by decide +kernel
theorem dL_wants_14 : decode cL_wants 14 = .ok (.iconst 1, 1) := by decide +kernel
theorem dL_wants_15 : decode cL_wants 15 = .ok (.goto 4, 3) := by decide +kernel
theorem dL_wants_18 : decode cL_wants 18 = .ok (.iconst 0, 1) := by decide +kernel
theorem dL_wants_19 : decode cL_wants 19 = .ok (.iadd, 1) := by decide +kernel
theorem dL_wants_20 : decode cL_wants 20 = .ok (.istore_n 2, 1) := by decide +kernel
theorem dL_wants_21 : decode cL_wants 21 = .ok (.aload_n 0, 1) := by decide +kernel
theorem dL_wants_22 : decode cL_wants 22 = .ok (.iconst 3, 1) := by decide +kernel
theorem dL_wants_23 : decode cL_wants 23 = .ok (.iload_n 1, 1) := by decide +kernel
theorem dL_wants_24 : decode cL_wants 24 = .ok (.iadd, 1) := by decide +kernel
theorem dL_wants_25 : decode cL_wants 25 = .ok (.iaload, 1) := by decide +kernel
theorem dL_wants_26 : decode cL_wants 26 = .ok (.iconst 2, 1) := by decide +kernel
theorem dL_wants_27 : decode cL_wants 27 = .ok (.if_icmp .ne 9, 3) := by decide +kernel
theorem dL_wants_30 : decode cL_wants 30 = .ok (.iload_n 2, 1) := by decide +kernel
theorem dL_wants_31 : decode cL_wants 31 = .ok (.iload_n 2, 1) := by decide +kernel
theorem dL_wants_32 : decode cL_wants 32 = .ok (.iadd, 1) := by decide +kernel
theorem dL_wants_33 : decode cL_wants 33 = .ok (.goto 4, 3) := by decide +kernel
theorem dL_wants_36 : decode cL_wants 36 = .ok (.iload_n 2, 1) := by decide +kernel
theorem dL_wants_37 : decode cL_wants 37 = .ok (.ireturn, 1) := by decide +kernel
theorem dL_opens_0 : decode cL_opens 0 = .ok (.aload_n 0, 1) := by decide +kernel
theorem dL_opens_1 : decode cL_opens 1 = .ok (.iconst 3, 1) := by decide +kernel
theorem dL_opens_2 : decode cL_opens 2 = .ok (.iload_n 1, 1) := by decide +kernel
theorem dL_opens_3 : decode cL_opens 3 = .ok (.iadd, 1) := by decide +kernel
theorem dL_opens_4 : decode cL_opens 4 = .ok (.iaload, 1) := by decide +kernel
theorem dL_opens_5 : decode cL_opens 5 = .ok (.iconst 2, 1) := by decide +kernel
theorem dL_opens_6 : decode cL_opens 6 = .ok (.if_icmp .eq 37, 3) := by decide +kernel
theorem dL_opens_9 : decode cL_opens 9 = .ok (.aload_n 0, 1) := by decide +kernel
theorem dL_opens_10 : decode cL_opens 10 = .ok (.bipush 9, 2) := by decide +kernel
theorem dL_opens_12 : decode cL_opens 12 = .ok (.iload_n 1, 1) := by decide +kernel
theorem dL_opens_13 : decode cL_opens 13 = .ok (.iadd, 1) := by decide +kernel
theorem dL_opens_14 : decode cL_opens 14 = .ok (.iaload, 1) := by decide +kernel
theorem dL_opens_15 : decode cL_opens 15 = .ok (.iload_n 2, 1) := by decide +kernel
theorem dL_opens_16 : decode cL_opens 16 = .ok (.if_icmp .eq 27, 3) := by decide +kernel
theorem dL_opens_19 : decode cL_opens 19 = .ok (.aload_n 0, 1) := by decide +kernel
theorem dL_opens_20 : decode cL_opens 20 = .ok (.iconst 3, 1) := by decide +kernel
theorem dL_opens_21 : decode cL_opens 21 = .ok (.iload_n 1, 1) := by decide +kernel
theorem dL_opens_22 : decode cL_opens 22 = .ok (.iadd, 1) := by decide +kernel
theorem dL_opens_23 : decode cL_opens 23 = .ok (.iaload, 1) := by decide +kernel
theorem dL_opens_24 : decode cL_opens 24 = .ok (.iconst 1, 1) := by decide +kernel
theorem dL_opens_25 : decode cL_opens 25 = .ok (.if_icmp .ne 22, 3) := by decide +kernel
theorem dL_opens_28 : decode cL_opens 28 = .ok (.aload_n 0, 1) := by decide +kernel
theorem dL_opens_29 : decode cL_opens 29 = .ok (.bipush 9, 2) := by decide +kernel
theorem dL_opens_31 : decode cL_opens 31 = .ok (.iload_n 1, 1) := by decide +kernel
theorem dL_opens_32 : decode cL_opens 32 = .ok (.iadd, 1) := by decide +kernel
theorem dL_opens_33 : decode cL_opens 33 = .ok (.iaload, 1) := by decide +kernel
theorem dL_opens_34 : decode cL_opens 34 = .ok (.iconst 1, 1) := by decide +kernel
theorem dL_opens_35 : decode cL_opens 35 = .ok (.iadd, 1) := by decide +kernel
theorem dL_opens_36 : decode cL_opens 36 = .ok (.bipush 6, 2) := by decide +kernel
theorem dL_opens_38 : decode cL_opens 38 = .ok (.irem, 1) := by decide +kernel
theorem dL_opens_39 : decode cL_opens 39 = .ok (.iload_n 2, 1) := by decide +kernel
theorem dL_opens_40 : decode cL_opens 40 = .ok (.if_icmp .ne 7, 3) := by decide +kernel
theorem dL_opens_43 : decode cL_opens 43 = .ok (.iconst 1, 1) := by decide +kernel
theorem dL_opens_44 : decode cL_opens 44 = .ok (.goto 4, 3) := by decide +kernel
theorem dL_opens_47 : decode cL_opens 47 = .ok (.iconst 0, 1) := by decide +kernel
theorem dL_opens_48 : decode cL_opens 48 = .ok (.ireturn, 1) := by decide +kernel
theorem dL_go_0 : decode cL_go 0 = .ok (.iconst 0, 1) := by decide +kernel
theorem dL_go_1 : decode cL_go 1 = .ok (.istore 6, 2) := by decide +kernel
theorem dL_go_3 : decode cL_go 3 = .ok (.iload 6, 2) := by decide +kernel
theorem dL_go_5 : decode cL_go 5 = .ok (.bipush 18, 2) := by decide +kernel
theorem dL_go_7 : decode cL_go 7 = .ok (.if_icmp .ge 27, 3) := by decide +kernel
theorem dL_go_10 : decode cL_go 10 = .ok (.aload 5, 2) := by decide +kernel
theorem dL_go_12 : decode cL_go 12 = .ok (.iload 6, 2) := by decide +kernel
theorem dL_go_14 : decode cL_go 14 = .ok (.iload 6, 2) := by decide +kernel
theorem dL_go_16 : decode cL_go 16 = .ok (.bipush 6, 2) := by decide +kernel
theorem dL_go_18 : decode cL_go 18 = .ok (.if_icmp .ge 7, 3) := by decide +kernel
theorem dL_go_21 : decode cL_go 21 = .ok (.iconst 0, 1) := by decide +kernel
theorem dL_go_22 : decode cL_go 22 = .ok (.goto 5, 3) := by decide +kernel
theorem dL_go_25 : decode cL_go 25 = .ok (.bipush (-9), 2) := by decide +kernel
theorem dL_go_27 : decode cL_go 27 = .ok (.iastore, 1) := by decide +kernel
theorem dL_go_28 : decode cL_go 28 = .ok (.iinc 6 1, 3) := by decide +kernel
theorem dL_go_31 : decode cL_go 31 = .ok (.goto (-28), 3) := by decide +kernel
theorem dL_go_34 : decode cL_go 34 = .ok (.iconst 0, 1) := by decide +kernel
theorem dL_go_35 : decode cL_go 35 = .ok (.istore 6, 2) := by decide +kernel
theorem dL_go_37 : decode cL_go 37 = .ok (.iload 6, 2) := by decide +kernel
theorem dL_go_39 : decode cL_go 39 = .ok (.iload 4, 2) := by decide +kernel
theorem dL_go_41 : decode cL_go 41 = .ok (.if_icmp .gt 305, 3) := by decide +kernel
theorem dL_go_44 : decode cL_go 44 = .ok (.iconst 0, 1) := by decide +kernel
theorem dL_go_45 : decode cL_go 45 = .ok (.istore 7, 2) := by decide +kernel
theorem dL_go_47 : decode cL_go 47 = .ok (.iload 7, 2) := by decide +kernel
theorem dL_go_49 : decode cL_go 49 = .ok (.aload_n 0, 1) := by decide +kernel
theorem dL_go_50 : decode cL_go 50 = .ok (.iconst 0, 1) := by decide +kernel
theorem dL_go_51 : decode cL_go 51 = .ok (.iaload, 1) := by decide +kernel
theorem dL_go_52 : decode cL_go 52 = .ok (.if_icmp .ge 43, 3) := by decide +kernel
theorem dL_go_55 : decode cL_go 55 = .ok (.aload_n 3, 1) := by decide +kernel
theorem dL_go_56 : decode cL_go 56 = .ok (.iload 6, 2) := by decide +kernel
theorem dL_go_58 : decode cL_go 58 = .ok (.iaload, 1) := by decide +kernel
theorem dL_go_59 : decode cL_go 59 = .ok (.ifCond .ne 30, 3) := by decide +kernel
theorem dL_go_62 : decode cL_go 62 = .ok (.aload 5, 2) := by decide +kernel
theorem dL_go_64 : decode cL_go 64 = .ok (.iload 7, 2) := by decide +kernel
theorem dL_go_66 : decode cL_go 66 = .ok (.dup2, 1) := by decide +kernel
theorem dL_go_67 : decode cL_go 67 = .ok (.iaload, 1) := by decide +kernel
theorem dL_go_68 : decode cL_go 68 = .ok (.aload_n 1, 1) := by decide +kernel
theorem dL_go_69 : decode cL_go 69 = .ok (.iload 6, 2) := by decide +kernel
theorem dL_go_71 : decode cL_go 71 = .ok (.iaload, 1) := by decide +kernel
theorem dL_go_72 : decode cL_go 72 = .ok (.aload_n 2, 1) := by decide +kernel
theorem dL_go_73 : decode cL_go 73 = .ok (.iload 6, 2) := by decide +kernel
theorem dL_go_75 : decode cL_go 75 = .ok (.iaload, 1) := by decide +kernel
theorem dL_go_76 : decode cL_go 76 = .ok (.iload 7, 2) := by decide +kernel
theorem dL_go_78 : decode cL_go 78 = .ok (.if_icmp .ne 7, 3) := by decide +kernel
theorem dL_go_81 : decode cL_go 81 = .ok (.iconst 3, 1) := by decide +kernel
theorem dL_go_82 : decode cL_go 82 = .ok (.goto 4, 3) := by decide +kernel
theorem dL_go_85 : decode cL_go 85 = .ok (.iconst 0, 1) := by decide +kernel
theorem dL_go_86 : decode cL_go 86 = .ok (.iadd, 1) := by decide +kernel
theorem dL_go_87 : decode cL_go 87 = .ok (.iadd, 1) := by decide +kernel
theorem dL_go_88 : decode cL_go 88 = .ok (.iastore, 1) := by decide +kernel
theorem dL_go_89 : decode cL_go 89 = .ok (.iinc 7 1, 3) := by decide +kernel
theorem dL_go_92 : decode cL_go 92 = .ok (.goto (-45), 3) := by decide +kernel
theorem dL_go_95 : decode cL_go 95 = .ok (.iconst 0, 1) := by decide +kernel
theorem dL_go_96 : decode cL_go 96 = .ok (.istore 7, 2) := by decide +kernel
theorem dL_go_98 : decode cL_go 98 = .ok (.iload 7, 2) := by decide +kernel
theorem dL_go_100 : decode cL_go 100 = .ok (.aload_n 0, 1) := by decide +kernel
theorem dL_go_101 : decode cL_go 101 = .ok (.iconst 2, 1) := by decide +kernel
theorem dL_go_102 : decode cL_go 102 = .ok (.iaload, 1) := by decide +kernel
theorem dL_go_103 : decode cL_go 103 = .ok (.if_icmp .ge 64, 3) := by decide +kernel
theorem dL_go_106 : decode cL_go 106 = .ok (.aload_n 0, 1) := by decide +kernel
theorem dL_go_107 : decode cL_go 107 = .ok (.bipush 34, 2) := by decide +kernel
theorem dL_go_109 : decode cL_go 109 = .ok (.iconst 2, 1) := by decide +kernel
theorem dL_go_110 : decode cL_go 110 = .ok (.iload 7, 2) := by decide +kernel
theorem dL_go_112 : decode cL_go 112 = .ok (.imul, 1) := by decide +kernel
theorem dL_go_113 : decode cL_go 113 = .ok (.iadd, 1) := by decide +kernel
theorem dL_go_114 : decode cL_go 114 = .ok (.iaload, 1) := by decide +kernel
theorem dL_go_115 : decode cL_go 115 = .ok (.iload 6, 2) := by decide +kernel
theorem dL_go_117 : decode cL_go 117 = .ok (.if_icmp .ne 44, 3) := by decide +kernel
theorem dL_go_120 : decode cL_go 120 = .ok (.aload 5, 2) := by decide +kernel
theorem dL_go_122 : decode cL_go 122 = .ok (.aload_n 0, 1) := by decide +kernel
theorem dL_go_123 : decode cL_go 123 = .ok (.bipush 35, 2) := by decide +kernel
theorem dL_go_125 : decode cL_go 125 = .ok (.iconst 2, 1) := by decide +kernel
theorem dL_go_126 : decode cL_go 126 = .ok (.iload 7, 2) := by decide +kernel
theorem dL_go_128 : decode cL_go 128 = .ok (.imul, 1) := by decide +kernel
theorem dL_go_129 : decode cL_go 129 = .ok (.iadd, 1) := by decide +kernel
theorem dL_go_130 : decode cL_go 130 = .ok (.iaload, 1) := by decide +kernel
theorem dL_go_131 : decode cL_go 131 = .ok (.iaload, 1) := by decide +kernel
theorem dL_go_132 : decode cL_go 132 = .ok (.aload_n 0, 1) := by decide +kernel
theorem dL_go_133 : decode cL_go 133 = .ok (.aload_n 0, 1) := by decide +kernel
theorem dL_go_134 : decode cL_go 134 = .ok (.bipush 35, 2) := by decide +kernel
theorem dL_go_136 : decode cL_go 136 = .ok (.iconst 2, 1) := by decide +kernel
theorem dL_go_137 : decode cL_go 137 = .ok (.iload 7, 2) := by decide +kernel
theorem dL_go_139 : decode cL_go 139 = .ok (.imul, 1) := by decide +kernel
theorem dL_go_140 : decode cL_go 140 = .ok (.iadd, 1) := by decide +kernel
theorem dL_go_141 : decode cL_go 141 = .ok (.iaload, 1) := by decide +kernel
theorem dL_go_142 : decode cL_go 142 = .ok (.invokestatic 48, 3) := by decide +kernel
theorem dL_go_145 : decode cL_go 145 = .ok (.if_icmp .lt 16, 3) := by decide +kernel
theorem dL_go_148 : decode cL_go 148 = .ok (.aload 5, 2) := by decide +kernel
theorem dL_go_150 : decode cL_go 150 = .ok (.aload_n 0, 1) := by decide +kernel
theorem dL_go_151 : decode cL_go 151 = .ok (.bipush 35, 2) := by decide +kernel
theorem dL_go_153 : decode cL_go 153 = .ok (.iconst 2, 1) := by decide +kernel
theorem dL_go_154 : decode cL_go 154 = .ok (.iload 7, 2) := by decide +kernel
theorem dL_go_156 : decode cL_go 156 = .ok (.imul, 1) := by decide +kernel
theorem dL_go_157 : decode cL_go 157 = .ok (.iadd, 1) := by decide +kernel
theorem dL_go_158 : decode cL_go 158 = .ok (.iaload, 1) := by decide +kernel
theorem dL_go_159 : decode cL_go 159 = .ok (.iconst 0, 1) := by decide +kernel
theorem dL_go_160 : decode cL_go 160 = .ok (.iastore, 1) := by decide +kernel
theorem dL_go_161 : decode cL_go 161 = .ok (.iinc 7 1, 3) := by decide +kernel
theorem dL_go_164 : decode cL_go 164 = .ok (.goto (-66), 3) := by decide +kernel
theorem dL_go_167 : decode cL_go 167 = .ok (.iconst 0, 1) := by decide +kernel
theorem dL_go_168 : decode cL_go 168 = .ok (.istore 7, 2) := by decide +kernel
theorem dL_go_170 : decode cL_go 170 = .ok (.iload 7, 2) := by decide +kernel
theorem dL_go_172 : decode cL_go 172 = .ok (.aload_n 0, 1) := by decide +kernel
theorem dL_go_173 : decode cL_go 173 = .ok (.iconst 0, 1) := by decide +kernel
theorem dL_go_174 : decode cL_go 174 = .ok (.iaload, 1) := by decide +kernel
theorem dL_go_175 : decode cL_go 175 = .ok (.if_icmp .ge 115, 3) := by decide +kernel
theorem dL_go_178 : decode cL_go 178 = .ok (.aload_n 0, 1) := by decide +kernel
theorem dL_go_179 : decode cL_go 179 = .ok (.bipush 21, 2) := by decide +kernel
theorem dL_go_181 : decode cL_go 181 = .ok (.iaload, 1) := by decide +kernel
theorem dL_go_182 : decode cL_go 182 = .ok (.iload 7, 2) := by decide +kernel
theorem dL_go_184 : decode cL_go 184 = .ok (.ishr, 1) := by decide +kernel
theorem dL_go_185 : decode cL_go 185 = .ok (.iconst 1, 1) := by decide +kernel
theorem dL_go_186 : decode cL_go 186 = .ok (.iand, 1) := by decide +kernel
theorem dL_go_187 : decode cL_go 187 = .ok (.iconst 1, 1) := by decide +kernel
theorem dL_go_188 : decode cL_go 188 = .ok (.if_icmp .eq 96, 3) := by decide +kernel
theorem dL_go_191 : decode cL_go 191 = .ok (.aload 5, 2) := by decide +kernel
theorem dL_go_193 : decode cL_go 193 = .ok (.iload 7, 2) := by decide +kernel
theorem dL_go_195 : decode cL_go 195 = .ok (.iaload, 1) := by decide +kernel
theorem dL_go_196 : decode cL_go 196 = .ok (.aload_n 0, 1) := by decide +kernel
theorem dL_go_197 : decode cL_go 197 = .ok (.iload 7, 2) := by decide +kernel
theorem dL_go_199 : decode cL_go 199 = .ok (.invokestatic 48, 3) := by decide +kernel
theorem dL_go_202 : decode cL_go 202 = .ok (.if_icmp .ge 6, 3) := by decide +kernel
theorem dL_go_205 : decode cL_go 205 = .ok (.goto 79, 3) := by decide +kernel
theorem dL_go_208 : decode cL_go 208 = .ok (.iconst 0, 1) := by decide +kernel
theorem dL_go_209 : decode cL_go 209 = .ok (.istore 8, 2) := by decide +kernel
theorem dL_go_211 : decode cL_go 211 = .ok (.iload 8, 2) := by decide +kernel
theorem dL_go_213 : decode cL_go 213 = .ok (.aload_n 0, 1) := by decide +kernel
theorem dL_go_214 : decode cL_go 214 = .ok (.iconst 1, 1) := by decide +kernel
theorem dL_go_215 : decode cL_go 215 = .ok (.iaload, 1) := by decide +kernel
theorem dL_go_216 : decode cL_go 216 = .ok (.if_icmp .ge 68, 3) := by decide +kernel
theorem dL_go_219 : decode cL_go 219 = .ok (.aload 5, 2) := by decide +kernel
theorem dL_go_221 : decode cL_go 221 = .ok (.bipush 6, 2) := by decide +kernel
theorem dL_go_223 : decode cL_go 223 = .ok (.iload 8, 2) := by decide +kernel
theorem dL_go_225 : decode cL_go 225 = .ok (.iadd, 1) := by decide +kernel
theorem dL_go_226 : decode cL_go 226 = .ok (.iaload, 1) := by decide +kernel
theorem dL_go_227 : decode cL_go 227 = .ok (.ifCond .ge 51, 3) := by decide +kernel
theorem dL_go_230 : decode cL_go 230 = .ok (.aload_n 0, 1) := by decide +kernel
theorem dL_go_231 : decode cL_go 231 = .ok (.iload 7, 2) := by decide +kernel
theorem dL_go_233 : decode cL_go 233 = .ok (.aload_n 0, 1) := by decide +kernel
theorem dL_go_234 : decode cL_go 234 = .ok (.bipush 22, 2) := by decide +kernel
theorem dL_go_236 : decode cL_go 236 = .ok (.iload 8, 2) := by decide +kernel
theorem dL_go_238 : decode cL_go 238 = .ok (.iadd, 1) := by decide +kernel
theorem dL_go_239 : decode cL_go 239 = .ok (.iaload, 1) := by decide +kernel
theorem dL_go_240 : decode cL_go 240 = .ok (.invokestatic 51, 3) := by decide +kernel
theorem dL_go_243 : decode cL_go 243 = .ok (.ifCond .ne 6, 3) := by decide +kernel
theorem dL_go_246 : decode cL_go 246 = .ok (.goto 32, 3) := by decide +kernel
theorem dL_go_249 : decode cL_go 249 = .ok (.aload 5, 2) := by decide +kernel
theorem dL_go_251 : decode cL_go 251 = .ok (.bipush 6, 2) := by decide +kernel
theorem dL_go_253 : decode cL_go 253 = .ok (.iload 8, 2) := by decide +kernel
theorem dL_go_255 : decode cL_go 255 = .ok (.iadd, 1) := by decide +kernel
theorem dL_go_256 : decode cL_go 256 = .ok (.iload 6, 2) := by decide +kernel
theorem dL_go_258 : decode cL_go 258 = .ok (.iastore, 1) := by decide +kernel
theorem dL_go_259 : decode cL_go 259 = .ok (.aload 5, 2) := by decide +kernel
theorem dL_go_261 : decode cL_go 261 = .ok (.bipush 12, 2) := by decide +kernel
theorem dL_go_263 : decode cL_go 263 = .ok (.iload 8, 2) := by decide +kernel
theorem dL_go_265 : decode cL_go 265 = .ok (.iadd, 1) := by decide +kernel
theorem dL_go_266 : decode cL_go 266 = .ok (.iload 7, 2) := by decide +kernel
theorem dL_go_268 : decode cL_go 268 = .ok (.iastore, 1) := by decide +kernel
theorem dL_go_269 : decode cL_go 269 = .ok (.aload 5, 2) := by decide +kernel
theorem dL_go_271 : decode cL_go 271 = .ok (.iload 7, 2) := by decide +kernel
theorem dL_go_273 : decode cL_go 273 = .ok (.iconst 0, 1) := by decide +kernel
theorem dL_go_274 : decode cL_go 274 = .ok (.iastore, 1) := by decide +kernel
theorem dL_go_275 : decode cL_go 275 = .ok (.goto 9, 3) := by decide +kernel
theorem dL_go_278 : decode cL_go 278 = .ok (.iinc 8 1, 3) := by decide +kernel
theorem dL_go_281 : decode cL_go 281 = .ok (.goto (-70), 3) := by decide +kernel
theorem dL_go_284 : decode cL_go 284 = .ok (.iinc 7 1, 3) := by decide +kernel
theorem dL_go_287 : decode cL_go 287 = .ok (.goto (-117), 3) := by decide +kernel
theorem dL_go_290 : decode cL_go 290 = .ok (.iconst 0, 1) := by decide +kernel
theorem dL_go_291 : decode cL_go 291 = .ok (.istore 7, 2) := by decide +kernel
theorem dL_go_293 : decode cL_go 293 = .ok (.iload 7, 2) := by decide +kernel
theorem dL_go_295 : decode cL_go 295 = .ok (.aload_n 0, 1) := by decide +kernel
theorem dL_go_296 : decode cL_go 296 = .ok (.iconst 1, 1) := by decide +kernel
theorem dL_go_297 : decode cL_go 297 = .ok (.iaload, 1) := by decide +kernel
theorem dL_go_298 : decode cL_go 298 = .ok (.if_icmp .ge 42, 3) := by decide +kernel
theorem dL_go_301 : decode cL_go 301 = .ok (.aload 5, 2) := by decide +kernel
theorem dL_go_303 : decode cL_go 303 = .ok (.bipush 6, 2) := by decide +kernel
theorem dL_go_305 : decode cL_go 305 = .ok (.iload 7, 2) := by decide +kernel
theorem dL_go_307 : decode cL_go 307 = .ok (.iadd, 1) := by decide +kernel
theorem dL_go_308 : decode cL_go 308 = .ok (.iaload, 1) := by decide +kernel
theorem dL_go_309 : decode cL_go 309 = .ok (.ifCond .ge 25, 3) := by decide +kernel
theorem dL_go_312 : decode cL_go 312 = .ok (.aload_n 0, 1) := by decide +kernel
theorem dL_go_313 : decode cL_go 313 = .ok (.bipush 28, 2) := by decide +kernel
theorem dL_go_315 : decode cL_go 315 = .ok (.iload 7, 2) := by decide +kernel
theorem dL_go_317 : decode cL_go 317 = .ok (.iadd, 1) := by decide +kernel
theorem dL_go_318 : decode cL_go 318 = .ok (.iaload, 1) := by decide +kernel
theorem dL_go_319 : decode cL_go 319 = .ok (.iload 6, 2) := by decide +kernel
theorem dL_go_321 : decode cL_go 321 = .ok (.if_icmp .ne 13, 3) := by decide +kernel
theorem dL_go_324 : decode cL_go 324 = .ok (.aload 5, 2) := by decide +kernel
theorem dL_go_326 : decode cL_go 326 = .ok (.bipush 6, 2) := by decide +kernel
theorem dL_go_328 : decode cL_go 328 = .ok (.iload 7, 2) := by decide +kernel
theorem dL_go_330 : decode cL_go 330 = .ok (.iadd, 1) := by decide +kernel
theorem dL_go_331 : decode cL_go 331 = .ok (.iload 6, 2) := by decide +kernel
theorem dL_go_333 : decode cL_go 333 = .ok (.iastore, 1) := by decide +kernel
theorem dL_go_334 : decode cL_go 334 = .ok (.iinc 7 1, 3) := by decide +kernel
theorem dL_go_337 : decode cL_go 337 = .ok (.goto (-44), 3) := by decide +kernel
theorem dL_go_340 : decode cL_go 340 = .ok (.iinc 6 1, 3) := by decide +kernel
theorem dL_go_343 : decode cL_go 343 = .ok (.goto (-306), 3) := by decide +kernel
theorem dL_go_346 : decode cL_go 346 = .ok (.return_, 1) := by decide +kernel
end
section
theorem dL_law_0 : decode cL_law 0 = .ok (.new 20, 3) := by decide +kernel
theorem dL_law_3 : decode cL_law 3 = .ok (.dup, 1) := by decide +kernel
theorem dL_law_4 : decode cL_law 4 = .ok (.invokespecial 55, 3) := by decide +kernel
theorem dL_law_7 : decode cL_law 7 = .ok (.astore_n 1, 1) := by decide +kernel
theorem dL_law_8 : decode cL_law 8 = .ok (.bipush 48, 2) := by decide +kernel
theorem dL_law_10 : decode cL_law 10 = .ok (.newarray .int, 2) := by decide +kernel
theorem dL_law_12 : decode cL_law 12 = .ok (.astore_n 2, 1) := by decide +kernel
theorem dL_law_13 : decode cL_law 13 = .ok (.bipush 30, 2) := by decide +kernel
theorem dL_law_15 : decode cL_law 15 = .ok (.newarray .int, 2) := by decide +kernel
theorem dL_law_17 : decode cL_law 17 = .ok (.astore_n 3, 1) := by decide +kernel
theorem dL_law_18 : decode cL_law 18 = .ok (.bipush 30, 2) := by decide +kernel
theorem dL_law_20 : decode cL_law 20 = .ok (.newarray .int, 2) := by decide +kernel
theorem dL_law_22 : decode cL_law 22 = .ok (.astore 4, 2) := by decide +kernel
theorem dL_law_24 : decode cL_law 24 = .ok (.bipush 30, 2) := by decide +kernel
theorem dL_law_26 : decode cL_law 26 = .ok (.newarray .int, 2) := by decide +kernel
theorem dL_law_28 : decode cL_law 28 = .ok (.astore 5, 2) := by decide +kernel
theorem dL_law_30 : decode cL_law 30 = .ok (.aload_n 1, 1) := by decide +kernel
theorem dL_law_31 : decode cL_law 31 = .ok (.aload_n 0, 1) := by decide +kernel
theorem dL_law_32 : decode cL_law 32 = .ok (.iconst 0, 1) := by decide +kernel
theorem dL_law_33 : decode cL_law 33 = .ok (.bipush 6, 2) := by decide +kernel
theorem dL_law_35 : decode cL_law 35 = .ok (.aload_n 2, 1) := by decide +kernel
theorem dL_law_36 : decode cL_law 36 = .ok (.aload_n 3, 1) := by decide +kernel
theorem dL_law_37 : decode cL_law 37 = .ok (.aload 4, 2) := by decide +kernel
theorem dL_law_39 : decode cL_law 39 = .ok (.aload 5, 2) := by decide +kernel
theorem dL_law_41 : decode cL_law 41 = .ok (.invokestatic 56, 3) := by decide +kernel
theorem dL_law_44 : decode cL_law 44 = .ok (.istore 6, 2) := by decide +kernel
theorem dL_law_46 : decode cL_law 46 = .ok (.iload 6, 2) := by decide +kernel
theorem dL_law_48 : decode cL_law 48 = .ok (.bipush 8, 2) := by decide +kernel
theorem dL_law_50 : decode cL_law 50 = .ok (.if_icmp .lt 18, 3) := by decide +kernel
theorem dL_law_53 : decode cL_law 53 = .ok (.aload_n 1, 1) := by decide +kernel
theorem dL_law_54 : decode cL_law 54 = .ok (.iconst 0, 1) := by decide +kernel
theorem dL_law_55 : decode cL_law 55 = .ok (.iconst 0, 1) := by decide +kernel
theorem dL_law_56 : decode cL_law 56 = .ok (.iconst 0, 1) := by decide +kernel
theorem dL_law_57 : decode cL_law 57 = .ok (.iload 6, 2) := by decide +kernel
theorem dL_law_59 : decode cL_law 59 = .ok (.invokevirtual 59, 3) := by decide +kernel
theorem dL_law_62 : decode cL_law 62 = .ok (.aload_n 2, 1) := by decide +kernel
theorem dL_law_63 : decode cL_law 63 = .ok (.iconst 0, 1) := by decide +kernel
theorem dL_law_64 : decode cL_law 64 = .ok (.iaload, 1) := by decide +kernel
theorem dL_law_65 : decode cL_law 65 = .ok (.if_icmp .eq 5, 3) := by decide +kernel
theorem dL_law_68 : decode cL_law 68 = .ok (.iconst 0, 1) := by decide +kernel
theorem dL_law_69 : decode cL_law 69 = .ok (.ireturn, 1) := by decide +kernel
theorem dL_law_70 : decode cL_law 70 = .ok (.bipush 18, 2) := by decide +kernel
theorem dL_law_72 : decode cL_law 72 = .ok (.newarray .int, 2) := by decide +kernel
theorem dL_law_74 : decode cL_law 74 = .ok (.astore 7, 2) := by decide +kernel
theorem dL_law_76 : decode cL_law 76 = .ok (.iconst 0, 1) := by decide +kernel
theorem dL_law_77 : decode cL_law 77 = .ok (.istore 8, 2) := by decide +kernel
theorem dL_law_79 : decode cL_law 79 = .ok (.iload 8, 2) := by decide +kernel
theorem dL_law_81 : decode cL_law 81 = .ok (.iconst 4, 1) := by decide +kernel
theorem dL_law_82 : decode cL_law 82 = .ok (.if_icmp .ge 546, 3) := by decide +kernel
theorem dL_law_85 : decode cL_law 85 = .ok (.aload_n 1, 1) := by decide +kernel
theorem dL_law_86 : decode cL_law 86 = .ok (.aload_n 0, 1) := by decide +kernel
theorem dL_law_87 : decode cL_law 87 = .ok (.iconst 4, 1) := by decide +kernel
theorem dL_law_88 : decode cL_law 88 = .ok (.iload 8, 2) := by decide +kernel
theorem dL_law_90 : decode cL_law 90 = .ok (.iadd, 1) := by decide +kernel
theorem dL_law_91 : decode cL_law 91 = .ok (.invokestatic 9, 3) := by decide +kernel
theorem dL_law_94 : decode cL_law 94 = .ok (.aload_n 0, 1) := by decide +kernel
theorem dL_law_95 : decode cL_law 95 = .ok (.bipush 8, 2) := by decide +kernel
theorem dL_law_97 : decode cL_law 97 = .ok (.iload 8, 2) := by decide +kernel
theorem dL_law_99 : decode cL_law 99 = .ok (.iadd, 1) := by decide +kernel
theorem dL_law_100 : decode cL_law 100 = .ok (.invokestatic 9, 3) := by decide +kernel
theorem dL_law_103 : decode cL_law 103 = .ok (.aload_n 2, 1) := by decide +kernel
theorem dL_law_104 : decode cL_law 104 = .ok (.aload_n 3, 1) := by decide +kernel
theorem dL_law_105 : decode cL_law 105 = .ok (.aload 4, 2) := by decide +kernel
theorem dL_law_107 : decode cL_law 107 = .ok (.aload 5, 2) := by decide +kernel
theorem dL_law_109 : decode cL_law 109 = .ok (.invokestatic 63, 3) := by decide +kernel
theorem dL_law_112 : decode cL_law 112 = .ok (.ifCond .ne 5, 3) := by decide +kernel
theorem dL_law_115 : decode cL_law 115 = .ok (.iconst 0, 1) := by decide +kernel
theorem dL_law_116 : decode cL_law 116 = .ok (.ireturn, 1) := by decide +kernel
theorem dL_law_117 : decode cL_law 117 = .ok (.iconst 0, 1) := by decide +kernel
theorem dL_law_118 : decode cL_law 118 = .ok (.istore 9, 2) := by decide +kernel
theorem dL_law_120 : decode cL_law 120 = .ok (.iload 9, 2) := by decide +kernel
theorem dL_law_122 : decode cL_law 122 = .ok (.aload_n 2, 1) := by decide +kernel
theorem dL_law_123 : decode cL_law 123 = .ok (.iconst 0, 1) := by decide +kernel
theorem dL_law_124 : decode cL_law 124 = .ok (.iaload, 1) := by decide +kernel
theorem dL_law_125 : decode cL_law 125 = .ok (.if_icmp .ge 147, 3) := by decide +kernel
theorem dL_law_128 : decode cL_law 128 = .ok (.iconst 0, 1) := by decide +kernel
theorem dL_law_129 : decode cL_law 129 = .ok (.istore 10, 2) := by decide +kernel
theorem dL_law_131 : decode cL_law 131 = .ok (.iconst 0, 1) := by decide +kernel
theorem dL_law_132 : decode cL_law 132 = .ok (.istore 11, 2) := by decide +kernel
theorem dL_law_134 : decode cL_law 134 = .ok (.iload 11, 2) := by decide +kernel
theorem dL_law_136 : decode cL_law 136 = .ok (.bipush 6, 2) := by decide +kernel
theorem dL_law_138 : decode cL_law 138 = .ok (.if_icmp .ge 29, 3) := by decide +kernel
theorem dL_law_141 : decode cL_law 141 = .ok (.aload_n 2, 1) := by decide +kernel
theorem dL_law_142 : decode cL_law 142 = .ok (.iload 9, 2) := by decide +kernel
theorem dL_law_144 : decode cL_law 144 = .ok (.iload 11, 2) := by decide +kernel
theorem dL_law_146 : decode cL_law 146 = .ok (.invokestatic 51, 3) := by decide +kernel
theorem dL_law_149 : decode cL_law 149 = .ok (.ifCond .eq 12, 3) := by decide +kernel
theorem dL_law_152 : decode cL_law 152 = .ok (.iload 10, 2) := by decide +kernel
theorem dL_law_154 : decode cL_law 154 = .ok (.iconst 1, 1) := by decide +kernel
theorem dL_law_155 : decode cL_law 155 = .ok (.iload 11, 2) := by decide +kernel
theorem dL_law_157 : decode cL_law 157 = .ok (.ishl, 1) := by decide +kernel
theorem dL_law_158 : decode cL_law 158 = .ok (.ior, 1) := by decide +kernel
theorem dL_law_159 : decode cL_law 159 = .ok (.istore 10, 2) := by decide +kernel
theorem dL_law_161 : decode cL_law 161 = .ok (.iinc 11 1, 3) := by decide +kernel
theorem dL_law_164 : decode cL_law 164 = .ok (.goto (-30), 3) := by decide +kernel
theorem dL_law_167 : decode cL_law 167 = .ok (.aload_n 1, 1) := by decide +kernel
theorem dL_law_168 : decode cL_law 168 = .ok (.iload 9, 2) := by decide +kernel
theorem dL_law_170 : decode cL_law 170 = .ok (.iconst 0, 1) := by decide +kernel
theorem dL_law_171 : decode cL_law 171 = .ok (.invokevirtual 67, 3) := by decide +kernel
theorem dL_law_174 : decode cL_law 174 = .ok (.aload_n 2, 1) := by decide +kernel
theorem dL_law_175 : decode cL_law 175 = .ok (.iconst 3, 1) := by decide +kernel
theorem dL_law_176 : decode cL_law 176 = .ok (.iload 9, 2) := by decide +kernel
theorem dL_law_178 : decode cL_law 178 = .ok (.iadd, 1) := by decide +kernel
theorem dL_law_179 : decode cL_law 179 = .ok (.iaload, 1) := by decide +kernel
theorem dL_law_180 : decode cL_law 180 = .ok (.if_icmp .ne 84, 3) := by decide +kernel
theorem dL_law_183 : decode cL_law 183 = .ok (.aload_n 1, 1) := by decide +kernel
theorem dL_law_184 : decode cL_law 184 = .ok (.iload 9, 2) := by decide +kernel
theorem dL_law_186 : decode cL_law 186 = .ok (.iconst 1, 1) := by decide +kernel
theorem dL_law_187 : decode cL_law 187 = .ok (.invokevirtual 67, 3) := by decide +kernel
theorem dL_law_190 : decode cL_law 190 = .ok (.aload_n 2, 1) := by decide +kernel
theorem dL_law_191 : decode cL_law 191 = .ok (.bipush 9, 2) := by decide +kernel
theorem dL_law_193 : decode cL_law 193 = .ok (.iload 9, 2) := by decide +kernel
theorem dL_law_195 : decode cL_law 195 = .ok (.iadd, 1) := by decide +kernel
theorem dL_law_196 : decode cL_law 196 = .ok (.iaload, 1) := by decide +kernel
theorem dL_law_197 : decode cL_law 197 = .ok (.if_icmp .ne 67, 3) := by decide +kernel
theorem dL_law_200 : decode cL_law 200 = .ok (.aload_n 1, 1) := by decide +kernel
theorem dL_law_201 : decode cL_law 201 = .ok (.iload 9, 2) := by decide +kernel
theorem dL_law_203 : decode cL_law 203 = .ok (.iconst 2, 1) := by decide +kernel
theorem dL_law_204 : decode cL_law 204 = .ok (.invokevirtual 67, 3) := by decide +kernel
theorem dL_law_207 : decode cL_law 207 = .ok (.aload_n 2, 1) := by decide +kernel
theorem dL_law_208 : decode cL_law 208 = .ok (.bipush 15, 2) := by decide +kernel
theorem dL_law_210 : decode cL_law 210 = .ok (.iload 9, 2) := by decide +kernel
theorem dL_law_212 : decode cL_law 212 = .ok (.iadd, 1) := by decide +kernel
theorem dL_law_213 : decode cL_law 213 = .ok (.iaload, 1) := by decide +kernel
theorem dL_law_214 : decode cL_law 214 = .ok (.if_icmp .ne 50, 3) := by decide +kernel
theorem dL_law_217 : decode cL_law 217 = .ok (.aload_n 1, 1) := by decide +kernel
theorem dL_law_218 : decode cL_law 218 = .ok (.iload 9, 2) := by decide +kernel
theorem dL_law_220 : decode cL_law 220 = .ok (.iconst 3, 1) := by decide +kernel
theorem dL_law_221 : decode cL_law 221 = .ok (.invokevirtual 67, 3) := by decide +kernel
theorem dL_law_224 : decode cL_law 224 = .ok (.aload_n 2, 1) := by decide +kernel
theorem dL_law_225 : decode cL_law 225 = .ok (.iload 9, 2) := by decide +kernel
theorem dL_law_227 : decode cL_law 227 = .ok (.invokestatic 48, 3) := by decide +kernel
theorem dL_law_230 : decode cL_law 230 = .ok (.if_icmp .ne 34, 3) := by decide +kernel
theorem dL_law_233 : decode cL_law 233 = .ok (.aload_n 1, 1) := by decide +kernel
theorem dL_law_234 : decode cL_law 234 = .ok (.iload 9, 2) := by decide +kernel
theorem dL_law_236 : decode cL_law 236 = .ok (.iconst 4, 1) := by decide +kernel
theorem dL_law_237 : decode cL_law 237 = .ok (.invokevirtual 67, 3) := by decide +kernel
theorem dL_law_240 : decode cL_law 240 = .ok (.iload 10, 2) := by decide +kernel
theorem dL_law_242 : decode cL_law 242 = .ok (.if_icmp .ne 22, 3) := by decide +kernel
theorem dL_law_245 : decode cL_law 245 = .ok (.aload_n 1, 1) := by decide +kernel
theorem dL_law_246 : decode cL_law 246 = .ok (.iload 9, 2) := by decide +kernel
theorem dL_law_248 : decode cL_law 248 = .ok (.iconst 5, 1) := by decide +kernel
theorem dL_law_249 : decode cL_law 249 = .ok (.invokevirtual 67, 3) := by decide +kernel
theorem dL_law_252 : decode cL_law 252 = .ok (.aload_n 2, 1) := by decide +kernel
theorem dL_law_253 : decode cL_law 253 = .ok (.bipush 21, 2) := by decide +kernel
theorem dL_law_255 : decode cL_law 255 = .ok (.iaload, 1) := by decide +kernel
theorem dL_law_256 : decode cL_law 256 = .ok (.iload 9, 2) := by decide +kernel
theorem dL_law_258 : decode cL_law 258 = .ok (.ishr, 1) := by decide +kernel
theorem dL_law_259 : decode cL_law 259 = .ok (.iconst 1, 1) := by decide +kernel
theorem dL_law_260 : decode cL_law 260 = .ok (.iand, 1) := by decide +kernel
theorem dL_law_261 : decode cL_law 261 = .ok (.if_icmp .eq 5, 3) := by decide +kernel
theorem dL_law_264 : decode cL_law 264 = .ok (.iconst 0, 1) := by decide +kernel
theorem dL_law_265 : decode cL_law 265 = .ok (.ireturn, 1) := by decide +kernel
theorem dL_law_266 : decode cL_law 266 = .ok (.iinc 9 1, 3) := by decide +kernel
theorem dL_law_269 : decode cL_law 269 = .ok (.goto (-149), 3) := by decide +kernel
theorem dL_law_272 : decode cL_law 272 = .ok (.iload 8, 2) := by decide +kernel
theorem dL_law_274 : decode cL_law 274 = .ok (.iconst 2, 1) := by decide +kernel
theorem dL_law_275 : decode cL_law 275 = .ok (.irem, 1) := by decide +kernel
theorem dL_law_276 : decode cL_law 276 = .ok (.istore 9, 2) := by decide +kernel
theorem dL_law_278 : decode cL_law 278 = .ok (.iload 9, 2) := by decide +kernel
theorem dL_law_280 : decode cL_law 280 = .ok (.bipush 30, 2) := by decide +kernel
theorem dL_law_282 : decode cL_law 282 = .ok (.if_icmp .ge 118, 3) := by decide +kernel
theorem dL_law_285 : decode cL_law 285 = .ok (.aload_n 2, 1) := by decide +kernel
theorem dL_law_286 : decode cL_law 286 = .ok (.aload_n 3, 1) := by decide +kernel
theorem dL_law_287 : decode cL_law 287 = .ok (.aload 4, 2) := by decide +kernel
theorem dL_law_289 : decode cL_law 289 = .ok (.aload 5, 2) := by decide +kernel
theorem dL_law_291 : decode cL_law 291 = .ok (.iload 9, 2) := by decide +kernel
theorem dL_law_293 : decode cL_law 293 = .ok (.aload 7, 2) := by decide +kernel
theorem dL_law_295 : decode cL_law 295 = .ok (.invokestatic 70, 3) := by decide +kernel
theorem dL_law_298 : decode cL_law 298 = .ok (.iconst 0, 1) := by decide +kernel
theorem dL_law_299 : decode cL_law 299 = .ok (.istore 10, 2) := by decide +kernel
theorem dL_law_301 : decode cL_law 301 = .ok (.iconst 0, 1) := by decide +kernel
theorem dL_law_302 : decode cL_law 302 = .ok (.istore 11, 2) := by decide +kernel
theorem dL_law_304 : decode cL_law 304 = .ok (.iload 11, 2) := by decide +kernel
theorem dL_law_306 : decode cL_law 306 = .ok (.aload_n 2, 1) := by decide +kernel
theorem dL_law_307 : decode cL_law 307 = .ok (.iconst 1, 1) := by decide +kernel
theorem dL_law_308 : decode cL_law 308 = .ok (.iaload, 1) := by decide +kernel
theorem dL_law_309 : decode cL_law 309 = .ok (.if_icmp .ge 29, 3) := by decide +kernel
theorem dL_law_312 : decode cL_law 312 = .ok (.aload 7, 2) := by decide +kernel
theorem dL_law_314 : decode cL_law 314 = .ok (.bipush 6, 2) := by decide +kernel
theorem dL_law_316 : decode cL_law 316 = .ok (.iload 11, 2) := by decide +kernel
theorem dL_law_318 : decode cL_law 318 = .ok (.iadd, 1) := by decide +kernel
theorem dL_law_319 : decode cL_law 319 = .ok (.iaload, 1) := by decide +kernel
theorem dL_law_320 : decode cL_law 320 = .ok (.ifCond .lt 12, 3) := by decide +kernel
theorem dL_law_323 : decode cL_law 323 = .ok (.iload 10, 2) := by decide +kernel
theorem dL_law_325 : decode cL_law 325 = .ok (.iconst 1, 1) := by decide +kernel
theorem dL_law_326 : decode cL_law 326 = .ok (.iload 11, 2) := by decide +kernel
theorem dL_law_328 : decode cL_law 328 = .ok (.ishl, 1) := by decide +kernel
theorem dL_law_329 : decode cL_law 329 = .ok (.ior, 1) := by decide +kernel
theorem dL_law_330 : decode cL_law 330 = .ok (.istore 10, 2) := by decide +kernel
theorem dL_law_332 : decode cL_law 332 = .ok (.iinc 11 1, 3) := by decide +kernel
theorem dL_law_335 : decode cL_law 335 = .ok (.goto (-31), 3) := by decide +kernel
theorem dL_law_338 : decode cL_law 338 = .ok (.aload_n 1, 1) := by decide +kernel
theorem dL_law_339 : decode cL_law 339 = .ok (.iload 9, 2) := by decide +kernel
theorem dL_law_341 : decode cL_law 341 = .ok (.invokevirtual 74, 3) := by decide +kernel
theorem dL_law_344 : decode cL_law 344 = .ok (.iload 10, 2) := by decide +kernel
theorem dL_law_346 : decode cL_law 346 = .ok (.if_icmp .eq 5, 3) := by decide +kernel
theorem dL_law_349 : decode cL_law 349 = .ok (.iconst 0, 1) := by decide +kernel
theorem dL_law_350 : decode cL_law 350 = .ok (.ireturn, 1) := by decide +kernel
theorem dL_law_351 : decode cL_law 351 = .ok (.iconst 0, 1) := by decide +kernel
theorem dL_law_352 : decode cL_law 352 = .ok (.istore 11, 2) := by decide +kernel
theorem dL_law_354 : decode cL_law 354 = .ok (.iload 11, 2) := by decide +kernel
theorem dL_law_356 : decode cL_law 356 = .ok (.aload_n 2, 1) := by decide +kernel
theorem dL_law_357 : decode cL_law 357 = .ok (.iconst 0, 1) := by decide +kernel
theorem dL_law_358 : decode cL_law 358 = .ok (.iaload, 1) := by decide +kernel
theorem dL_law_359 : decode cL_law 359 = .ok (.if_icmp .ge 27, 3) := by decide +kernel
theorem dL_law_362 : decode cL_law 362 = .ok (.aload_n 1, 1) := by decide +kernel
theorem dL_law_363 : decode cL_law 363 = .ok (.iload 11, 2) := by decide +kernel
theorem dL_law_365 : decode cL_law 365 = .ok (.iload 9, 2) := by decide +kernel
theorem dL_law_367 : decode cL_law 367 = .ok (.invokevirtual 77, 3) := by decide +kernel
theorem dL_law_370 : decode cL_law 370 = .ok (.aload 7, 2) := by decide +kernel
theorem dL_law_372 : decode cL_law 372 = .ok (.iload 11, 2) := by decide +kernel
theorem dL_law_374 : decode cL_law 374 = .ok (.iaload, 1) := by decide +kernel
theorem dL_law_375 : decode cL_law 375 = .ok (.if_icmp .eq 5, 3) := by decide +kernel
theorem dL_law_378 : decode cL_law 378 = .ok (.iconst 0, 1) := by decide +kernel
theorem dL_law_379 : decode cL_law 379 = .ok (.ireturn, 1) := by decide +kernel
theorem dL_law_380 : decode cL_law 380 = .ok (.iinc 11 1, 3) := by decide +kernel
theorem dL_law_383 : decode cL_law 383 = .ok (.goto (-29), 3) := by decide +kernel
theorem dL_law_386 : decode cL_law 386 = .ok (.iload 9, 2) := by decide +kernel
theorem dL_law_388 : decode cL_law 388 = .ok (.iconst 1, 1) := by decide +kernel
theorem dL_law_389 : decode cL_law 389 = .ok (.iload 9, 2) := by decide +kernel
theorem dL_law_391 : decode cL_law 391 = .ok (.iconst 5, 1) := by decide +kernel
theorem dL_law_392 : decode cL_law 392 = .ok (.idiv, 1) := by decide +kernel
theorem dL_law_393 : decode cL_law 393 = .ok (.iadd, 1) := by decide +kernel
theorem dL_law_394 : decode cL_law 394 = .ok (.iadd, 1) := by decide +kernel
theorem dL_law_395 : decode cL_law 395 = .ok (.istore 9, 2) := by decide +kernel
theorem dL_law_397 : decode cL_law 397 = .ok (.goto (-119), 3) := by decide +kernel
theorem dL_law_400 : decode cL_law 400 = .ok (.aload_n 2, 1) := by decide +kernel
theorem dL_law_401 : decode cL_law 401 = .ok (.aload_n 3, 1) := by decide +kernel
theorem dL_law_402 : decode cL_law 402 = .ok (.aload 4, 2) := by decide +kernel
theorem dL_law_404 : decode cL_law 404 = .ok (.aload 5, 2) := by decide +kernel
theorem dL_law_406 : decode cL_law 406 = .ok (.bipush 29, 2) := by decide +kernel
theorem dL_law_408 : decode cL_law 408 = .ok (.aload 7, 2) := by decide +kernel
theorem dL_law_410 : decode cL_law 410 = .ok (.invokestatic 70, 3) := by decide +kernel
theorem dL_law_413 : decode cL_law 413 = .ok (.iconst 0, 1) := by decide +kernel
theorem dL_law_414 : decode cL_law 414 = .ok (.istore 9, 2) := by decide +kernel
theorem dL_law_416 : decode cL_law 416 = .ok (.iconst 0, 1) := by decide +kernel
theorem dL_law_417 : decode cL_law 417 = .ok (.istore 10, 2) := by decide +kernel
theorem dL_law_419 : decode cL_law 419 = .ok (.iload 10, 2) := by decide +kernel
theorem dL_law_421 : decode cL_law 421 = .ok (.aload_n 2, 1) := by decide +kernel
theorem dL_law_422 : decode cL_law 422 = .ok (.iconst 1, 1) := by decide +kernel
theorem dL_law_423 : decode cL_law 423 = .ok (.iaload, 1) := by decide +kernel
theorem dL_law_424 : decode cL_law 424 = .ok (.if_icmp .ge 92, 3) := by decide +kernel
theorem dL_law_427 : decode cL_law 427 = .ok (.iload 9, 2) := by decide +kernel
theorem dL_law_429 : decode cL_law 429 = .ok (.aload 7, 2) := by decide +kernel
theorem dL_law_431 : decode cL_law 431 = .ok (.bipush 6, 2) := by decide +kernel
theorem dL_law_433 : decode cL_law 433 = .ok (.iload 10, 2) := by decide +kernel
theorem dL_law_435 : decode cL_law 435 = .ok (.iadd, 1) := by decide +kernel
theorem dL_law_436 : decode cL_law 436 = .ok (.iaload, 1) := by decide +kernel
theorem dL_law_437 : decode cL_law 437 = .ok (.iadd, 1) := by decide +kernel
theorem dL_law_438 : decode cL_law 438 = .ok (.istore 9, 2) := by decide +kernel
theorem dL_law_440 : decode cL_law 440 = .ok (.aload_n 1, 1) := by decide +kernel
theorem dL_law_441 : decode cL_law 441 = .ok (.iload 10, 2) := by decide +kernel
theorem dL_law_443 : decode cL_law 443 = .ok (.invokevirtual 80, 3) := by decide +kernel
theorem dL_law_446 : decode cL_law 446 = .ok (.aload 7, 2) := by decide +kernel
theorem dL_law_448 : decode cL_law 448 = .ok (.bipush 6, 2) := by decide +kernel
theorem dL_law_450 : decode cL_law 450 = .ok (.iload 10, 2) := by decide +kernel
theorem dL_law_452 : decode cL_law 452 = .ok (.iadd, 1) := by decide +kernel
theorem dL_law_453 : decode cL_law 453 = .ok (.iaload, 1) := by decide +kernel
theorem dL_law_454 : decode cL_law 454 = .ok (.if_icmp .ne 54, 3) := by decide +kernel
theorem dL_law_457 : decode cL_law 457 = .ok (.aload_n 1, 1) := by decide +kernel
theorem dL_law_458 : decode cL_law 458 = .ok (.iload 10, 2) := by decide +kernel
theorem dL_law_460 : decode cL_law 460 = .ok (.invokevirtual 83, 3) := by decide +kernel
theorem dL_law_463 : decode cL_law 463 = .ok (.aload 7, 2) := by decide +kernel
theorem dL_law_465 : decode cL_law 465 = .ok (.bipush 12, 2) := by decide +kernel
theorem dL_law_467 : decode cL_law 467 = .ok (.iload 10, 2) := by decide +kernel
theorem dL_law_469 : decode cL_law 469 = .ok (.iadd, 1) := by decide +kernel
theorem dL_law_470 : decode cL_law 470 = .ok (.iaload, 1) := by decide +kernel
theorem dL_law_471 : decode cL_law 471 = .ok (.if_icmp .ne 37, 3) := by decide +kernel
theorem dL_law_474 : decode cL_law 474 = .ok (.aload_n 1, 1) := by decide +kernel
theorem dL_law_475 : decode cL_law 475 = .ok (.iload 10, 2) := by decide +kernel
theorem dL_law_477 : decode cL_law 477 = .ok (.iconst 0, 1) := by decide +kernel
theorem dL_law_478 : decode cL_law 478 = .ok (.invokevirtual 86, 3) := by decide +kernel
theorem dL_law_481 : decode cL_law 481 = .ok (.aload_n 2, 1) := by decide +kernel
theorem dL_law_482 : decode cL_law 482 = .ok (.bipush 22, 2) := by decide +kernel
theorem dL_law_484 : decode cL_law 484 = .ok (.iload 10, 2) := by decide +kernel
theorem dL_law_486 : decode cL_law 486 = .ok (.iadd, 1) := by decide +kernel
theorem dL_law_487 : decode cL_law 487 = .ok (.iaload, 1) := by decide +kernel
theorem dL_law_488 : decode cL_law 488 = .ok (.if_icmp .ne 20, 3) := by decide +kernel
theorem dL_law_491 : decode cL_law 491 = .ok (.aload_n 1, 1) := by decide +kernel
theorem dL_law_492 : decode cL_law 492 = .ok (.iload 10, 2) := by decide +kernel
theorem dL_law_494 : decode cL_law 494 = .ok (.iconst 1, 1) := by decide +kernel
theorem dL_law_495 : decode cL_law 495 = .ok (.invokevirtual 86, 3) := by decide +kernel
theorem dL_law_498 : decode cL_law 498 = .ok (.aload_n 2, 1) := by decide +kernel
theorem dL_law_499 : decode cL_law 499 = .ok (.bipush 28, 2) := by decide +kernel
theorem dL_law_501 : decode cL_law 501 = .ok (.iload 10, 2) := by decide +kernel
theorem dL_law_503 : decode cL_law 503 = .ok (.iadd, 1) := by decide +kernel
theorem dL_law_504 : decode cL_law 504 = .ok (.iaload, 1) := by decide +kernel
theorem dL_law_505 : decode cL_law 505 = .ok (.if_icmp .eq 5, 3) := by decide +kernel
theorem dL_law_508 : decode cL_law 508 = .ok (.iconst 0, 1) := by decide +kernel
theorem dL_law_509 : decode cL_law 509 = .ok (.ireturn, 1) := by decide +kernel
theorem dL_law_510 : decode cL_law 510 = .ok (.iinc 10 1, 3) := by decide +kernel
theorem dL_law_513 : decode cL_law 513 = .ok (.goto (-94), 3) := by decide +kernel
theorem dL_law_516 : decode cL_law 516 = .ok (.iconst 0, 1) := by decide +kernel
theorem dL_law_517 : decode cL_law 517 = .ok (.istore 10, 2) := by decide +kernel
theorem dL_law_519 : decode cL_law 519 = .ok (.iload 10, 2) := by decide +kernel
theorem dL_law_521 : decode cL_law 521 = .ok (.aload_n 2, 1) := by decide +kernel
theorem dL_law_522 : decode cL_law 522 = .ok (.iconst 0, 1) := by decide +kernel
theorem dL_law_523 : decode cL_law 523 = .ok (.iaload, 1) := by decide +kernel
theorem dL_law_524 : decode cL_law 524 = .ok (.if_icmp .ge 98, 3) := by decide +kernel
theorem dL_law_527 : decode cL_law 527 = .ok (.aload_n 2, 1) := by decide +kernel
theorem dL_law_528 : decode cL_law 528 = .ok (.bipush 21, 2) := by decide +kernel
theorem dL_law_530 : decode cL_law 530 = .ok (.iaload, 1) := by decide +kernel
theorem dL_law_531 : decode cL_law 531 = .ok (.istore 11, 2) := by decide +kernel
theorem dL_law_533 : decode cL_law 533 = .ok (.aload_n 2, 1) := by decide +kernel
theorem dL_law_534 : decode cL_law 534 = .ok (.bipush 21, 2) := by decide +kernel
theorem dL_law_536 : decode cL_law 536 = .ok (.dup2, 1) := by decide +kernel
theorem dL_law_537 : decode cL_law 537 = .ok (.iaload, 1) := by decide +kernel
theorem dL_law_538 : decode cL_law 538 = .ok (.iconst 1, 1) := by decide +kernel
theorem dL_law_539 : decode cL_law 539 = .ok (.iload 10, 2) := by decide +kernel
theorem dL_law_541 : decode cL_law 541 = .ok (.ishl, 1) := by decide +kernel
theorem dL_law_542 : decode cL_law 542 = .ok (.ior, 1) := by decide +kernel
theorem dL_law_543 : decode cL_law 543 = .ok (.iastore, 1) := by decide +kernel
theorem dL_law_544 : decode cL_law 544 = .ok (.aload_n 2, 1) := by decide +kernel
theorem dL_law_545 : decode cL_law 545 = .ok (.aload_n 3, 1) := by decide +kernel
theorem dL_law_546 : decode cL_law 546 = .ok (.aload 4, 2) := by decide +kernel
theorem dL_law_548 : decode cL_law 548 = .ok (.aload 5, 2) := by decide +kernel
theorem dL_law_550 : decode cL_law 550 = .ok (.bipush 29, 2) := by decide +kernel
theorem dL_law_552 : decode cL_law 552 = .ok (.aload 7, 2) := by decide +kernel
theorem dL_law_554 : decode cL_law 554 = .ok (.invokestatic 70, 3) := by decide +kernel
theorem dL_law_557 : decode cL_law 557 = .ok (.aload_n 2, 1) := by decide +kernel
theorem dL_law_558 : decode cL_law 558 = .ok (.bipush 21, 2) := by decide +kernel
theorem dL_law_560 : decode cL_law 560 = .ok (.iload 11, 2) := by decide +kernel
theorem dL_law_562 : decode cL_law 562 = .ok (.iastore, 1) := by decide +kernel
theorem dL_law_563 : decode cL_law 563 = .ok (.iconst 0, 1) := by decide +kernel
theorem dL_law_564 : decode cL_law 564 = .ok (.istore 12, 2) := by decide +kernel
theorem dL_law_566 : decode cL_law 566 = .ok (.iconst 0, 1) := by decide +kernel
theorem dL_law_567 : decode cL_law 567 = .ok (.istore 13, 2) := by decide +kernel
theorem dL_law_569 : decode cL_law 569 = .ok (.iload 13, 2) := by decide +kernel
theorem dL_law_571 : decode cL_law 571 = .ok (.aload_n 2, 1) := by decide +kernel
theorem dL_law_572 : decode cL_law 572 = .ok (.iconst 1, 1) := by decide +kernel
theorem dL_law_573 : decode cL_law 573 = .ok (.iaload, 1) := by decide +kernel
theorem dL_law_574 : decode cL_law 574 = .ok (.if_icmp .ge 22, 3) := by decide +kernel
theorem dL_law_577 : decode cL_law 577 = .ok (.iload 12, 2) := by decide +kernel
theorem dL_law_579 : decode cL_law 579 = .ok (.aload 7, 2) := by decide +kernel
theorem dL_law_581 : decode cL_law 581 = .ok (.bipush 6, 2) := by decide +kernel
theorem dL_law_583 : decode cL_law 583 = .ok (.iload 13, 2) := by decide +kernel
theorem dL_law_585 : decode cL_law 585 = .ok (.iadd, 1) := by decide +kernel
theorem dL_law_586 : decode cL_law 586 = .ok (.iaload, 1) := by decide +kernel
theorem dL_law_587 : decode cL_law 587 = .ok (.iadd, 1) := by decide +kernel
theorem dL_law_588 : decode cL_law 588 = .ok (.istore 12, 2) := by decide +kernel
theorem dL_law_590 : decode cL_law 590 = .ok (.iinc 13 1, 3) := by decide +kernel
theorem dL_law_593 : decode cL_law 593 = .ok (.goto (-24), 3) := by decide +kernel
theorem dL_law_596 : decode cL_law 596 = .ok (.aload_n 1, 1) := by decide +kernel
theorem dL_law_597 : decode cL_law 597 = .ok (.iload 10, 2) := by decide +kernel
theorem dL_law_599 : decode cL_law 599 = .ok (.invokevirtual 89, 3) := by decide +kernel
theorem dL_law_602 : decode cL_law 602 = .ok (.sipush 10000, 3) := by decide +kernel
theorem dL_law_605 : decode cL_law 605 = .ok (.iload 12, 2) := by decide +kernel
theorem dL_law_607 : decode cL_law 607 = .ok (.iadd, 1) := by decide +kernel
theorem dL_law_608 : decode cL_law 608 = .ok (.iload 9, 2) := by decide +kernel
theorem dL_law_610 : decode cL_law 610 = .ok (.isub, 1) := by decide +kernel
theorem dL_law_611 : decode cL_law 611 = .ok (.if_icmp .eq 5, 3) := by decide +kernel
theorem dL_law_614 : decode cL_law 614 = .ok (.iconst 0, 1) := by decide +kernel
theorem dL_law_615 : decode cL_law 615 = .ok (.ireturn, 1) := by decide +kernel
theorem dL_law_616 : decode cL_law 616 = .ok (.iinc 10 1, 3) := by decide +kernel
theorem dL_law_619 : decode cL_law 619 = .ok (.goto (-100), 3) := by decide +kernel
theorem dL_law_622 : decode cL_law 622 = .ok (.iinc 8 1, 3) := by decide +kernel
theorem dL_law_625 : decode cL_law 625 = .ok (.goto (-546), 3) := by decide +kernel
theorem dL_law_628 : decode cL_law 628 = .ok (.aload_n 2, 1) := by decide +kernel
theorem dL_law_629 : decode cL_law 629 = .ok (.iconst 0, 1) := by decide +kernel
theorem dL_law_630 : decode cL_law 630 = .ok (.iaload, 1) := by decide +kernel
theorem dL_law_631 : decode cL_law 631 = .ok (.istore 8, 2) := by decide +kernel
theorem dL_law_633 : decode cL_law 633 = .ok (.aload_n 1, 1) := by decide +kernel
theorem dL_law_634 : decode cL_law 634 = .ok (.iload 8, 2) := by decide +kernel
theorem dL_law_636 : decode cL_law 636 = .ok (.iconst 0, 1) := by decide +kernel
theorem dL_law_637 : decode cL_law 637 = .ok (.invokevirtual 67, 3) := by decide +kernel
theorem dL_law_640 : decode cL_law 640 = .ok (.iconst (-1), 1) := by decide +kernel
theorem dL_law_641 : decode cL_law 641 = .ok (.if_icmp .ne 239, 3) := by decide +kernel
theorem dL_law_644 : decode cL_law 644 = .ok (.aload_n 1, 1) := by decide +kernel
theorem dL_law_645 : decode cL_law 645 = .ok (.iconst 0, 1) := by decide +kernel
theorem dL_law_646 : decode cL_law 646 = .ok (.bipush 6, 2) := by decide +kernel
theorem dL_law_648 : decode cL_law 648 = .ok (.invokevirtual 67, 3) := by decide +kernel
theorem dL_law_651 : decode cL_law 651 = .ok (.bipush (-2), 2) := by decide +kernel
theorem dL_law_653 : decode cL_law 653 = .ok (.if_icmp .ne 227, 3) := by decide +kernel
theorem dL_law_656 : decode cL_law 656 = .ok (.aload_n 1, 1) := by decide +kernel
theorem dL_law_657 : decode cL_law 657 = .ok (.aload_n 2, 1) := by decide +kernel
theorem dL_law_658 : decode cL_law 658 = .ok (.iconst 1, 1) := by decide +kernel
theorem dL_law_659 : decode cL_law 659 = .ok (.iaload, 1) := by decide +kernel
theorem dL_law_660 : decode cL_law 660 = .ok (.iconst 0, 1) := by decide +kernel
theorem dL_law_661 : decode cL_law 661 = .ok (.invokevirtual 86, 3) := by decide +kernel
theorem dL_law_664 : decode cL_law 664 = .ok (.iconst (-1), 1) := by decide +kernel
theorem dL_law_665 : decode cL_law 665 = .ok (.if_icmp .ne 215, 3) := by decide +kernel
theorem dL_law_668 : decode cL_law 668 = .ok (.aload_n 1, 1) := by decide +kernel
theorem dL_law_669 : decode cL_law 669 = .ok (.iconst 0, 1) := by decide +kernel
theorem dL_law_670 : decode cL_law 670 = .ok (.iconst 2, 1) := by decide +kernel
theorem dL_law_671 : decode cL_law 671 = .ok (.invokevirtual 86, 3) := by decide +kernel
theorem dL_law_674 : decode cL_law 674 = .ok (.bipush (-2), 2) := by decide +kernel
theorem dL_law_676 : decode cL_law 676 = .ok (.if_icmp .ne 204, 3) := by decide +kernel
theorem dL_law_679 : decode cL_law 679 = .ok (.aload_n 1, 1) := by decide +kernel
theorem dL_law_680 : decode cL_law 680 = .ok (.bipush 30, 2) := by decide +kernel
theorem dL_law_682 : decode cL_law 682 = .ok (.iconst 0, 1) := by decide +kernel
theorem dL_law_683 : decode cL_law 683 = .ok (.invokevirtual 28, 3) := by decide +kernel
theorem dL_law_686 : decode cL_law 686 = .ok (.iconst (-1), 1) := by decide +kernel
theorem dL_law_687 : decode cL_law 687 = .ok (.if_icmp .ne 193, 3) := by decide +kernel
theorem dL_law_690 : decode cL_law 690 = .ok (.aload_n 1, 1) := by decide +kernel
theorem dL_law_691 : decode cL_law 691 = .ok (.iconst 0, 1) := by decide +kernel
theorem dL_law_692 : decode cL_law 692 = .ok (.bipush 10, 2) := by decide +kernel
theorem dL_law_694 : decode cL_law 694 = .ok (.invokevirtual 28, 3) := by decide +kernel
theorem dL_law_697 : decode cL_law 697 = .ok (.bipush (-2), 2) := by decide +kernel
theorem dL_law_699 : decode cL_law 699 = .ok (.if_icmp .ne 181, 3) := by decide +kernel
theorem dL_law_702 : decode cL_law 702 = .ok (.aload_n 1, 1) := by decide +kernel
theorem dL_law_703 : decode cL_law 703 = .ok (.iconst (-1), 1) := by decide +kernel
theorem dL_law_704 : decode cL_law 704 = .ok (.iconst 0, 1) := by decide +kernel
theorem dL_law_705 : decode cL_law 705 = .ok (.invokevirtual 28, 3) := by decide +kernel
theorem dL_law_708 : decode cL_law 708 = .ok (.iconst (-1), 1) := by decide +kernel
theorem dL_law_709 : decode cL_law 709 = .ok (.if_icmp .ne 171, 3) := by decide +kernel
theorem dL_law_712 : decode cL_law 712 = .ok (.aload_n 1, 1) := by decide +kernel
theorem dL_law_713 : decode cL_law 713 = .ok (.bipush 30, 2) := by decide +kernel
theorem dL_law_715 : decode cL_law 715 = .ok (.iconst 0, 1) := by decide +kernel
theorem dL_law_716 : decode cL_law 716 = .ok (.invokevirtual 31, 3) := by decide +kernel
theorem dL_law_719 : decode cL_law 719 = .ok (.iconst (-1), 1) := by decide +kernel
theorem dL_law_720 : decode cL_law 720 = .ok (.if_icmp .ne 160, 3) := by decide +kernel
theorem dL_law_723 : decode cL_law 723 = .ok (.aload_n 1, 1) := by decide +kernel
theorem dL_law_724 : decode cL_law 724 = .ok (.iconst 0, 1) := by decide +kernel
theorem dL_law_725 : decode cL_law 725 = .ok (.iload 8, 2) := by decide +kernel
theorem dL_law_727 : decode cL_law 727 = .ok (.invokevirtual 31, 3) := by decide +kernel
theorem dL_law_730 : decode cL_law 730 = .ok (.iconst (-1), 1) := by decide +kernel
theorem dL_law_731 : decode cL_law 731 = .ok (.if_icmp .ne 149, 3) := by decide +kernel
theorem dL_law_734 : decode cL_law 734 = .ok (.aload_n 1, 1) := by decide +kernel
theorem dL_law_735 : decode cL_law 735 = .ok (.iconst 0, 1) := by decide +kernel
theorem dL_law_736 : decode cL_law 736 = .ok (.iconst (-1), 1) := by decide +kernel
theorem dL_law_737 : decode cL_law 737 = .ok (.invokevirtual 31, 3) := by decide +kernel
theorem dL_law_740 : decode cL_law 740 = .ok (.iconst (-1), 1) := by decide +kernel
theorem dL_law_741 : decode cL_law 741 = .ok (.if_icmp .ne 139, 3) := by decide +kernel
theorem dL_law_744 : decode cL_law 744 = .ok (.aload_n 1, 1) := by decide +kernel
theorem dL_law_745 : decode cL_law 745 = .ok (.bipush 30, 2) := by decide +kernel
theorem dL_law_747 : decode cL_law 747 = .ok (.iconst 1, 1) := by decide +kernel
theorem dL_law_748 : decode cL_law 748 = .ok (.invokevirtual 34, 3) := by decide +kernel
theorem dL_law_751 : decode cL_law 751 = .ok (.iconst (-1), 1) := by decide +kernel
theorem dL_law_752 : decode cL_law 752 = .ok (.if_icmp .ne 128, 3) := by decide +kernel
theorem dL_law_755 : decode cL_law 755 = .ok (.aload_n 1, 1) := by decide +kernel
theorem dL_law_756 : decode cL_law 756 = .ok (.bipush 30, 2) := by decide +kernel
theorem dL_law_758 : decode cL_law 758 = .ok (.iconst 0, 1) := by decide +kernel
theorem dL_law_759 : decode cL_law 759 = .ok (.invokevirtual 42, 3) := by decide +kernel
theorem dL_law_762 : decode cL_law 762 = .ok (.iconst (-1), 1) := by decide +kernel
theorem dL_law_763 : decode cL_law 763 = .ok (.if_icmp .ne 117, 3) := by decide +kernel
theorem dL_law_766 : decode cL_law 766 = .ok (.aload_n 1, 1) := by decide +kernel
theorem dL_law_767 : decode cL_law 767 = .ok (.iconst 0, 1) := by decide +kernel
theorem dL_law_768 : decode cL_law 768 = .ok (.iload 8, 2) := by decide +kernel
theorem dL_law_770 : decode cL_law 770 = .ok (.invokevirtual 42, 3) := by decide +kernel
theorem dL_law_773 : decode cL_law 773 = .ok (.iconst (-1), 1) := by decide +kernel
theorem dL_law_774 : decode cL_law 774 = .ok (.if_icmp .ne 106, 3) := by decide +kernel
theorem dL_law_777 : decode cL_law 777 = .ok (.aload_n 1, 1) := by decide +kernel
theorem dL_law_778 : decode cL_law 778 = .ok (.aload_n 2, 1) := by decide +kernel
theorem dL_law_779 : decode cL_law 779 = .ok (.iconst 2, 1) := by decide +kernel
theorem dL_law_780 : decode cL_law 780 = .ok (.iaload, 1) := by decide +kernel
theorem dL_law_781 : decode cL_law 781 = .ok (.iconst 1, 1) := by decide +kernel
theorem dL_law_782 : decode cL_law 782 = .ok (.iadd, 1) := by decide +kernel
theorem dL_law_783 : decode cL_law 783 = .ok (.invokevirtual 38, 3) := by decide +kernel
theorem dL_law_786 : decode cL_law 786 = .ok (.bipush (-2), 2) := by decide +kernel
theorem dL_law_788 : decode cL_law 788 = .ok (.if_icmp .ne 92, 3) := by decide +kernel
theorem dL_law_791 : decode cL_law 791 = .ok (.aload_n 1, 1) := by decide +kernel
theorem dL_law_792 : decode cL_law 792 = .ok (.iconst (-1), 1) := by decide +kernel
theorem dL_law_793 : decode cL_law 793 = .ok (.invokevirtual 38, 3) := by decide +kernel
theorem dL_law_796 : decode cL_law 796 = .ok (.bipush (-2), 2) := by decide +kernel
theorem dL_law_798 : decode cL_law 798 = .ok (.if_icmp .ne 82, 3) := by decide +kernel
theorem dL_law_801 : decode cL_law 801 = .ok (.aload_n 1, 1) := by decide +kernel
theorem dL_law_802 : decode cL_law 802 = .ok (.iload 8, 2) := by decide +kernel
theorem dL_law_804 : decode cL_law 804 = .ok (.iconst 1, 1) := by decide +kernel
theorem dL_law_805 : decode cL_law 805 = .ok (.invokevirtual 45, 3) := by decide +kernel
theorem dL_law_808 : decode cL_law 808 = .ok (.iconst (-1), 1) := by decide +kernel
theorem dL_law_809 : decode cL_law 809 = .ok (.if_icmp .ne 71, 3) := by decide +kernel
theorem dL_law_812 : decode cL_law 812 = .ok (.aload_n 1, 1) := by decide +kernel
theorem dL_law_813 : decode cL_law 813 = .ok (.aload_n 2, 1) := by decide +kernel
theorem dL_law_814 : decode cL_law 814 = .ok (.iconst 1, 1) := by decide +kernel
theorem dL_law_815 : decode cL_law 815 = .ok (.iaload, 1) := by decide +kernel
theorem dL_law_816 : decode cL_law 816 = .ok (.invokevirtual 80, 3) := by decide +kernel
theorem dL_law_819 : decode cL_law 819 = .ok (.iconst (-1), 1) := by decide +kernel
theorem dL_law_820 : decode cL_law 820 = .ok (.if_icmp .ne 60, 3) := by decide +kernel
theorem dL_law_823 : decode cL_law 823 = .ok (.aload_n 1, 1) := by decide +kernel
theorem dL_law_824 : decode cL_law 824 = .ok (.aload_n 2, 1) := by decide +kernel
theorem dL_law_825 : decode cL_law 825 = .ok (.iconst 1, 1) := by decide +kernel
theorem dL_law_826 : decode cL_law 826 = .ok (.iaload, 1) := by decide +kernel
theorem dL_law_827 : decode cL_law 827 = .ok (.invokevirtual 83, 3) := by decide +kernel
theorem dL_law_830 : decode cL_law 830 = .ok (.iconst (-1), 1) := by decide +kernel
theorem dL_law_831 : decode cL_law 831 = .ok (.if_icmp .ne 49, 3) := by decide +kernel
theorem dL_law_834 : decode cL_law 834 = .ok (.aload_n 1, 1) := by decide +kernel
theorem dL_law_835 : decode cL_law 835 = .ok (.bipush 30, 2) := by decide +kernel
theorem dL_law_837 : decode cL_law 837 = .ok (.invokevirtual 74, 3) := by decide +kernel
theorem dL_law_840 : decode cL_law 840 = .ok (.iconst (-1), 1) := by decide +kernel
theorem dL_law_841 : decode cL_law 841 = .ok (.if_icmp .ne 39, 3) := by decide +kernel
theorem dL_law_844 : decode cL_law 844 = .ok (.aload_n 1, 1) := by decide +kernel
theorem dL_law_845 : decode cL_law 845 = .ok (.iload 8, 2) := by decide +kernel
theorem dL_law_847 : decode cL_law 847 = .ok (.iconst 0, 1) := by decide +kernel
theorem dL_law_848 : decode cL_law 848 = .ok (.invokevirtual 77, 3) := by decide +kernel
theorem dL_law_851 : decode cL_law 851 = .ok (.iconst (-1), 1) := by decide +kernel
theorem dL_law_852 : decode cL_law 852 = .ok (.if_icmp .ne 28, 3) := by decide +kernel
theorem dL_law_855 : decode cL_law 855 = .ok (.aload_n 1, 1) := by decide +kernel
theorem dL_law_856 : decode cL_law 856 = .ok (.iconst 0, 1) := by decide +kernel
theorem dL_law_857 : decode cL_law 857 = .ok (.bipush 30, 2) := by decide +kernel
theorem dL_law_859 : decode cL_law 859 = .ok (.invokevirtual 77, 3) := by decide +kernel
theorem dL_law_862 : decode cL_law 862 = .ok (.iconst (-1), 1) := by decide +kernel
theorem dL_law_863 : decode cL_law 863 = .ok (.if_icmp .ne 17, 3) := by decide +kernel
theorem dL_law_866 : decode cL_law 866 = .ok (.aload_n 1, 1) := by decide +kernel
theorem dL_law_867 : decode cL_law 867 = .ok (.iload 8, 2) := by decide +kernel
theorem dL_law_869 : decode cL_law 869 = .ok (.invokevirtual 89, 3) := by decide +kernel
theorem dL_law_872 : decode cL_law 872 = .ok (.iconst (-1), 1) := by decide +kernel
theorem dL_law_873 : decode cL_law 873 = .ok (.if_icmp .ne 7, 3) := by decide +kernel
theorem dL_law_876 : decode cL_law 876 = .ok (.iconst 1, 1) := by decide +kernel
theorem dL_law_877 : decode cL_law 877 = .ok (.goto 4, 3) := by decide +kernel
theorem dL_law_880 : decode cL_law 880 = .ok (.iconst 0, 1) := by decide +kernel
theorem dL_law_881 : decode cL_law 881 = .ok (.ireturn, 1) := by decide +kernel
end
section
/-! THE LAYER: one world of 44 cells (0 .. 39 the class, 40 .. 43 the arrays of the law), with a flag of one more (44, the row r); the script beside it, read alone; a state says for each cell what stands at each place -/
abbrev ST : Type := Nat → Nat → Int32
abbrev DD : Type := va_G × (ClassId × (ClassId × (ClassId × (Nat × (Nat × (Nat × (Nat → Int32)))))))
/-- is there the row r; the script: its cell, how many, its ints -/
def fl (D : DD) : Nat := D.2.2.2.2.1
def sB (D : DD) : Nat := D.2.2.2.2.2.1
def sN (D : DD) : Nat := D.2.2.2.2.2.2.1
def sV (D : DD) : Nat → Int32 := D.2.2.2.2.2.2.2
theorem lt44 {k n : Nat} (h : k < 44) : k < 44 + n := by omega
def setc (σ : ST) (k : Nat) (f : Nat → Int32) : ST := fun j => if j = k then f else σ j
def setf (σ : ST) (k i : Nat) (v : Int32) : ST := setc σ k (upd (σ k) i v)
theorem setc_s {σ : ST} {k : Nat} {f : Nat → Int32} : setc σ k f k = f := if_pos rfl
theorem setc_n {σ : ST} {k j : Nat} {f : Nat → Int32} (h : j ≠ k) : setc σ k f j = σ j := if_neg h
def akind (k : Nat) : Nat := ([0,0,0,1,0,1,0,1,0,1, 0,1,0,1,1,1,1,1,1,1, 1,0,1,1,1,1,0,1,1,2, 0,1,1,1,1,1,1,0,1,0, 1,1,1,1,1] : List Nat).getD k 0
def alen (k : Nat) : Nat := ([0,0,0,50,0,50,0,50,0,50, 0,50,0,6,6,6,6,6,6,6, 30,0,30,30,6,6,0,8,8,8, 0,30,30,30,6,6,6,0,4,0, 48,30,30,30,18] : List Nat).getD k 0
def shObj (ad : Nat → Nat) (k : Nat) (g : Nat → Int32) : va_E := .inr (5, [.ref (ad (k + 1)), .int (g 1), .int (g 2), .int (g 3)])
def objF (D : DD) (ad : Nat → Nat) (k : Nat) (g : Nat → Int32) : va_E := match k with
  | 0 => .inr (8, [.ref (ad 1), .ref (ad 10), .ref (ad 12), .ref (ad 21), .ref (ad 26), .ref (ad 30), .ref (ad 37), .ref (ad 39), .int (g 8)])
  | 1 => .inl (D.2.2.2.1, 4, .inr (.inr (.inr (.inr (fun i => if i < 4 then some (ad (2 + 2 * i)) else none)))))
  | 10 => .inr (6, [.ref (ad 11), .int (g 1), .int (g 2), .int (g 3)])
  | 12 => .inr (1, [.int (g 0), .int (g 1), .int (g 2), .ref (ad 13), .ref (ad 14), .ref (ad 15), .ref (ad 16), .ref (ad 17), .ref (ad 18), .ref (ad 19), .ref (ad 20)])
  | 21 => .inr (7, [.ref (ad 22), .ref (ad 23), .ref (ad 24), .ref (ad 25), .int (g 4), .int (g 5)])
  | 26 => .inr (2, [.ref (ad 27), .ref (ad 28), .ref (ad 29), .int (g 3)])
  | 30 => .inr (4, [.ref (ad 12), .ref (ad 31), .ref (ad 32), .ref (ad 33), .int (g 4), .int (g 5), .ref (ad 34), .ref (ad 35), .ref (ad 36), .int (g 9)])
  | 37 => .inr (3, [.ref (ad 12), .ref (ad 30), .ref (ad 38)])
  | 39 => .inr (0, [.int (g 0)])
  | _ => shObj ad k g
def cellF (D : DD) (ad : Nat → Nat) (k : Nat) (g : Nat → Int32) : va_E := if akind k = 1 then .inl (D.2.1, alen k, .inl g) else if akind k = 2 then .inl (D.2.2.1, alen k, .inl g) else objF D ad k g
theorem cellF_i {D : DD} {ad : Nat → Nat} {k : Nat} {g : Nat → Int32} (h : akind k = 1) : cellF D ad k g = .inl (D.2.1, alen k, .inl g) := if_pos h
theorem cellF_z {D : DD} {ad : Nat → Nat} {k : Nat} {g : Nat → Int32} (h : akind k = 2) : cellF D ad k g = .inl (D.2.2.1, alen k, .inl g) := by
  unfold cellF
  rw [if_neg (by rw [h]; decide), if_pos h]
theorem cellF_o {D : DD} {ad : Nat → Nat} {k : Nat} {g : Nat → Int32} (h : akind k = 0) : cellF D ad k g = objF D ad k g := by
  unfold cellF
  rw [if_neg (by rw [h]; decide), if_neg (by rw [h]; decide)]
theorem sh_at {D : DD} {ad : Nat → Nat} {j : Nat} {g : Nat → Int32} (h : j < 4) : cellF D ad (2 + 2 * j) g = shObj ad (2 + 2 * j) g := by
  have : j = 0 ∨ j = 1 ∨ j = 2 ∨ j = 3 := by omega
  rcases this with rfl | rfl | rfl | rfl <;> rfl
theorem sh_ak {j : Nat} (h : j < 4) : akind (2 + 2 * j + 1) = 1 := by
  have : j = 0 ∨ j = 1 ∨ j = 2 ∨ j = 3 := by omega
  rcases this with rfl | rfl | rfl | rfl <;> rfl
theorem sh_al {j : Nat} (h : j < 4) : alen (2 + 2 * j + 1) = 50 := by
  have : j = 0 ∨ j = 1 ∨ j = 2 ∨ j = 3 := by omega
  rcases this with rfl | rfl | rfl | rfl <;> rfl
def wAll (D : DD) (ad : Nat → Nat) (σ : ST) : va_W := (List.range (44 + fl D)).map (fun k => (ad k, cellF D ad k (σ k)))
theorem wAll_at {D : DD} {ad : Nat → Nat} {σ : ST} {k : Nat} (h : k < 44 + fl D) : (wAll D ad σ)[k]? = some (ad k, cellF D ad k (σ k)) := by
  unfold wAll
  rw [List.getElem?_map, List.getElem?_range h]
  rfl
theorem wAll_len {D : DD} {ad : Nat → Nat} {σ : ST} : (wAll D ad σ).length = 44 + fl D := by
  unfold wAll
  rw [List.length_map, List.length_range]
theorem wAll_set {D : DD} {ad : Nat → Nat} {σ : ST} {k : Nat} {f : Nat → Int32} (h : k < 44 + fl D) : (wAll D ad σ).set k (ad k, cellF D ad k f) = wAll D ad (setc σ k f) := by
  apply List.ext_getElem?
  intro i
  by_cases hi : i < 44 + fl D
  · by_cases hik : i = k
    · subst hik
      rw [List.getElem?_set_self (by rw [wAll_len]; exact h), wAll_at h, setc_s]
    · rw [List.getElem?_set_ne (Ne.symm hik), wAll_at hi, wAll_at hi, setc_n hik]
  · rw [List.getElem?_eq_none (by rw [List.length_set, wAll_len]; omega), List.getElem?_eq_none (by rw [wAll_len]; omega)]
def Inj (D : DD) (ad : Nat → Nat) : Prop := ∀ i j, i < 44 + fl D → j < 44 + fl D → ad i = ad j → i = j
theorem wAll_D {D : DD} {ad : Nat → Nat} {σ : ST} {A : Nat → Prop} (hI : Inj D ad) (hA : ∀ k, k < 44 + fl D → A (ad k)) : va_D A (wAll D ad σ) := by
  have lt : ∀ {i : Nat} {p : Nat × va_E}, (wAll D ad σ)[i]? = some p → i < 44 + fl D ∧ p.1 = ad i := by
    intro i p h
    have hl : i < 44 + fl D := by have := (List.getElem?_eq_some_iff.mp h).1; rwa [wAll_len] at this
    rw [wAll_at hl] at h
    exact ⟨hl, by rw [← Option.some.inj h]⟩
  refine ⟨fun i j p q hi hj hpq => ?_, fun k q hk => ?_⟩
  · obtain ⟨l1, e1⟩ := lt hi
    obtain ⟨l2, e2⟩ := lt hj
    exact hI i j l1 l2 (by rw [← e1, ← e2, hpq])
  · obtain ⟨l1, e1⟩ := lt hk
    rw [e1]
    exact hA k l1
def Aof (D : DD) (ad : Nat → Nat) (sz : Nat) : Nat → Prop := fun q => (∃ k, k < 44 + fl D ∧ q = ad k) ∨ sz ≤ q
def tysOf (D : DD) : List (ClassId × FieldType) := [(D.2.1, .int), (D.2.2.1, .boolean), (D.2.2.2.1, .object RX5)]
def KK (D : DD) (U : State) : Prop := va_K D.1 vwCl (tysOf D) U ∧ va_Nw (.methodLinkNest RX1 75 yX8_isIn RX8) U ∧ va_Nw (.methodLinkNest RX4 73 yX8_isIn RX8) U ∧ va_Nw (.methodLinkNest RX6 50 yX8_isDay RX8) U
theorem KK.warm {D : DD} {s U : State} (h : KK D s) (hW : s.WarmedH U.vm) : KK D U := ⟨va_K.moved hW.alike h.1, va_Nw.warmM hW h.2.1, va_Nw.warmM hW h.2.2.1, va_Nw.warmM hW h.2.2.2⟩
theorem KK.calling {D : DD} {U : State} (h : KK D U) (g : JFrame) (mk : MethodId) (a : Array Value) : KK D (U.calling g mk a) := ⟨va_K.moved (u := U) (U := U.calling g mk a) (Vm.Alike.refl U.vm) h.1, va_Nw.same rfl (U := U.calling g mk a) rfl h.2.1, va_Nw.same rfl (U := U.calling g mk a) rfl h.2.2.1, va_Nw.same rfl (U := U.calling g mk a) rfl h.2.2.2⟩
/-- the words: those of the tables that stay -/
def TT : List Cond := lw_tbl.filter goodWord
theorem TT_of {w : Cond} (h : w ∈ lw_tbl) (hg : goodWord w = true) : w ∈ TT := List.mem_filter.mpr ⟨h, hg⟩
theorem TT_good {w : Cond} (h : w ∈ TT) : (w.onTables && w.keeps) = true ∨ ∃ ty, w = .arrayClass ty := good_of_word (List.mem_filter.mp h).2
/-! locals: a float stands for 'not known' -/
def isDead (v : Value) : Bool := match v with
  | .float _ => true
  | _ => false
def al (lv : List Value) : List (Nat × Value) := lv.zipIdx.filterMap (fun q => if isDead q.1 then none else some (q.2, q.1))
theorem mem_al {lv : List Value} {i : Nat} {v : Value} : (i, v) ∈ al lv ↔ lv[i]? = some v ∧ isDead v = false := by
  unfold al
  rw [List.mem_filterMap]
  constructor
  · rintro ⟨⟨w, j⟩, h1, h2⟩
    rw [List.mk_mem_zipIdx_iff_getElem?] at h1
    by_cases hd : isDead w = true
    · simp [hd] at h2
    · simp only [hd, if_false, Bool.false_eq_true, Option.some.injEq, Prod.mk.injEq] at h2
      obtain ⟨rfl, rfl⟩ := h2
      exact ⟨h1, by simpa using hd⟩
  · rintro ⟨h1, h2⟩
    exact ⟨(v, i), List.mk_mem_zipIdx_iff_getElem?.mpr h1, by simp [h2]⟩
def LV (ls : Array Slot) (n : Nat) (lv : List Value) : Prop := lv_has ls n (al lv)
theorem LV.at {ls : Array Slot} {n : Nat} {lv : List Value} (h : LV ls n lv) {i : Nat} {v : Value} (hi : lv[i]? = some v) (hd : isDead v = false) : ls[i]? = some (.val v) := h.2.2 (i, v) (mem_al.mpr ⟨hi, hd⟩)
theorem LV.of {ls : Array Slot} {n : Nat} {lv : List Value} {l : List (Nat × Value)} (h : lv_has ls n l) (hs : ∀ i v, lv[i]? = some v → isDead v = false → (i, v) ∈ l) : LV ls n lv := ⟨h.1, h.2.1, fun q hq => h.2.2 q (by obtain ⟨i, v⟩ := q; exact hs i v (mem_al.mp hq).1 (mem_al.mp hq).2)⟩
theorem LV.set1 {ls : Array Slot} {n : Nat} {lv : List Value} {i : Nat} {x : Value} (h : lv_has ls n ((i, x) :: (al lv).filter (fun q => !(q.1 == i) && !(q.1 + 1 == i && q.2.category == 2)))) (hc : lv.all (fun v => v.category == 1) = true) (hx : isDead x = false) : LV ls n (lv.set i x) := by
  refine LV.of h fun j v hj hd => ?_
  by_cases hji : j = i
  · subst hji
    have hl : j < lv.length := by have := (List.getElem?_eq_some_iff.mp hj).1; rwa [List.length_set] at this
    rw [List.getElem?_set_self hl] at hj
    rw [Option.some.inj hj]
    exact List.mem_cons_self
  · rw [List.getElem?_set_ne (Ne.symm hji)] at hj
    have hcat : v.category = 1 := by
      have := List.all_eq_true.mp hc v (List.mem_of_getElem? hj)
      simpa using this
    exact List.mem_cons_of_mem _ (List.mem_filter.mpr ⟨mem_al.mpr ⟨hj, hd⟩, by simp [hji, hcat]⟩)
/-! the walk's own things in one -/
abbrev CT : Type := (Program × Launch × Env × Room) × (State × MethodId × Array Value × List Frame) × (Method × Code × Nat × Nat × (State → Prop)) × (DD × (Nat → Nat) × (Nat → Prop) × Nat)
abbrev xp (X : CT) : Program := X.1.1
def xl (X : CT) : Launch := X.1.2.1
abbrev xR (X : CT) : Room := X.1.2.2.2
abbrev xs (X : CT) : State := X.2.1.1
abbrev xm (X : CT) : MethodId := X.2.1.2.1
abbrev xargs (X : CT) : Array Value := X.2.1.2.2.1
abbrev xbelow (X : CT) : List Frame := X.2.1.2.2.2
abbrev xmeth (X : CT) : Method := X.2.2.1.1
abbrev xc (X : CT) : Code := X.2.2.1.2.1
abbrev xcells (X : CT) : Nat := X.2.2.1.2.2.1
abbrev xslots (X : CT) : Nat := X.2.2.1.2.2.2.1
abbrev xQ (X : CT) : State → Prop := X.2.2.1.2.2.2.2
def xD (X : CT) : DD := X.2.2.2.1
def xad (X : CT) : Nat → Nat := X.2.2.2.2.1
abbrev xA (X : CT) : Nat → Prop := X.2.2.2.2.2.1
abbrev xn (X : CT) : Nat := X.2.2.2.2.2.2
def V (X : CT) (pc : Nat) (lv : List Value) (st : List Value) (σ : ST) : Prop := ∀ (H : Heap) (locs : List Loc) (ls : Array Slot), va_P (xD X).1 vwCl (wAll (xD X) (xad X) σ) H → va_S (xA X) (xs X).heap H locs → LV ls (xn X) lv → W (xp X) (xl X) X.1.2.2.1 (xR X) (xs X) (xm X) (xargs X) (xbelow X) (xmeth X) (xc X) H locs (xcells X) (xslots X) (xQ X) (F0 (xm X) pc ls st)
/-- the script stands, and nothing of it may be written -/
def Sx (X : CT) : Prop := va_X (sB (xD X)) (sN (xD X)) (sV (xD X)) (xs X) (xs X).heap ∧ sB (xD X) < (xs X).heap.size ∧ ¬ xA X (sB (xD X))
def Cx (X : CT) (own : String) (cc : ByteArray) (ret : Option FieldType) (fr lo : Nat) : Prop :=
  (xp X).tables.exec = Jvm.exec ∧ (xc X).code = cc ∧ (xc X).maxLocals = xn X ∧ (xmeth X).sig.returnType = ret ∧ (xmeth X).locks = false ∧ (xs X).vm.findClass own = some (xm X).cls ∧ (∀ w ∈ TT, w.before (xargs X) (xs X) = true) ∧ KK (xD X) (xs X) ∧ (Inj (xD X) (xad X) ∧ Sx X) ∧ (∀ q, (xs X).heap.size ≤ q → xA X q) ∧ (∀ k, k < 44 + fl (xD X) → xA X (xad X k)) ∧ fr ≤ (xR X).frames ∧ lo ≤ (xR X).locals ∧ xcells X ≤ (xR X).cells ∧ xslots X ≤ (xR X).slots
section CXL
variable {X : CT} {own : String} {cc : ByteArray} {ret : Option FieldType} {fr lo : Nat}
theorem Cx.x (C : Cx X own cc ret fr lo) : (xp X).tables.exec = Jvm.exec := C.1
theorem Cx.b (C : Cx X own cc ret fr lo) : (xc X).code = cc := C.2.1
theorem Cx.ml (C : Cx X own cc ret fr lo) : (xc X).maxLocals = xn X := C.2.2.1
theorem Cx.r (C : Cx X own cc ret fr lo) : (xmeth X).sig.returnType = ret := C.2.2.2.1
theorem Cx.locks (C : Cx X own cc ret fr lo) : (xmeth X).locks = false := C.2.2.2.2.1
theorem Cx.ow (C : Cx X own cc ret fr lo) : (xs X).vm.findClass own = some (xm X).cls := C.2.2.2.2.2.1
theorem Cx.ts (C : Cx X own cc ret fr lo) : ∀ w ∈ TT, w.before (xargs X) (xs X) = true := C.2.2.2.2.2.2.1
theorem Cx.K (C : Cx X own cc ret fr lo) : KK (xD X) (xs X) := C.2.2.2.2.2.2.2.1
theorem Cx.I (C : Cx X own cc ret fr lo) : Inj (xD X) (xad X) := C.2.2.2.2.2.2.2.2.1.1
theorem Cx.S (C : Cx X own cc ret fr lo) : Sx X := C.2.2.2.2.2.2.2.2.1.2
theorem Cx.A1 (C : Cx X own cc ret fr lo) : ∀ q, (xs X).heap.size ≤ q → xA X q := C.2.2.2.2.2.2.2.2.2.1
theorem Cx.A2 (C : Cx X own cc ret fr lo) : ∀ k, k < 44 + fl (xD X) → xA X (xad X k) := C.2.2.2.2.2.2.2.2.2.2.1
theorem Cx.hf (C : Cx X own cc ret fr lo) : fr ≤ (xR X).frames := C.2.2.2.2.2.2.2.2.2.2.2.1
theorem Cx.hlo (C : Cx X own cc ret fr lo) : lo ≤ (xR X).locals := C.2.2.2.2.2.2.2.2.2.2.2.2.1
theorem Cx.ce (C : Cx X own cc ret fr lo) : xcells X ≤ (xR X).cells := C.2.2.2.2.2.2.2.2.2.2.2.2.2.1
theorem Cx.sl (C : Cx X own cc ret fr lo) : xslots X ≤ (xR X).slots := C.2.2.2.2.2.2.2.2.2.2.2.2.2.2
theorem Cx.D (C : Cx X own cc ret fr lo) {σ : ST} : va_D (xA X) (wAll (xD X) (xad X) σ) := wAll_D C.I C.A2
end CXL
/-! contracts -/
def SS (D : DD) (ad : Nat → Nat) (U : State) : Prop := va_X (sB D) (sN D) (sV D) U U.heap ∧ sB D < U.heap.size ∧ ∀ k, k < 44 + fl D → ad k ≠ sB D
theorem SS.calling {D : DD} {ad : Nat → Nat} {U : State} (h : SS D ad U) (g : JFrame) (mk : MethodId) (a : Array Value) : SS D ad (U.calling g mk a) := ⟨va_X.moved (u := U) (U := U.calling g mk a) (Vm.Alike.refl U.vm) h.1, h.2⟩
theorem SS.out {D : DD} {ad : Nat → Nat} {U : State} (h : SS D ad U) : ¬ Aof D ad U.heap.size (sB D) := fun q => q.elim (fun ⟨k, hk, e⟩ => h.2.2 k hk e.symm) (fun q => Nat.not_le.mpr h.2.1 q)
theorem Cx.ss {X : CT} {own : String} {cc : ByteArray} {ret : Option FieldType} {fr lo : Nat} (C : Cx X own cc ret fr lo) {H : Heap} {locs : List Loc} {U : State} (hS : va_S (xA X) (xs X).heap H locs) (hU : U.heap = H) (hW : (xs X).WarmedH U.vm) : SS (xD X) (xad X) U := ⟨va_X.moved hW.alike (by rw [hU]; exact va_X.kept C.S.1 (hS.2.1 _ C.S.2.1 C.S.2.2)), by rw [hU]; exact Nat.lt_of_lt_of_le C.S.2.1 hS.1, fun k hk e => C.S.2.2 (e ▸ C.A2 k hk)⟩
def Pm (D : DD) (ad : Nat → Nat) (σ : ST) (sz : Nat) (av : List Value) : Array Value → State → Prop := va_Pc av (fun U => U.heap.size = sz ∧ va_P D.1 vwCl (wAll D ad σ) U.heap ∧ KK D U ∧ Inj D ad ∧ SS D ad U)
def Qm (D : DD) (ad : Nat → Nat) (A : Nat → Prop) (post : Option Value → ST → Prop) : Array Value → State → Outcome → State → Prop := fun _ st oc t => (∃ (v : Option Value) (σ' : ST), oc = .returned v ∧ post v σ' ∧ va_P D.1 vwCl (wAll D ad σ') t.heap) ∧ va_F A st t
def rmOf (fr lo : Nat) : Room := { frames := fr, cells := 0, slots := 0, locals := lo }
def Ct (l : Launch) (y : MethodName) (cc : ByteArray) (n : Nat) (ret : Option FieldType) (fr lo : Nat) (D : DD) (ad : Nat → Nat) (av : List Value) (σ : ST) (post : Option Value → ST → Prop) : Prop := ∀ sz : Nat, Met l y (.code y cc n ret :: TT) (rmOf fr lo) (Pm D ad σ sz av) (Qm D ad (Aof D ad sz) post) 0 0 (Aof D ad sz)
def ex (v : Option Value) (σ : ST) : Option Value → ST → Prop := fun v' σ' => v' = v ∧ σ' = σ
def Rt (X : CT) (post : Option Value → ST → Prop) : Prop := xQ X = MQ (xbelow X) (Qm (xD X) (xad X) (xA X) post) (xargs X) (xs X) (xcells X) (xslots X) (xA X)
theorem Ct.of {l : Launch} {y : MethodName} {cc : ByteArray} {n : Nat} {ret : Option FieldType} {fr lo : Nat} {D : DD} {ad : Nat → Nat} {av : List Value} {σ : ST} {post : Option Value → ST → Prop} (lv : List Value) (hy : plainName y.cls = true) (hn : (lg_sl av).length ≤ n) (hlv : al lv = lv_args 0 av)
    (body : ∀ X : CT, Cx X y.cls cc ret fr lo → D = xD X → ad = xad X → l = xl X → Rt X post → V X 0 lv [] σ) : Ct l y cc n ret fr lo D ad av σ post := by
  intro sz
  refine Met.ofW (cc := cc) (maxL := n) (ret := ret) hy rfl ?_
  intro p e s m args below meth c s₁ B hml hv
  obtain ⟨rfl, hsz, hP, hK, hI, hSS⟩ := hv
  subst hsz
  have hts := atoms_spec (ws := (.code y cc n ret :: TT)) B.pre
  have hl := lv_entry av (n := n) hn
  rw [lg_entry_eq]
  exact body ((p, l, e, (headSpec (.code y cc n ret :: TT) (rmOf fr lo)).room), (s, m, av.toArray, below), (meth, c, 0, 0, MQ below (Qm D ad (Aof D ad s.heap.size) post) av.toArray s 0 0 (Aof D ad s.heap.size)), (D, ad, Aof D ad s.heap.size, n))
    ⟨B.exec, B.bytes, hml, B.returns, B.notSynchronized, findClass_of_methodNamed B.named, fun w hw => hts w (List.mem_cons_of_mem _ hw), hK, ⟨hI, hSS.1, hSS.2.1, hSS.out⟩, fun q h => Or.inr h, fun k hk => Or.inl ⟨k, hk, rfl⟩, Nat.le_refl _, Nat.le_refl _, Nat.le_refl _, Nat.le_refl _⟩
    rfl rfl rfl rfl s.heap [] _ hP va_S.rf ⟨hl.1, hl.2.1, by rw [hlv]; exact hl.2.2⟩
theorem Ct.mono {l : Launch} {y : MethodName} {cc : ByteArray} {n : Nat} {ret : Option FieldType} {fr lo : Nat} {D : DD} {ad : Nat → Nat} {av : List Value} {σ : ST} {v v' : Option Value} {τ τ' : ST} (h : Ct l y cc n ret fr lo D ad av σ (ex v τ)) (e1 : v = v') (e2 : τ = τ') : Ct l y cc n ret fr lo D ad av σ (ex v' τ') := e1 ▸ e2 ▸ h
/-! a call -/
section VCG
variable {p : Program} {l : Launch} {e : Env} {R : Room} {s : State} {m : MethodId} {args : Array Value} {below : List Frame} {meth : Method} {c : Code} {H : Heap} {locs : List Loc} {cells slots : Nat} {Q : State → Prop}
variable {pc : Nat} {ls : Array Slot} {rest st0 : List Value} {a : Array Value} {A0 A1 : Nat → Prop} {H0 : Heap} {free : Addr → Prop} {D : DD} {ad : Nat → Nat} {post : Option Value → ST → Prop}
theorem va_callg (hr : va_Run p l e R s m args below meth c H locs cells slots 0 0 (F0 m pc ls st0) rest (Qm D ad A1 post a) free) (hS : va_S A0 H0 H locs) (hA : ∀ q, q < H.size → A1 q → A0 q) (hf : ∀ q, free q → A0 q)
    (kk : ∀ (v : Option Value) (σ' : ST) (H1 : Heap) (locs1 : List Loc), post v σ' → va_P D.1 vwCl (wAll D ad σ') H1 → va_S A0 H0 H1 locs1 → W p l e R s m args below meth c H1 locs1 cells slots Q (F0 m (pc + 3) ls (v.toList ++ rest))) : W p l e R s m args below meth c H locs cells slots Q (F0 m pc ls st0) := by
  intro T hT X
  obtain ⟨v, st₀, t, T', L, h0, X', hL, e1, e2, ⟨⟨v', σ', hv, hp, hb⟩, hz, hk⟩, st⟩ := hr T hT X
  cases hv
  rw [h0] at hz hk
  obtain ⟨t2, a1, b1⟩ := kk v σ' T'.heap (locs ++ L) hp (by rw [e1]; exact hb)
    ⟨Nat.le_trans hS.1 (by rw [e1]; exact hz), fun q h1 h2 => by rw [e1, hk q (Nat.lt_of_lt_of_le h1 hS.1) (fun z => h2 (hA q (Nat.lt_of_lt_of_le h1 hS.1) z))]; exact hS.2.1 q h1 h2, fun q hq => by
      rcases List.mem_append.mp hq with h | h
      · exact hS.2.2 q h
      · exact hf _ (hL q h)⟩ T' rfl X'
  exact ⟨t2, st t2 a1, b1⟩
end VCG
/-- what the tables say of a method that is called -/
def Cw (y : MethodName) (cc : ByteArray) (n : Nat) (ret : Option FieldType) (na : Nat) : Prop := Cond.initialized y.cls ∈ TT ∧ Cond.code y cc n ret ∈ TT ∧ (y.cls ≠ "java/lang/invoke/MethodHandle" ∧ y.cls ≠ "java/lang/invoke/VarHandle") ∧ (parseMethodDescriptor y.desc).map (fun d => d.parameters.length) = some na
def CwV (y : MethodName) : Prop := Cond.instanceMethod y ∈ TT ∧ Cond.selects y.cls y y ∈ TT
theorem Cw.goodIn {y : MethodName} {cc : ByteArray} {n : Nat} {ret : Option FieldType} {na : Nat} (h : Cw y cc n ret na) : GoodIn TT (.code y cc n ret :: TT) := fun w hw => by
  have : w ∈ TT := by
    rcases List.mem_cons.mp hw with h1 | h1
    · rw [h1]; exact h.2.1
    · exact h1
  exact ⟨this, TT_good this⟩
section VCALL
variable {X : CT} {own : String} {cc : ByteArray} {ret : Option FieldType} {fr lo : Nat} {pc q : Nat} {lv st : List Value} {σ : ST}
theorem V_blind {D : DD} {ad : Nat → Nat} {σ : ST} {sz : Nat} {av : List Value} : FrameBlind (Pm D ad σ sz av) := fun a U g mk h => ⟨h.1, h.2.1, h.2.2.1, h.2.2.2.1.calling g mk a, h.2.2.2.2.1, h.2.2.2.2.2.calling g mk a⟩
theorem V_free (C : Cx X own cc ret fr lo) {H : Heap} {locs : List Loc} (hS : va_S (xA X) (xs X).heap H locs) : ∀ q, Aof (xD X) (xad X) H.size q → xA X q := fun q h => by
  rcases h with ⟨k, hk, rfl⟩ | h
  · exact C.A2 k hk
  · exact C.A1 q (Nat.le_trans hS.1 h)
theorem V_callV (C : Cx X own cc ret fr lo) {y : MethodName} {yc : ByteArray} {n na idx k fr' lo' : Nat} {yret : Option FieldType} {As rest : List Value} {post : Option Value → ST → Prop}
    (hM : Ct (xl X) y yc n yret fr' lo' (xD X) (xad X) (.ref (xad X k) :: As) σ post) (hw : Cw y yc n yret na) (hv : CwV y) (hlink : Cond.methodLink own idx y ∈ TT) (hk : k < 44) (hobj : ∃ (ci : Nat) (fs : List Value) (z : vw_C), cellF (xD X) (xad X) k (σ k) = .inr (ci, fs) ∧ vwCl[ci]? = some z ∧ z.1 = y.cls)
    (hroom : fr' + 1 ≤ fr ∧ 8 + (n + 11) + lo' ≤ lo) (hna : As.length = na) (hst : st = As.reverse ++ .ref (xad X k) :: rest) (hcat : (rest.map fun v => v.category).sum ≤ 8) (hq : pc + 3 = q) (hdg : decode cc pc = .ok (.invokevirtual idx, 3))
    (kk : ∀ (v : Option Value) (σ' : ST), post v σ' → V X q lv (v.toList ++ rest) σ') : V X pc lv st σ := by
  subst hst; subst hq
  intro H locs ls hP hS hl
  obtain ⟨ci, fs, z, h1, h2, h3⟩ := hobj
  have hat : (wAll (xD X) (xad X) σ)[k]? = some (xad X k, .inr (ci, fs)) := by rw [wAll_at (lt44 hk), h1]
  refine va_callg (va_runV (C := y.cls) (Ts := TT) (own := own) (As := As) (rest := rest) (b := xad X k) (mc := 0) (ms := 0) (n := na) ⟨C.x, C.b, C.ml, C.ow, C.ts⟩ (hM H.size) ⟨callB_of na C.ts hw.goodIn rfl rfl rfl (C.ts _ hw.1) (C.ts _ hlink) ⟨hw.2.2.1.1, hw.2.2.1.2, hw.2.2.2⟩ ⟨Nat.le_trans hroom.1 C.hf, Nat.le_trans hroom.2 C.hlo⟩, C.ts _ hv.1, C.ts _ hv.2⟩ ⟨V_blind, ?_, fun U hU hW => ⟨rfl, by rw [hU], by rw [hU]; exact hP, C.K.warm hW, C.I, C.ss hS hU hW⟩⟩ rfl hna hl.1 rfl (lv_room hcat) hdg ⟨C.ce, C.sl⟩) hS (fun q _ h => V_free C hS q h) (V_free C hS) (fun v σ' H1 locs1 hp hP1 hS1 => kk v σ' hp H1 locs1 ls hP1 hS1 hl)
  obtain ⟨cell, e1, e2, e3⟩ := va_recv C.K.1 hP h2 hat
  exact ⟨cell, e1, e2, by rw [← h3]; exact e3⟩
theorem V_callS (C : Cx X own cc ret fr lo) {y : MethodName} {yc : ByteArray} {n na idx fr' lo' : Nat} {yret : Option FieldType} {As rest : List Value} {post : Option Value → ST → Prop}
    (hM : Ct (xl X) y yc n yret fr' lo' (xD X) (xad X) As σ post) (hw : Cw y yc n yret na) (hv : Cond.static y ∈ TT) (hlink : Cond.methodLink own idx y ∈ TT)
    (hroom : fr' + 1 ≤ fr ∧ 8 + (n + 11) + lo' ≤ lo) (hna : As.length = na) (hst : st = As.reverse ++ rest) (hcat : (rest.map fun v => v.category).sum ≤ 8) (hq : pc + 3 = q) (hdg : decode cc pc = .ok (.invokestatic idx, 3))
    (kk : ∀ (v : Option Value) (σ' : ST), post v σ' → V X q lv (v.toList ++ rest) σ') : V X pc lv st σ := by
  subst hst; subst hq
  intro H locs ls hP hS hl
  exact va_callg (va_runS (Ts := TT) (own := own) (As := As) (rest := rest) (mc := 0) (ms := 0) (n := na) ⟨C.x, C.b, C.ml, C.ow, C.ts⟩ (hM H.size) ⟨callB_of na C.ts hw.goodIn rfl rfl rfl (C.ts _ hw.1) (C.ts _ hlink) ⟨hw.2.2.1.1, hw.2.2.1.2, hw.2.2.2⟩ ⟨Nat.le_trans hroom.1 C.hf, Nat.le_trans hroom.2 C.hlo⟩, C.ts _ hv⟩ ⟨V_blind, fun U hU hW => ⟨rfl, by rw [hU], by rw [hU]; exact hP, C.K.warm hW, C.I, C.ss hS hU hW⟩⟩ rfl hna hl.1 rfl (lv_room hcat) hdg ⟨C.ce, C.sl⟩) hS (fun q _ h => V_free C hS q h) (V_free C hS) (fun v σ' H1 locs1 hp hP1 hS1 => kk v σ' hp H1 locs1 ls hP1 hS1 hl)
theorem V_callN (C : Cx X own cc ret fr lo) {y : MethodName} {yc : ByteArray} {n na idx fr' lo' : Nat} {host : String} {yret : Option FieldType} {As rest : List Value} {post : Option Value → ST → Prop}
    (hM : Ct (xl X) y yc n yret fr' lo' (xD X) (xad X) As σ post) (hw : Cw y yc n yret na) (hv : Cond.static y ∈ TT) (hlink : va_Nw (.methodLinkNest own idx y host) (xs X))
    (hroom : fr' + 1 ≤ fr ∧ 8 + (n + 11) + lo' ≤ lo) (hna : As.length = na) (hst : st = As.reverse ++ rest) (hcat : (rest.map fun v => v.category).sum ≤ 8) (hq : pc + 3 = q) (hdg : decode cc pc = .ok (.invokestatic idx, 3))
    (kk : ∀ (v : Option Value) (σ' : ST), post v σ' → V X q lv (v.toList ++ rest) σ') : V X pc lv st σ := by
  subst hst; subst hq
  intro H locs ls hP hS hl
  exact va_callg (va_runSN (Ts := TT) (own := own) (host := host) (As := As) (rest := rest) (mc := 0) (ms := 0) (n := na) ⟨C.x, C.b, C.ml, C.ow, C.ts⟩ (hM H.size) ⟨va_cnB na C.ts hw.goodIn rfl rfl rfl hlink (C.ts _ hw.1) ⟨hw.2.2.1.1, hw.2.2.1.2, hw.2.2.2⟩ ⟨Nat.le_trans hroom.1 C.hf, Nat.le_trans hroom.2 C.hlo⟩, C.ts _ hv, trivial⟩ ⟨V_blind, fun U hU hW => ⟨rfl, by rw [hU], by rw [hU]; exact hP, C.K.warm hW, C.I, C.ss hS hU hW⟩⟩ rfl hna hl.1 rfl (lv_room hcat) hdg ⟨C.ce, C.sl⟩) hS (fun q _ h => V_free C hS q h) (V_free C hS) (fun v σ' H1 locs1 hp hP1 hS1 => kk v σ' hp H1 locs1 ls hP1 hS1 hl)
end VCALL
end
section
/-! a row of V for each kind of instruction -/
section VROWS
variable {X : CT} {own : String} {cc : ByteArray} {ret : Option FieldType} {fr lo : Nat} {pc q : Nat} {lv st : List Value} {σ : ST}
theorem V_iincg (C : Cx X own cc ret fr lo) {i : Nat} {n : Int} {x v : Int32} {H : Heap} {locs : List Loc} {ls : Array Slot} (hv : x + Int32.ofInt n = v) (hn : i < xn X) (hc : lv.all (fun v => v.category == 1) = true) (hx : lv[i]? = some (.int x)) (hdg : decode cc pc = .ok (.iinc i n, 3))
    (k : ∀ ls2 : Array Slot, LV ls2 (xn X) (lv.set i (.int v)) → W (xp X) (xl X) X.1.2.2.1 (xR X) (xs X) (xm X) (xargs X) (xbelow X) (xmeth X) (xc X) H locs (xcells X) (xslots X) (xQ X) (F0 (xm X) (pc + 3) ls2 st)) (hP : va_P (xD X).1 vwCl (wAll (xD X) (xad X) σ) H) (hS : va_S (xA X) (xs X).heap H locs) (hl : LV ls (xn X) lv) : W (xp X) (xl X) X.1.2.2.1 (xR X) (xs X) (xm X) (xargs X) (xbelow X) (xmeth X) (xc X) H locs (xcells X) (xslots X) (xQ X) (F0 (xm X) pc ls st) := by
  obtain ⟨t, ht⟩ := List.getElem?_of_mem (mem_al.mpr ⟨hx, rfl⟩)
  exact lv_iinc C.x C.b hdg hl ht hv hn rfl (fun ls2 h2 => k ls2 (LV.set1 h2 hc rfl))
theorem V_iconst (C : Cx X own cc ret fr lo) {n : Int} {v : Int32} (hv : Int32.ofInt n = v) (hq : pc + 1 = q) (hdg : decode cc pc = .ok (.iconst n, 1))  (k : V X q lv (.int v :: st) σ) : V X pc lv (st) σ := by subst hq; exact fun H locs ls hP hS hl => lv_iconst C.x C.b hdg hv (k H locs ls hP hS hl)
theorem V_bipush (C : Cx X own cc ret fr lo) {n : Int} {v : Int32} (hv : (Int8.ofInt n).toInt32 = v) (hq : pc + 2 = q) (hdg : decode cc pc = .ok (.bipush n, 2))  (k : V X q lv (.int v :: st) σ) : V X pc lv (st) σ := by subst hq; exact fun H locs ls hP hS hl => lv_bipush C.x C.b hdg hv (k H locs ls hP hS hl)
theorem V_sipush (C : Cx X own cc ret fr lo) {n : Int} {v : Int32} (hv : (Int16.ofInt n).toInt32 = v) (hq : pc + 3 = q) (hdg : decode cc pc = .ok (.sipush n, 3))  (k : V X q lv (.int v :: st) σ) : V X pc lv (st) σ := by subst hq; exact fun H locs ls hP hS hl => lv_sipush C.x C.b hdg hv (k H locs ls hP hS hl)
theorem V_lconst (C : Cx X own cc ret fr lo) {n : Fin 2} {v : Int64} (hv : Int64.ofNat (n : Nat) = v) (hq : pc + 1 = q) (hdg : decode cc pc = .ok (.lconst n, 1))  (k : V X q lv (.long v :: st) σ) : V X pc lv (st) σ := by subst hq; exact fun H locs ls hP hS hl => lv_lconst C.x C.b hdg hv (k H locs ls hP hS hl)
theorem V_iadd (C : Cx X own cc ret fr lo) {x y : Int32} (hq : pc + 1 = q) (hdg : decode cc pc = .ok (.iadd, 1))  (k : V X q lv (.int (x + y) :: st) σ) : V X pc lv (.int y :: .int x :: st) σ := by subst hq; exact fun H locs ls hP hS hl => lv_iadd C.x C.b hdg (k H locs ls hP hS hl)
theorem V_isub (C : Cx X own cc ret fr lo) {x y : Int32} (hq : pc + 1 = q) (hdg : decode cc pc = .ok (.isub, 1))  (k : V X q lv (.int (x - y) :: st) σ) : V X pc lv (.int y :: .int x :: st) σ := by subst hq; exact fun H locs ls hP hS hl => lv_isub C.x C.b hdg (k H locs ls hP hS hl)
theorem V_imul (C : Cx X own cc ret fr lo) {x y : Int32} (hq : pc + 1 = q) (hdg : decode cc pc = .ok (.imul, 1))  (k : V X q lv (.int (x * y) :: st) σ) : V X pc lv (.int y :: .int x :: st) σ := by subst hq; exact fun H locs ls hP hS hl => lv_imul C.x C.b hdg (k H locs ls hP hS hl)
theorem V_iand (C : Cx X own cc ret fr lo) {x y : Int32} (hq : pc + 1 = q) (hdg : decode cc pc = .ok (.iand, 1))  (k : V X q lv (.int (x &&& y) :: st) σ) : V X pc lv (.int y :: .int x :: st) σ := by subst hq; exact fun H locs ls hP hS hl => lv_iand C.x C.b hdg (k H locs ls hP hS hl)
theorem V_ior (C : Cx X own cc ret fr lo) {x y : Int32} (hq : pc + 1 = q) (hdg : decode cc pc = .ok (.ior, 1))  (k : V X q lv (.int (x ||| y) :: st) σ) : V X pc lv (.int y :: .int x :: st) σ := by subst hq; exact fun H locs ls hP hS hl => lv_ior C.x C.b hdg (k H locs ls hP hS hl)
theorem V_ixor (C : Cx X own cc ret fr lo) {x y : Int32} (hq : pc + 1 = q) (hdg : decode cc pc = .ok (.ixor, 1))  (k : V X q lv (.int (x ^^^ y) :: st) σ) : V X pc lv (.int y :: .int x :: st) σ := by subst hq; exact fun H locs ls hP hS hl => lv_ixor C.x C.b hdg (k H locs ls hP hS hl)
theorem V_idiv (C : Cx X own cc ret fr lo) {x y : Int32} (hne : ¬ y = 0) (hq : pc + 1 = q) (hdg : decode cc pc = .ok (.idiv, 1))  (k : V X q lv (.int (x / y) :: st) σ) : V X pc lv (.int y :: .int x :: st) σ := by subst hq; exact fun H locs ls hP hS hl => lv_idiv C.x C.b hdg hne (k H locs ls hP hS hl)
theorem V_iload_0 (C : Cx X own cc ret fr lo) {L : List Value} {x : Int32} (hq : pc + 2 = q) (hdg : decode cc pc = .ok (.iload 0, 2)) (k : V X q (.int x :: L) (.int x :: st) σ) : V X pc (.int x :: L) st σ := by subst hq; exact fun H locs ls hP hS hl => lv_iload C.x C.b hdg (hl.at (i := 0) rfl rfl) (k H locs ls hP hS hl)
theorem V_iload_n_0 (C : Cx X own cc ret fr lo) {L : List Value} {x : Int32} (hq : pc + 1 = q) (hdg : decode cc pc = .ok (.iload_n 0, 1)) (k : V X q (.int x :: L) (.int x :: st) σ) : V X pc (.int x :: L) st σ := by subst hq; exact fun H locs ls hP hS hl => lv_iload_n C.x C.b hdg (rfl : (0 : Nat) = 0) (hl.at (i := 0) rfl rfl) (k H locs ls hP hS hl)
theorem V_istore_0 (C : Cx X own cc ret fr lo) {z : Value} {L : List Value} {x : Int32} (hn : 0 < xn X) (hc : (z :: L).all (fun v => v.category == 1) = true) (hq : pc + 2 = q) (hdg : decode cc pc = .ok (.istore 0, 2)) (k : V X q (.int x :: L) st σ) : V X pc (z :: L) (.int x :: st) σ := by subst hq; exact fun H locs ls hP hS hl => lv_istore C.x C.b hdg hl hn rfl (fun ls2 h2 => k H locs ls2 hP hS (LV.set1 (lv := z :: L) h2 hc rfl))
theorem V_istore_n_0 (C : Cx X own cc ret fr lo) {z : Value} {L : List Value} {x : Int32} (hn : 0 < xn X) (hc : (z :: L).all (fun v => v.category == 1) = true) (hq : pc + 1 = q) (hdg : decode cc pc = .ok (.istore_n 0, 1)) (k : V X q (.int x :: L) st σ) : V X pc (z :: L) (.int x :: st) σ := by subst hq; exact fun H locs ls hP hS hl => lv_istore_n C.x C.b hdg (rfl : (0 : Nat) = 0) hl hn rfl (fun ls2 h2 => k H locs ls2 hP hS (LV.set1 (lv := z :: L) h2 hc rfl))
theorem V_lload_0 (C : Cx X own cc ret fr lo) {L : List Value} {x : Int64} (hq : pc + 2 = q) (hdg : decode cc pc = .ok (.lload 0, 2)) (k : V X q (.long x :: L) (.long x :: st) σ) : V X pc (.long x :: L) st σ := by subst hq; exact fun H locs ls hP hS hl => lv_lload C.x C.b hdg (hl.at (i := 0) rfl rfl) (k H locs ls hP hS hl)
theorem V_lload_n_0 (C : Cx X own cc ret fr lo) {L : List Value} {x : Int64} (hq : pc + 1 = q) (hdg : decode cc pc = .ok (.lload_n 0, 1)) (k : V X q (.long x :: L) (.long x :: st) σ) : V X pc (.long x :: L) st σ := by subst hq; exact fun H locs ls hP hS hl => lv_lload_n C.x C.b hdg (rfl : (0 : Nat) = 0) (hl.at (i := 0) rfl rfl) (k H locs ls hP hS hl)
theorem V_aload_0 (C : Cx X own cc ret fr lo) {L : List Value} {x : Nat} (hq : pc + 2 = q) (hdg : decode cc pc = .ok (.aload 0, 2)) (k : V X q (.ref x :: L) (.ref x :: st) σ) : V X pc (.ref x :: L) st σ := by subst hq; exact fun H locs ls hP hS hl => lv_aload C.x C.b hdg (hl.at (i := 0) rfl rfl) (k H locs ls hP hS hl)
theorem V_aload_n_0 (C : Cx X own cc ret fr lo) {L : List Value} {x : Nat} (hq : pc + 1 = q) (hdg : decode cc pc = .ok (.aload_n 0, 1)) (k : V X q (.ref x :: L) (.ref x :: st) σ) : V X pc (.ref x :: L) st σ := by subst hq; exact fun H locs ls hP hS hl => lv_aload_n C.x C.b hdg (rfl : (0 : Nat) = 0) (hl.at (i := 0) rfl rfl) (k H locs ls hP hS hl)
theorem V_astore_0 (C : Cx X own cc ret fr lo) {z : Value} {L : List Value} {x : Nat} (hn : 0 < xn X) (hc : (z :: L).all (fun v => v.category == 1) = true) (hq : pc + 2 = q) (hdg : decode cc pc = .ok (.astore 0, 2)) (k : V X q (.ref x :: L) st σ) : V X pc (z :: L) (.ref x :: st) σ := by subst hq; exact fun H locs ls hP hS hl => lv_astore C.x C.b hdg hl hn rfl (fun ls2 h2 => k H locs ls2 hP hS (LV.set1 (lv := z :: L) h2 hc rfl))
theorem V_astore_n_0 (C : Cx X own cc ret fr lo) {z : Value} {L : List Value} {x : Nat} (hn : 0 < xn X) (hc : (z :: L).all (fun v => v.category == 1) = true) (hq : pc + 1 = q) (hdg : decode cc pc = .ok (.astore_n 0, 1)) (k : V X q (.ref x :: L) st σ) : V X pc (z :: L) (.ref x :: st) σ := by subst hq; exact fun H locs ls hP hS hl => lv_astore_n C.x C.b hdg (rfl : (0 : Nat) = 0) hl hn rfl (fun ls2 h2 => k H locs ls2 hP hS (LV.set1 (lv := z :: L) h2 hc rfl))
theorem V_aloadN_0 (C : Cx X own cc ret fr lo) {L : List Value} (hq : pc + 2 = q) (hdg : decode cc pc = .ok (.aload 0, 2)) (k : V X q (.null :: L) (.null :: st) σ) : V X pc (.null :: L) st σ := by subst hq; exact fun H locs ls hP hS hl => lv_aloadN C.x C.b hdg (hl.at (i := 0) rfl rfl) (k H locs ls hP hS hl)
theorem V_aload_nN_0 (C : Cx X own cc ret fr lo) {L : List Value} (hq : pc + 1 = q) (hdg : decode cc pc = .ok (.aload_n 0, 1)) (k : V X q (.null :: L) (.null :: st) σ) : V X pc (.null :: L) st σ := by subst hq; exact fun H locs ls hP hS hl => lv_aload_nN C.x C.b hdg (rfl : (0 : Nat) = 0) (hl.at (i := 0) rfl rfl) (k H locs ls hP hS hl)
theorem V_astoreN_0 (C : Cx X own cc ret fr lo) {z : Value} {L : List Value} (hn : 0 < xn X) (hc : (z :: L).all (fun v => v.category == 1) = true) (hq : pc + 2 = q) (hdg : decode cc pc = .ok (.astore 0, 2)) (k : V X q (.null :: L) st σ) : V X pc (z :: L) (.null :: st) σ := by subst hq; exact fun H locs ls hP hS hl => lv_astoreN C.x C.b hdg hl hn rfl (fun ls2 h2 => k H locs ls2 hP hS (LV.set1 (lv := z :: L) h2 hc rfl))
theorem V_astore_nN_0 (C : Cx X own cc ret fr lo) {z : Value} {L : List Value} (hn : 0 < xn X) (hc : (z :: L).all (fun v => v.category == 1) = true) (hq : pc + 1 = q) (hdg : decode cc pc = .ok (.astore_n 0, 1)) (k : V X q (.null :: L) st σ) : V X pc (z :: L) (.null :: st) σ := by subst hq; exact fun H locs ls hP hS hl => lv_astore_nN C.x C.b hdg (rfl : (0 : Nat) = 0) hl hn rfl (fun ls2 h2 => k H locs ls2 hP hS (LV.set1 (lv := z :: L) h2 hc rfl))
theorem V_iinc_0 (C : Cx X own cc ret fr lo) {L : List Value} {n : Int} {x v : Int32} (hv : x + Int32.ofInt n = v) (hn : 0 < xn X) (hc : (.int x :: L).all (fun v => v.category == 1) = true) (hq : pc + 3 = q) (hdg : decode cc pc = .ok (.iinc 0 n, 3)) (k : V X q (.int v :: L) st σ) : V X pc (.int x :: L) st σ := by subst hq; exact fun H locs ls hP hS hl => V_iincg C (lv := .int x :: L) (i := 0) hv hn hc rfl hdg (fun ls2 h2 => k H locs ls2 hP hS h2) hP hS hl
theorem V_iload_1 (C : Cx X own cc ret fr lo) {a0 : Value} {L : List Value} {x : Int32} (hq : pc + 2 = q) (hdg : decode cc pc = .ok (.iload 1, 2)) (k : V X q (a0 :: .int x :: L) (.int x :: st) σ) : V X pc (a0 :: .int x :: L) st σ := by subst hq; exact fun H locs ls hP hS hl => lv_iload C.x C.b hdg (hl.at (i := 1) rfl rfl) (k H locs ls hP hS hl)
theorem V_iload_n_1 (C : Cx X own cc ret fr lo) {a0 : Value} {L : List Value} {x : Int32} (hq : pc + 1 = q) (hdg : decode cc pc = .ok (.iload_n 1, 1)) (k : V X q (a0 :: .int x :: L) (.int x :: st) σ) : V X pc (a0 :: .int x :: L) st σ := by subst hq; exact fun H locs ls hP hS hl => lv_iload_n C.x C.b hdg (rfl : (1 : Nat) = 1) (hl.at (i := 1) rfl rfl) (k H locs ls hP hS hl)
theorem V_istore_1 (C : Cx X own cc ret fr lo) {a0 : Value} {z : Value} {L : List Value} {x : Int32} (hn : 1 < xn X) (hc : (a0 :: z :: L).all (fun v => v.category == 1) = true) (hq : pc + 2 = q) (hdg : decode cc pc = .ok (.istore 1, 2)) (k : V X q (a0 :: .int x :: L) st σ) : V X pc (a0 :: z :: L) (.int x :: st) σ := by subst hq; exact fun H locs ls hP hS hl => lv_istore C.x C.b hdg hl hn rfl (fun ls2 h2 => k H locs ls2 hP hS (LV.set1 (lv := a0 :: z :: L) h2 hc rfl))
theorem V_istore_n_1 (C : Cx X own cc ret fr lo) {a0 : Value} {z : Value} {L : List Value} {x : Int32} (hn : 1 < xn X) (hc : (a0 :: z :: L).all (fun v => v.category == 1) = true) (hq : pc + 1 = q) (hdg : decode cc pc = .ok (.istore_n 1, 1)) (k : V X q (a0 :: .int x :: L) st σ) : V X pc (a0 :: z :: L) (.int x :: st) σ := by subst hq; exact fun H locs ls hP hS hl => lv_istore_n C.x C.b hdg (rfl : (1 : Nat) = 1) hl hn rfl (fun ls2 h2 => k H locs ls2 hP hS (LV.set1 (lv := a0 :: z :: L) h2 hc rfl))
theorem V_lload_1 (C : Cx X own cc ret fr lo) {a0 : Value} {L : List Value} {x : Int64} (hq : pc + 2 = q) (hdg : decode cc pc = .ok (.lload 1, 2)) (k : V X q (a0 :: .long x :: L) (.long x :: st) σ) : V X pc (a0 :: .long x :: L) st σ := by subst hq; exact fun H locs ls hP hS hl => lv_lload C.x C.b hdg (hl.at (i := 1) rfl rfl) (k H locs ls hP hS hl)
theorem V_lload_n_1 (C : Cx X own cc ret fr lo) {a0 : Value} {L : List Value} {x : Int64} (hq : pc + 1 = q) (hdg : decode cc pc = .ok (.lload_n 1, 1)) (k : V X q (a0 :: .long x :: L) (.long x :: st) σ) : V X pc (a0 :: .long x :: L) st σ := by subst hq; exact fun H locs ls hP hS hl => lv_lload_n C.x C.b hdg (rfl : (1 : Nat) = 1) (hl.at (i := 1) rfl rfl) (k H locs ls hP hS hl)
theorem V_aload_1 (C : Cx X own cc ret fr lo) {a0 : Value} {L : List Value} {x : Nat} (hq : pc + 2 = q) (hdg : decode cc pc = .ok (.aload 1, 2)) (k : V X q (a0 :: .ref x :: L) (.ref x :: st) σ) : V X pc (a0 :: .ref x :: L) st σ := by subst hq; exact fun H locs ls hP hS hl => lv_aload C.x C.b hdg (hl.at (i := 1) rfl rfl) (k H locs ls hP hS hl)
theorem V_aload_n_1 (C : Cx X own cc ret fr lo) {a0 : Value} {L : List Value} {x : Nat} (hq : pc + 1 = q) (hdg : decode cc pc = .ok (.aload_n 1, 1)) (k : V X q (a0 :: .ref x :: L) (.ref x :: st) σ) : V X pc (a0 :: .ref x :: L) st σ := by subst hq; exact fun H locs ls hP hS hl => lv_aload_n C.x C.b hdg (rfl : (1 : Nat) = 1) (hl.at (i := 1) rfl rfl) (k H locs ls hP hS hl)
theorem V_astore_1 (C : Cx X own cc ret fr lo) {a0 : Value} {z : Value} {L : List Value} {x : Nat} (hn : 1 < xn X) (hc : (a0 :: z :: L).all (fun v => v.category == 1) = true) (hq : pc + 2 = q) (hdg : decode cc pc = .ok (.astore 1, 2)) (k : V X q (a0 :: .ref x :: L) st σ) : V X pc (a0 :: z :: L) (.ref x :: st) σ := by subst hq; exact fun H locs ls hP hS hl => lv_astore C.x C.b hdg hl hn rfl (fun ls2 h2 => k H locs ls2 hP hS (LV.set1 (lv := a0 :: z :: L) h2 hc rfl))
theorem V_astore_n_1 (C : Cx X own cc ret fr lo) {a0 : Value} {z : Value} {L : List Value} {x : Nat} (hn : 1 < xn X) (hc : (a0 :: z :: L).all (fun v => v.category == 1) = true) (hq : pc + 1 = q) (hdg : decode cc pc = .ok (.astore_n 1, 1)) (k : V X q (a0 :: .ref x :: L) st σ) : V X pc (a0 :: z :: L) (.ref x :: st) σ := by subst hq; exact fun H locs ls hP hS hl => lv_astore_n C.x C.b hdg (rfl : (1 : Nat) = 1) hl hn rfl (fun ls2 h2 => k H locs ls2 hP hS (LV.set1 (lv := a0 :: z :: L) h2 hc rfl))
theorem V_aloadN_1 (C : Cx X own cc ret fr lo) {a0 : Value} {L : List Value} (hq : pc + 2 = q) (hdg : decode cc pc = .ok (.aload 1, 2)) (k : V X q (a0 :: .null :: L) (.null :: st) σ) : V X pc (a0 :: .null :: L) st σ := by subst hq; exact fun H locs ls hP hS hl => lv_aloadN C.x C.b hdg (hl.at (i := 1) rfl rfl) (k H locs ls hP hS hl)
theorem V_aload_nN_1 (C : Cx X own cc ret fr lo) {a0 : Value} {L : List Value} (hq : pc + 1 = q) (hdg : decode cc pc = .ok (.aload_n 1, 1)) (k : V X q (a0 :: .null :: L) (.null :: st) σ) : V X pc (a0 :: .null :: L) st σ := by subst hq; exact fun H locs ls hP hS hl => lv_aload_nN C.x C.b hdg (rfl : (1 : Nat) = 1) (hl.at (i := 1) rfl rfl) (k H locs ls hP hS hl)
theorem V_astoreN_1 (C : Cx X own cc ret fr lo) {a0 : Value} {z : Value} {L : List Value} (hn : 1 < xn X) (hc : (a0 :: z :: L).all (fun v => v.category == 1) = true) (hq : pc + 2 = q) (hdg : decode cc pc = .ok (.astore 1, 2)) (k : V X q (a0 :: .null :: L) st σ) : V X pc (a0 :: z :: L) (.null :: st) σ := by subst hq; exact fun H locs ls hP hS hl => lv_astoreN C.x C.b hdg hl hn rfl (fun ls2 h2 => k H locs ls2 hP hS (LV.set1 (lv := a0 :: z :: L) h2 hc rfl))
theorem V_astore_nN_1 (C : Cx X own cc ret fr lo) {a0 : Value} {z : Value} {L : List Value} (hn : 1 < xn X) (hc : (a0 :: z :: L).all (fun v => v.category == 1) = true) (hq : pc + 1 = q) (hdg : decode cc pc = .ok (.astore_n 1, 1)) (k : V X q (a0 :: .null :: L) st σ) : V X pc (a0 :: z :: L) (.null :: st) σ := by subst hq; exact fun H locs ls hP hS hl => lv_astore_nN C.x C.b hdg (rfl : (1 : Nat) = 1) hl hn rfl (fun ls2 h2 => k H locs ls2 hP hS (LV.set1 (lv := a0 :: z :: L) h2 hc rfl))
theorem V_iinc_1 (C : Cx X own cc ret fr lo) {a0 : Value} {L : List Value} {n : Int} {x v : Int32} (hv : x + Int32.ofInt n = v) (hn : 1 < xn X) (hc : (a0 :: .int x :: L).all (fun v => v.category == 1) = true) (hq : pc + 3 = q) (hdg : decode cc pc = .ok (.iinc 1 n, 3)) (k : V X q (a0 :: .int v :: L) st σ) : V X pc (a0 :: .int x :: L) st σ := by subst hq; exact fun H locs ls hP hS hl => V_iincg C (lv := a0 :: .int x :: L) (i := 1) hv hn hc rfl hdg (fun ls2 h2 => k H locs ls2 hP hS h2) hP hS hl
theorem V_iload_2 (C : Cx X own cc ret fr lo) {a0 a1 : Value} {L : List Value} {x : Int32} (hq : pc + 2 = q) (hdg : decode cc pc = .ok (.iload 2, 2)) (k : V X q (a0 :: a1 :: .int x :: L) (.int x :: st) σ) : V X pc (a0 :: a1 :: .int x :: L) st σ := by subst hq; exact fun H locs ls hP hS hl => lv_iload C.x C.b hdg (hl.at (i := 2) rfl rfl) (k H locs ls hP hS hl)
theorem V_iload_n_2 (C : Cx X own cc ret fr lo) {a0 a1 : Value} {L : List Value} {x : Int32} (hq : pc + 1 = q) (hdg : decode cc pc = .ok (.iload_n 2, 1)) (k : V X q (a0 :: a1 :: .int x :: L) (.int x :: st) σ) : V X pc (a0 :: a1 :: .int x :: L) st σ := by subst hq; exact fun H locs ls hP hS hl => lv_iload_n C.x C.b hdg (rfl : (2 : Nat) = 2) (hl.at (i := 2) rfl rfl) (k H locs ls hP hS hl)
theorem V_istore_2 (C : Cx X own cc ret fr lo) {a0 a1 : Value} {z : Value} {L : List Value} {x : Int32} (hn : 2 < xn X) (hc : (a0 :: a1 :: z :: L).all (fun v => v.category == 1) = true) (hq : pc + 2 = q) (hdg : decode cc pc = .ok (.istore 2, 2)) (k : V X q (a0 :: a1 :: .int x :: L) st σ) : V X pc (a0 :: a1 :: z :: L) (.int x :: st) σ := by subst hq; exact fun H locs ls hP hS hl => lv_istore C.x C.b hdg hl hn rfl (fun ls2 h2 => k H locs ls2 hP hS (LV.set1 (lv := a0 :: a1 :: z :: L) h2 hc rfl))
theorem V_istore_n_2 (C : Cx X own cc ret fr lo) {a0 a1 : Value} {z : Value} {L : List Value} {x : Int32} (hn : 2 < xn X) (hc : (a0 :: a1 :: z :: L).all (fun v => v.category == 1) = true) (hq : pc + 1 = q) (hdg : decode cc pc = .ok (.istore_n 2, 1)) (k : V X q (a0 :: a1 :: .int x :: L) st σ) : V X pc (a0 :: a1 :: z :: L) (.int x :: st) σ := by subst hq; exact fun H locs ls hP hS hl => lv_istore_n C.x C.b hdg (rfl : (2 : Nat) = 2) hl hn rfl (fun ls2 h2 => k H locs ls2 hP hS (LV.set1 (lv := a0 :: a1 :: z :: L) h2 hc rfl))
theorem V_lload_2 (C : Cx X own cc ret fr lo) {a0 a1 : Value} {L : List Value} {x : Int64} (hq : pc + 2 = q) (hdg : decode cc pc = .ok (.lload 2, 2)) (k : V X q (a0 :: a1 :: .long x :: L) (.long x :: st) σ) : V X pc (a0 :: a1 :: .long x :: L) st σ := by subst hq; exact fun H locs ls hP hS hl => lv_lload C.x C.b hdg (hl.at (i := 2) rfl rfl) (k H locs ls hP hS hl)
theorem V_lload_n_2 (C : Cx X own cc ret fr lo) {a0 a1 : Value} {L : List Value} {x : Int64} (hq : pc + 1 = q) (hdg : decode cc pc = .ok (.lload_n 2, 1)) (k : V X q (a0 :: a1 :: .long x :: L) (.long x :: st) σ) : V X pc (a0 :: a1 :: .long x :: L) st σ := by subst hq; exact fun H locs ls hP hS hl => lv_lload_n C.x C.b hdg (rfl : (2 : Nat) = 2) (hl.at (i := 2) rfl rfl) (k H locs ls hP hS hl)
theorem V_aload_2 (C : Cx X own cc ret fr lo) {a0 a1 : Value} {L : List Value} {x : Nat} (hq : pc + 2 = q) (hdg : decode cc pc = .ok (.aload 2, 2)) (k : V X q (a0 :: a1 :: .ref x :: L) (.ref x :: st) σ) : V X pc (a0 :: a1 :: .ref x :: L) st σ := by subst hq; exact fun H locs ls hP hS hl => lv_aload C.x C.b hdg (hl.at (i := 2) rfl rfl) (k H locs ls hP hS hl)
theorem V_aload_n_2 (C : Cx X own cc ret fr lo) {a0 a1 : Value} {L : List Value} {x : Nat} (hq : pc + 1 = q) (hdg : decode cc pc = .ok (.aload_n 2, 1)) (k : V X q (a0 :: a1 :: .ref x :: L) (.ref x :: st) σ) : V X pc (a0 :: a1 :: .ref x :: L) st σ := by subst hq; exact fun H locs ls hP hS hl => lv_aload_n C.x C.b hdg (rfl : (2 : Nat) = 2) (hl.at (i := 2) rfl rfl) (k H locs ls hP hS hl)
theorem V_astore_2 (C : Cx X own cc ret fr lo) {a0 a1 : Value} {z : Value} {L : List Value} {x : Nat} (hn : 2 < xn X) (hc : (a0 :: a1 :: z :: L).all (fun v => v.category == 1) = true) (hq : pc + 2 = q) (hdg : decode cc pc = .ok (.astore 2, 2)) (k : V X q (a0 :: a1 :: .ref x :: L) st σ) : V X pc (a0 :: a1 :: z :: L) (.ref x :: st) σ := by subst hq; exact fun H locs ls hP hS hl => lv_astore C.x C.b hdg hl hn rfl (fun ls2 h2 => k H locs ls2 hP hS (LV.set1 (lv := a0 :: a1 :: z :: L) h2 hc rfl))
theorem V_astore_n_2 (C : Cx X own cc ret fr lo) {a0 a1 : Value} {z : Value} {L : List Value} {x : Nat} (hn : 2 < xn X) (hc : (a0 :: a1 :: z :: L).all (fun v => v.category == 1) = true) (hq : pc + 1 = q) (hdg : decode cc pc = .ok (.astore_n 2, 1)) (k : V X q (a0 :: a1 :: .ref x :: L) st σ) : V X pc (a0 :: a1 :: z :: L) (.ref x :: st) σ := by subst hq; exact fun H locs ls hP hS hl => lv_astore_n C.x C.b hdg (rfl : (2 : Nat) = 2) hl hn rfl (fun ls2 h2 => k H locs ls2 hP hS (LV.set1 (lv := a0 :: a1 :: z :: L) h2 hc rfl))
theorem V_aloadN_2 (C : Cx X own cc ret fr lo) {a0 a1 : Value} {L : List Value} (hq : pc + 2 = q) (hdg : decode cc pc = .ok (.aload 2, 2)) (k : V X q (a0 :: a1 :: .null :: L) (.null :: st) σ) : V X pc (a0 :: a1 :: .null :: L) st σ := by subst hq; exact fun H locs ls hP hS hl => lv_aloadN C.x C.b hdg (hl.at (i := 2) rfl rfl) (k H locs ls hP hS hl)
theorem V_aload_nN_2 (C : Cx X own cc ret fr lo) {a0 a1 : Value} {L : List Value} (hq : pc + 1 = q) (hdg : decode cc pc = .ok (.aload_n 2, 1)) (k : V X q (a0 :: a1 :: .null :: L) (.null :: st) σ) : V X pc (a0 :: a1 :: .null :: L) st σ := by subst hq; exact fun H locs ls hP hS hl => lv_aload_nN C.x C.b hdg (rfl : (2 : Nat) = 2) (hl.at (i := 2) rfl rfl) (k H locs ls hP hS hl)
theorem V_astoreN_2 (C : Cx X own cc ret fr lo) {a0 a1 : Value} {z : Value} {L : List Value} (hn : 2 < xn X) (hc : (a0 :: a1 :: z :: L).all (fun v => v.category == 1) = true) (hq : pc + 2 = q) (hdg : decode cc pc = .ok (.astore 2, 2)) (k : V X q (a0 :: a1 :: .null :: L) st σ) : V X pc (a0 :: a1 :: z :: L) (.null :: st) σ := by subst hq; exact fun H locs ls hP hS hl => lv_astoreN C.x C.b hdg hl hn rfl (fun ls2 h2 => k H locs ls2 hP hS (LV.set1 (lv := a0 :: a1 :: z :: L) h2 hc rfl))
theorem V_astore_nN_2 (C : Cx X own cc ret fr lo) {a0 a1 : Value} {z : Value} {L : List Value} (hn : 2 < xn X) (hc : (a0 :: a1 :: z :: L).all (fun v => v.category == 1) = true) (hq : pc + 1 = q) (hdg : decode cc pc = .ok (.astore_n 2, 1)) (k : V X q (a0 :: a1 :: .null :: L) st σ) : V X pc (a0 :: a1 :: z :: L) (.null :: st) σ := by subst hq; exact fun H locs ls hP hS hl => lv_astore_nN C.x C.b hdg (rfl : (2 : Nat) = 2) hl hn rfl (fun ls2 h2 => k H locs ls2 hP hS (LV.set1 (lv := a0 :: a1 :: z :: L) h2 hc rfl))
theorem V_iinc_2 (C : Cx X own cc ret fr lo) {a0 a1 : Value} {L : List Value} {n : Int} {x v : Int32} (hv : x + Int32.ofInt n = v) (hn : 2 < xn X) (hc : (a0 :: a1 :: .int x :: L).all (fun v => v.category == 1) = true) (hq : pc + 3 = q) (hdg : decode cc pc = .ok (.iinc 2 n, 3)) (k : V X q (a0 :: a1 :: .int v :: L) st σ) : V X pc (a0 :: a1 :: .int x :: L) st σ := by subst hq; exact fun H locs ls hP hS hl => V_iincg C (lv := a0 :: a1 :: .int x :: L) (i := 2) hv hn hc rfl hdg (fun ls2 h2 => k H locs ls2 hP hS h2) hP hS hl
theorem V_iload_3 (C : Cx X own cc ret fr lo) {a0 a1 a2 : Value} {L : List Value} {x : Int32} (hq : pc + 2 = q) (hdg : decode cc pc = .ok (.iload 3, 2)) (k : V X q (a0 :: a1 :: a2 :: .int x :: L) (.int x :: st) σ) : V X pc (a0 :: a1 :: a2 :: .int x :: L) st σ := by subst hq; exact fun H locs ls hP hS hl => lv_iload C.x C.b hdg (hl.at (i := 3) rfl rfl) (k H locs ls hP hS hl)
theorem V_iload_n_3 (C : Cx X own cc ret fr lo) {a0 a1 a2 : Value} {L : List Value} {x : Int32} (hq : pc + 1 = q) (hdg : decode cc pc = .ok (.iload_n 3, 1)) (k : V X q (a0 :: a1 :: a2 :: .int x :: L) (.int x :: st) σ) : V X pc (a0 :: a1 :: a2 :: .int x :: L) st σ := by subst hq; exact fun H locs ls hP hS hl => lv_iload_n C.x C.b hdg (rfl : (3 : Nat) = 3) (hl.at (i := 3) rfl rfl) (k H locs ls hP hS hl)
theorem V_istore_3 (C : Cx X own cc ret fr lo) {a0 a1 a2 : Value} {z : Value} {L : List Value} {x : Int32} (hn : 3 < xn X) (hc : (a0 :: a1 :: a2 :: z :: L).all (fun v => v.category == 1) = true) (hq : pc + 2 = q) (hdg : decode cc pc = .ok (.istore 3, 2)) (k : V X q (a0 :: a1 :: a2 :: .int x :: L) st σ) : V X pc (a0 :: a1 :: a2 :: z :: L) (.int x :: st) σ := by subst hq; exact fun H locs ls hP hS hl => lv_istore C.x C.b hdg hl hn rfl (fun ls2 h2 => k H locs ls2 hP hS (LV.set1 (lv := a0 :: a1 :: a2 :: z :: L) h2 hc rfl))
theorem V_istore_n_3 (C : Cx X own cc ret fr lo) {a0 a1 a2 : Value} {z : Value} {L : List Value} {x : Int32} (hn : 3 < xn X) (hc : (a0 :: a1 :: a2 :: z :: L).all (fun v => v.category == 1) = true) (hq : pc + 1 = q) (hdg : decode cc pc = .ok (.istore_n 3, 1)) (k : V X q (a0 :: a1 :: a2 :: .int x :: L) st σ) : V X pc (a0 :: a1 :: a2 :: z :: L) (.int x :: st) σ := by subst hq; exact fun H locs ls hP hS hl => lv_istore_n C.x C.b hdg (rfl : (3 : Nat) = 3) hl hn rfl (fun ls2 h2 => k H locs ls2 hP hS (LV.set1 (lv := a0 :: a1 :: a2 :: z :: L) h2 hc rfl))
theorem V_lload_3 (C : Cx X own cc ret fr lo) {a0 a1 a2 : Value} {L : List Value} {x : Int64} (hq : pc + 2 = q) (hdg : decode cc pc = .ok (.lload 3, 2)) (k : V X q (a0 :: a1 :: a2 :: .long x :: L) (.long x :: st) σ) : V X pc (a0 :: a1 :: a2 :: .long x :: L) st σ := by subst hq; exact fun H locs ls hP hS hl => lv_lload C.x C.b hdg (hl.at (i := 3) rfl rfl) (k H locs ls hP hS hl)
theorem V_lload_n_3 (C : Cx X own cc ret fr lo) {a0 a1 a2 : Value} {L : List Value} {x : Int64} (hq : pc + 1 = q) (hdg : decode cc pc = .ok (.lload_n 3, 1)) (k : V X q (a0 :: a1 :: a2 :: .long x :: L) (.long x :: st) σ) : V X pc (a0 :: a1 :: a2 :: .long x :: L) st σ := by subst hq; exact fun H locs ls hP hS hl => lv_lload_n C.x C.b hdg (rfl : (3 : Nat) = 3) (hl.at (i := 3) rfl rfl) (k H locs ls hP hS hl)
theorem V_aload_3 (C : Cx X own cc ret fr lo) {a0 a1 a2 : Value} {L : List Value} {x : Nat} (hq : pc + 2 = q) (hdg : decode cc pc = .ok (.aload 3, 2)) (k : V X q (a0 :: a1 :: a2 :: .ref x :: L) (.ref x :: st) σ) : V X pc (a0 :: a1 :: a2 :: .ref x :: L) st σ := by subst hq; exact fun H locs ls hP hS hl => lv_aload C.x C.b hdg (hl.at (i := 3) rfl rfl) (k H locs ls hP hS hl)
theorem V_aload_n_3 (C : Cx X own cc ret fr lo) {a0 a1 a2 : Value} {L : List Value} {x : Nat} (hq : pc + 1 = q) (hdg : decode cc pc = .ok (.aload_n 3, 1)) (k : V X q (a0 :: a1 :: a2 :: .ref x :: L) (.ref x :: st) σ) : V X pc (a0 :: a1 :: a2 :: .ref x :: L) st σ := by subst hq; exact fun H locs ls hP hS hl => lv_aload_n C.x C.b hdg (rfl : (3 : Nat) = 3) (hl.at (i := 3) rfl rfl) (k H locs ls hP hS hl)
theorem V_astore_3 (C : Cx X own cc ret fr lo) {a0 a1 a2 : Value} {z : Value} {L : List Value} {x : Nat} (hn : 3 < xn X) (hc : (a0 :: a1 :: a2 :: z :: L).all (fun v => v.category == 1) = true) (hq : pc + 2 = q) (hdg : decode cc pc = .ok (.astore 3, 2)) (k : V X q (a0 :: a1 :: a2 :: .ref x :: L) st σ) : V X pc (a0 :: a1 :: a2 :: z :: L) (.ref x :: st) σ := by subst hq; exact fun H locs ls hP hS hl => lv_astore C.x C.b hdg hl hn rfl (fun ls2 h2 => k H locs ls2 hP hS (LV.set1 (lv := a0 :: a1 :: a2 :: z :: L) h2 hc rfl))
theorem V_astore_n_3 (C : Cx X own cc ret fr lo) {a0 a1 a2 : Value} {z : Value} {L : List Value} {x : Nat} (hn : 3 < xn X) (hc : (a0 :: a1 :: a2 :: z :: L).all (fun v => v.category == 1) = true) (hq : pc + 1 = q) (hdg : decode cc pc = .ok (.astore_n 3, 1)) (k : V X q (a0 :: a1 :: a2 :: .ref x :: L) st σ) : V X pc (a0 :: a1 :: a2 :: z :: L) (.ref x :: st) σ := by subst hq; exact fun H locs ls hP hS hl => lv_astore_n C.x C.b hdg (rfl : (3 : Nat) = 3) hl hn rfl (fun ls2 h2 => k H locs ls2 hP hS (LV.set1 (lv := a0 :: a1 :: a2 :: z :: L) h2 hc rfl))
theorem V_aloadN_3 (C : Cx X own cc ret fr lo) {a0 a1 a2 : Value} {L : List Value} (hq : pc + 2 = q) (hdg : decode cc pc = .ok (.aload 3, 2)) (k : V X q (a0 :: a1 :: a2 :: .null :: L) (.null :: st) σ) : V X pc (a0 :: a1 :: a2 :: .null :: L) st σ := by subst hq; exact fun H locs ls hP hS hl => lv_aloadN C.x C.b hdg (hl.at (i := 3) rfl rfl) (k H locs ls hP hS hl)
theorem V_aload_nN_3 (C : Cx X own cc ret fr lo) {a0 a1 a2 : Value} {L : List Value} (hq : pc + 1 = q) (hdg : decode cc pc = .ok (.aload_n 3, 1)) (k : V X q (a0 :: a1 :: a2 :: .null :: L) (.null :: st) σ) : V X pc (a0 :: a1 :: a2 :: .null :: L) st σ := by subst hq; exact fun H locs ls hP hS hl => lv_aload_nN C.x C.b hdg (rfl : (3 : Nat) = 3) (hl.at (i := 3) rfl rfl) (k H locs ls hP hS hl)
theorem V_astoreN_3 (C : Cx X own cc ret fr lo) {a0 a1 a2 : Value} {z : Value} {L : List Value} (hn : 3 < xn X) (hc : (a0 :: a1 :: a2 :: z :: L).all (fun v => v.category == 1) = true) (hq : pc + 2 = q) (hdg : decode cc pc = .ok (.astore 3, 2)) (k : V X q (a0 :: a1 :: a2 :: .null :: L) st σ) : V X pc (a0 :: a1 :: a2 :: z :: L) (.null :: st) σ := by subst hq; exact fun H locs ls hP hS hl => lv_astoreN C.x C.b hdg hl hn rfl (fun ls2 h2 => k H locs ls2 hP hS (LV.set1 (lv := a0 :: a1 :: a2 :: z :: L) h2 hc rfl))
theorem V_astore_nN_3 (C : Cx X own cc ret fr lo) {a0 a1 a2 : Value} {z : Value} {L : List Value} (hn : 3 < xn X) (hc : (a0 :: a1 :: a2 :: z :: L).all (fun v => v.category == 1) = true) (hq : pc + 1 = q) (hdg : decode cc pc = .ok (.astore_n 3, 1)) (k : V X q (a0 :: a1 :: a2 :: .null :: L) st σ) : V X pc (a0 :: a1 :: a2 :: z :: L) (.null :: st) σ := by subst hq; exact fun H locs ls hP hS hl => lv_astore_nN C.x C.b hdg (rfl : (3 : Nat) = 3) hl hn rfl (fun ls2 h2 => k H locs ls2 hP hS (LV.set1 (lv := a0 :: a1 :: a2 :: z :: L) h2 hc rfl))
theorem V_iinc_3 (C : Cx X own cc ret fr lo) {a0 a1 a2 : Value} {L : List Value} {n : Int} {x v : Int32} (hv : x + Int32.ofInt n = v) (hn : 3 < xn X) (hc : (a0 :: a1 :: a2 :: .int x :: L).all (fun v => v.category == 1) = true) (hq : pc + 3 = q) (hdg : decode cc pc = .ok (.iinc 3 n, 3)) (k : V X q (a0 :: a1 :: a2 :: .int v :: L) st σ) : V X pc (a0 :: a1 :: a2 :: .int x :: L) st σ := by subst hq; exact fun H locs ls hP hS hl => V_iincg C (lv := a0 :: a1 :: a2 :: .int x :: L) (i := 3) hv hn hc rfl hdg (fun ls2 h2 => k H locs ls2 hP hS h2) hP hS hl
theorem V_iload_4 (C : Cx X own cc ret fr lo) {a0 a1 a2 a3 : Value} {L : List Value} {x : Int32} (hq : pc + 2 = q) (hdg : decode cc pc = .ok (.iload 4, 2)) (k : V X q (a0 :: a1 :: a2 :: a3 :: .int x :: L) (.int x :: st) σ) : V X pc (a0 :: a1 :: a2 :: a3 :: .int x :: L) st σ := by subst hq; exact fun H locs ls hP hS hl => lv_iload C.x C.b hdg (hl.at (i := 4) rfl rfl) (k H locs ls hP hS hl)
theorem V_istore_4 (C : Cx X own cc ret fr lo) {a0 a1 a2 a3 : Value} {z : Value} {L : List Value} {x : Int32} (hn : 4 < xn X) (hc : (a0 :: a1 :: a2 :: a3 :: z :: L).all (fun v => v.category == 1) = true) (hq : pc + 2 = q) (hdg : decode cc pc = .ok (.istore 4, 2)) (k : V X q (a0 :: a1 :: a2 :: a3 :: .int x :: L) st σ) : V X pc (a0 :: a1 :: a2 :: a3 :: z :: L) (.int x :: st) σ := by subst hq; exact fun H locs ls hP hS hl => lv_istore C.x C.b hdg hl hn rfl (fun ls2 h2 => k H locs ls2 hP hS (LV.set1 (lv := a0 :: a1 :: a2 :: a3 :: z :: L) h2 hc rfl))
theorem V_aload_4 (C : Cx X own cc ret fr lo) {a0 a1 a2 a3 : Value} {L : List Value} {x : Nat} (hq : pc + 2 = q) (hdg : decode cc pc = .ok (.aload 4, 2)) (k : V X q (a0 :: a1 :: a2 :: a3 :: .ref x :: L) (.ref x :: st) σ) : V X pc (a0 :: a1 :: a2 :: a3 :: .ref x :: L) st σ := by subst hq; exact fun H locs ls hP hS hl => lv_aload C.x C.b hdg (hl.at (i := 4) rfl rfl) (k H locs ls hP hS hl)
theorem V_astore_4 (C : Cx X own cc ret fr lo) {a0 a1 a2 a3 : Value} {z : Value} {L : List Value} {x : Nat} (hn : 4 < xn X) (hc : (a0 :: a1 :: a2 :: a3 :: z :: L).all (fun v => v.category == 1) = true) (hq : pc + 2 = q) (hdg : decode cc pc = .ok (.astore 4, 2)) (k : V X q (a0 :: a1 :: a2 :: a3 :: .ref x :: L) st σ) : V X pc (a0 :: a1 :: a2 :: a3 :: z :: L) (.ref x :: st) σ := by subst hq; exact fun H locs ls hP hS hl => lv_astore C.x C.b hdg hl hn rfl (fun ls2 h2 => k H locs ls2 hP hS (LV.set1 (lv := a0 :: a1 :: a2 :: a3 :: z :: L) h2 hc rfl))
theorem V_aloadN_4 (C : Cx X own cc ret fr lo) {a0 a1 a2 a3 : Value} {L : List Value} (hq : pc + 2 = q) (hdg : decode cc pc = .ok (.aload 4, 2)) (k : V X q (a0 :: a1 :: a2 :: a3 :: .null :: L) (.null :: st) σ) : V X pc (a0 :: a1 :: a2 :: a3 :: .null :: L) st σ := by subst hq; exact fun H locs ls hP hS hl => lv_aloadN C.x C.b hdg (hl.at (i := 4) rfl rfl) (k H locs ls hP hS hl)
theorem V_astoreN_4 (C : Cx X own cc ret fr lo) {a0 a1 a2 a3 : Value} {z : Value} {L : List Value} (hn : 4 < xn X) (hc : (a0 :: a1 :: a2 :: a3 :: z :: L).all (fun v => v.category == 1) = true) (hq : pc + 2 = q) (hdg : decode cc pc = .ok (.astore 4, 2)) (k : V X q (a0 :: a1 :: a2 :: a3 :: .null :: L) st σ) : V X pc (a0 :: a1 :: a2 :: a3 :: z :: L) (.null :: st) σ := by subst hq; exact fun H locs ls hP hS hl => lv_astoreN C.x C.b hdg hl hn rfl (fun ls2 h2 => k H locs ls2 hP hS (LV.set1 (lv := a0 :: a1 :: a2 :: a3 :: z :: L) h2 hc rfl))
theorem V_iinc_4 (C : Cx X own cc ret fr lo) {a0 a1 a2 a3 : Value} {L : List Value} {n : Int} {x v : Int32} (hv : x + Int32.ofInt n = v) (hn : 4 < xn X) (hc : (a0 :: a1 :: a2 :: a3 :: .int x :: L).all (fun v => v.category == 1) = true) (hq : pc + 3 = q) (hdg : decode cc pc = .ok (.iinc 4 n, 3)) (k : V X q (a0 :: a1 :: a2 :: a3 :: .int v :: L) st σ) : V X pc (a0 :: a1 :: a2 :: a3 :: .int x :: L) st σ := by subst hq; exact fun H locs ls hP hS hl => V_iincg C (lv := a0 :: a1 :: a2 :: a3 :: .int x :: L) (i := 4) hv hn hc rfl hdg (fun ls2 h2 => k H locs ls2 hP hS h2) hP hS hl
theorem V_iload_5 (C : Cx X own cc ret fr lo) {a0 a1 a2 a3 a4 : Value} {L : List Value} {x : Int32} (hq : pc + 2 = q) (hdg : decode cc pc = .ok (.iload 5, 2)) (k : V X q (a0 :: a1 :: a2 :: a3 :: a4 :: .int x :: L) (.int x :: st) σ) : V X pc (a0 :: a1 :: a2 :: a3 :: a4 :: .int x :: L) st σ := by subst hq; exact fun H locs ls hP hS hl => lv_iload C.x C.b hdg (hl.at (i := 5) rfl rfl) (k H locs ls hP hS hl)
theorem V_istore_5 (C : Cx X own cc ret fr lo) {a0 a1 a2 a3 a4 : Value} {z : Value} {L : List Value} {x : Int32} (hn : 5 < xn X) (hc : (a0 :: a1 :: a2 :: a3 :: a4 :: z :: L).all (fun v => v.category == 1) = true) (hq : pc + 2 = q) (hdg : decode cc pc = .ok (.istore 5, 2)) (k : V X q (a0 :: a1 :: a2 :: a3 :: a4 :: .int x :: L) st σ) : V X pc (a0 :: a1 :: a2 :: a3 :: a4 :: z :: L) (.int x :: st) σ := by subst hq; exact fun H locs ls hP hS hl => lv_istore C.x C.b hdg hl hn rfl (fun ls2 h2 => k H locs ls2 hP hS (LV.set1 (lv := a0 :: a1 :: a2 :: a3 :: a4 :: z :: L) h2 hc rfl))
theorem V_lload_5 (C : Cx X own cc ret fr lo) {a0 a1 a2 a3 a4 : Value} {L : List Value} {x : Int64} (hq : pc + 2 = q) (hdg : decode cc pc = .ok (.lload 5, 2)) (k : V X q (a0 :: a1 :: a2 :: a3 :: a4 :: .long x :: L) (.long x :: st) σ) : V X pc (a0 :: a1 :: a2 :: a3 :: a4 :: .long x :: L) st σ := by subst hq; exact fun H locs ls hP hS hl => lv_lload C.x C.b hdg (hl.at (i := 5) rfl rfl) (k H locs ls hP hS hl)
theorem V_aload_5 (C : Cx X own cc ret fr lo) {a0 a1 a2 a3 a4 : Value} {L : List Value} {x : Nat} (hq : pc + 2 = q) (hdg : decode cc pc = .ok (.aload 5, 2)) (k : V X q (a0 :: a1 :: a2 :: a3 :: a4 :: .ref x :: L) (.ref x :: st) σ) : V X pc (a0 :: a1 :: a2 :: a3 :: a4 :: .ref x :: L) st σ := by subst hq; exact fun H locs ls hP hS hl => lv_aload C.x C.b hdg (hl.at (i := 5) rfl rfl) (k H locs ls hP hS hl)
theorem V_astore_5 (C : Cx X own cc ret fr lo) {a0 a1 a2 a3 a4 : Value} {z : Value} {L : List Value} {x : Nat} (hn : 5 < xn X) (hc : (a0 :: a1 :: a2 :: a3 :: a4 :: z :: L).all (fun v => v.category == 1) = true) (hq : pc + 2 = q) (hdg : decode cc pc = .ok (.astore 5, 2)) (k : V X q (a0 :: a1 :: a2 :: a3 :: a4 :: .ref x :: L) st σ) : V X pc (a0 :: a1 :: a2 :: a3 :: a4 :: z :: L) (.ref x :: st) σ := by subst hq; exact fun H locs ls hP hS hl => lv_astore C.x C.b hdg hl hn rfl (fun ls2 h2 => k H locs ls2 hP hS (LV.set1 (lv := a0 :: a1 :: a2 :: a3 :: a4 :: z :: L) h2 hc rfl))
theorem V_aloadN_5 (C : Cx X own cc ret fr lo) {a0 a1 a2 a3 a4 : Value} {L : List Value} (hq : pc + 2 = q) (hdg : decode cc pc = .ok (.aload 5, 2)) (k : V X q (a0 :: a1 :: a2 :: a3 :: a4 :: .null :: L) (.null :: st) σ) : V X pc (a0 :: a1 :: a2 :: a3 :: a4 :: .null :: L) st σ := by subst hq; exact fun H locs ls hP hS hl => lv_aloadN C.x C.b hdg (hl.at (i := 5) rfl rfl) (k H locs ls hP hS hl)
theorem V_astoreN_5 (C : Cx X own cc ret fr lo) {a0 a1 a2 a3 a4 : Value} {z : Value} {L : List Value} (hn : 5 < xn X) (hc : (a0 :: a1 :: a2 :: a3 :: a4 :: z :: L).all (fun v => v.category == 1) = true) (hq : pc + 2 = q) (hdg : decode cc pc = .ok (.astore 5, 2)) (k : V X q (a0 :: a1 :: a2 :: a3 :: a4 :: .null :: L) st σ) : V X pc (a0 :: a1 :: a2 :: a3 :: a4 :: z :: L) (.null :: st) σ := by subst hq; exact fun H locs ls hP hS hl => lv_astoreN C.x C.b hdg hl hn rfl (fun ls2 h2 => k H locs ls2 hP hS (LV.set1 (lv := a0 :: a1 :: a2 :: a3 :: a4 :: z :: L) h2 hc rfl))
theorem V_iinc_5 (C : Cx X own cc ret fr lo) {a0 a1 a2 a3 a4 : Value} {L : List Value} {n : Int} {x v : Int32} (hv : x + Int32.ofInt n = v) (hn : 5 < xn X) (hc : (a0 :: a1 :: a2 :: a3 :: a4 :: .int x :: L).all (fun v => v.category == 1) = true) (hq : pc + 3 = q) (hdg : decode cc pc = .ok (.iinc 5 n, 3)) (k : V X q (a0 :: a1 :: a2 :: a3 :: a4 :: .int v :: L) st σ) : V X pc (a0 :: a1 :: a2 :: a3 :: a4 :: .int x :: L) st σ := by subst hq; exact fun H locs ls hP hS hl => V_iincg C (lv := a0 :: a1 :: a2 :: a3 :: a4 :: .int x :: L) (i := 5) hv hn hc rfl hdg (fun ls2 h2 => k H locs ls2 hP hS h2) hP hS hl
theorem V_iload_6 (C : Cx X own cc ret fr lo) {a0 a1 a2 a3 a4 a5 : Value} {L : List Value} {x : Int32} (hq : pc + 2 = q) (hdg : decode cc pc = .ok (.iload 6, 2)) (k : V X q (a0 :: a1 :: a2 :: a3 :: a4 :: a5 :: .int x :: L) (.int x :: st) σ) : V X pc (a0 :: a1 :: a2 :: a3 :: a4 :: a5 :: .int x :: L) st σ := by subst hq; exact fun H locs ls hP hS hl => lv_iload C.x C.b hdg (hl.at (i := 6) rfl rfl) (k H locs ls hP hS hl)
theorem V_istore_6 (C : Cx X own cc ret fr lo) {a0 a1 a2 a3 a4 a5 : Value} {z : Value} {L : List Value} {x : Int32} (hn : 6 < xn X) (hc : (a0 :: a1 :: a2 :: a3 :: a4 :: a5 :: z :: L).all (fun v => v.category == 1) = true) (hq : pc + 2 = q) (hdg : decode cc pc = .ok (.istore 6, 2)) (k : V X q (a0 :: a1 :: a2 :: a3 :: a4 :: a5 :: .int x :: L) st σ) : V X pc (a0 :: a1 :: a2 :: a3 :: a4 :: a5 :: z :: L) (.int x :: st) σ := by subst hq; exact fun H locs ls hP hS hl => lv_istore C.x C.b hdg hl hn rfl (fun ls2 h2 => k H locs ls2 hP hS (LV.set1 (lv := a0 :: a1 :: a2 :: a3 :: a4 :: a5 :: z :: L) h2 hc rfl))
theorem V_aload_6 (C : Cx X own cc ret fr lo) {a0 a1 a2 a3 a4 a5 : Value} {L : List Value} {x : Nat} (hq : pc + 2 = q) (hdg : decode cc pc = .ok (.aload 6, 2)) (k : V X q (a0 :: a1 :: a2 :: a3 :: a4 :: a5 :: .ref x :: L) (.ref x :: st) σ) : V X pc (a0 :: a1 :: a2 :: a3 :: a4 :: a5 :: .ref x :: L) st σ := by subst hq; exact fun H locs ls hP hS hl => lv_aload C.x C.b hdg (hl.at (i := 6) rfl rfl) (k H locs ls hP hS hl)
theorem V_astore_6 (C : Cx X own cc ret fr lo) {a0 a1 a2 a3 a4 a5 : Value} {z : Value} {L : List Value} {x : Nat} (hn : 6 < xn X) (hc : (a0 :: a1 :: a2 :: a3 :: a4 :: a5 :: z :: L).all (fun v => v.category == 1) = true) (hq : pc + 2 = q) (hdg : decode cc pc = .ok (.astore 6, 2)) (k : V X q (a0 :: a1 :: a2 :: a3 :: a4 :: a5 :: .ref x :: L) st σ) : V X pc (a0 :: a1 :: a2 :: a3 :: a4 :: a5 :: z :: L) (.ref x :: st) σ := by subst hq; exact fun H locs ls hP hS hl => lv_astore C.x C.b hdg hl hn rfl (fun ls2 h2 => k H locs ls2 hP hS (LV.set1 (lv := a0 :: a1 :: a2 :: a3 :: a4 :: a5 :: z :: L) h2 hc rfl))
theorem V_aloadN_6 (C : Cx X own cc ret fr lo) {a0 a1 a2 a3 a4 a5 : Value} {L : List Value} (hq : pc + 2 = q) (hdg : decode cc pc = .ok (.aload 6, 2)) (k : V X q (a0 :: a1 :: a2 :: a3 :: a4 :: a5 :: .null :: L) (.null :: st) σ) : V X pc (a0 :: a1 :: a2 :: a3 :: a4 :: a5 :: .null :: L) st σ := by subst hq; exact fun H locs ls hP hS hl => lv_aloadN C.x C.b hdg (hl.at (i := 6) rfl rfl) (k H locs ls hP hS hl)
theorem V_astoreN_6 (C : Cx X own cc ret fr lo) {a0 a1 a2 a3 a4 a5 : Value} {z : Value} {L : List Value} (hn : 6 < xn X) (hc : (a0 :: a1 :: a2 :: a3 :: a4 :: a5 :: z :: L).all (fun v => v.category == 1) = true) (hq : pc + 2 = q) (hdg : decode cc pc = .ok (.astore 6, 2)) (k : V X q (a0 :: a1 :: a2 :: a3 :: a4 :: a5 :: .null :: L) st σ) : V X pc (a0 :: a1 :: a2 :: a3 :: a4 :: a5 :: z :: L) (.null :: st) σ := by subst hq; exact fun H locs ls hP hS hl => lv_astoreN C.x C.b hdg hl hn rfl (fun ls2 h2 => k H locs ls2 hP hS (LV.set1 (lv := a0 :: a1 :: a2 :: a3 :: a4 :: a5 :: z :: L) h2 hc rfl))
theorem V_iinc_6 (C : Cx X own cc ret fr lo) {a0 a1 a2 a3 a4 a5 : Value} {L : List Value} {n : Int} {x v : Int32} (hv : x + Int32.ofInt n = v) (hn : 6 < xn X) (hc : (a0 :: a1 :: a2 :: a3 :: a4 :: a5 :: .int x :: L).all (fun v => v.category == 1) = true) (hq : pc + 3 = q) (hdg : decode cc pc = .ok (.iinc 6 n, 3)) (k : V X q (a0 :: a1 :: a2 :: a3 :: a4 :: a5 :: .int v :: L) st σ) : V X pc (a0 :: a1 :: a2 :: a3 :: a4 :: a5 :: .int x :: L) st σ := by subst hq; exact fun H locs ls hP hS hl => V_iincg C (lv := a0 :: a1 :: a2 :: a3 :: a4 :: a5 :: .int x :: L) (i := 6) hv hn hc rfl hdg (fun ls2 h2 => k H locs ls2 hP hS h2) hP hS hl
theorem V_iload_7 (C : Cx X own cc ret fr lo) {a0 a1 a2 a3 a4 a5 a6 : Value} {L : List Value} {x : Int32} (hq : pc + 2 = q) (hdg : decode cc pc = .ok (.iload 7, 2)) (k : V X q (a0 :: a1 :: a2 :: a3 :: a4 :: a5 :: a6 :: .int x :: L) (.int x :: st) σ) : V X pc (a0 :: a1 :: a2 :: a3 :: a4 :: a5 :: a6 :: .int x :: L) st σ := by subst hq; exact fun H locs ls hP hS hl => lv_iload C.x C.b hdg (hl.at (i := 7) rfl rfl) (k H locs ls hP hS hl)
theorem V_istore_7 (C : Cx X own cc ret fr lo) {a0 a1 a2 a3 a4 a5 a6 : Value} {z : Value} {L : List Value} {x : Int32} (hn : 7 < xn X) (hc : (a0 :: a1 :: a2 :: a3 :: a4 :: a5 :: a6 :: z :: L).all (fun v => v.category == 1) = true) (hq : pc + 2 = q) (hdg : decode cc pc = .ok (.istore 7, 2)) (k : V X q (a0 :: a1 :: a2 :: a3 :: a4 :: a5 :: a6 :: .int x :: L) st σ) : V X pc (a0 :: a1 :: a2 :: a3 :: a4 :: a5 :: a6 :: z :: L) (.int x :: st) σ := by subst hq; exact fun H locs ls hP hS hl => lv_istore C.x C.b hdg hl hn rfl (fun ls2 h2 => k H locs ls2 hP hS (LV.set1 (lv := a0 :: a1 :: a2 :: a3 :: a4 :: a5 :: a6 :: z :: L) h2 hc rfl))
theorem V_lload_7 (C : Cx X own cc ret fr lo) {a0 a1 a2 a3 a4 a5 a6 : Value} {L : List Value} {x : Int64} (hq : pc + 2 = q) (hdg : decode cc pc = .ok (.lload 7, 2)) (k : V X q (a0 :: a1 :: a2 :: a3 :: a4 :: a5 :: a6 :: .long x :: L) (.long x :: st) σ) : V X pc (a0 :: a1 :: a2 :: a3 :: a4 :: a5 :: a6 :: .long x :: L) st σ := by subst hq; exact fun H locs ls hP hS hl => lv_lload C.x C.b hdg (hl.at (i := 7) rfl rfl) (k H locs ls hP hS hl)
theorem V_aload_7 (C : Cx X own cc ret fr lo) {a0 a1 a2 a3 a4 a5 a6 : Value} {L : List Value} {x : Nat} (hq : pc + 2 = q) (hdg : decode cc pc = .ok (.aload 7, 2)) (k : V X q (a0 :: a1 :: a2 :: a3 :: a4 :: a5 :: a6 :: .ref x :: L) (.ref x :: st) σ) : V X pc (a0 :: a1 :: a2 :: a3 :: a4 :: a5 :: a6 :: .ref x :: L) st σ := by subst hq; exact fun H locs ls hP hS hl => lv_aload C.x C.b hdg (hl.at (i := 7) rfl rfl) (k H locs ls hP hS hl)
theorem V_astore_7 (C : Cx X own cc ret fr lo) {a0 a1 a2 a3 a4 a5 a6 : Value} {z : Value} {L : List Value} {x : Nat} (hn : 7 < xn X) (hc : (a0 :: a1 :: a2 :: a3 :: a4 :: a5 :: a6 :: z :: L).all (fun v => v.category == 1) = true) (hq : pc + 2 = q) (hdg : decode cc pc = .ok (.astore 7, 2)) (k : V X q (a0 :: a1 :: a2 :: a3 :: a4 :: a5 :: a6 :: .ref x :: L) st σ) : V X pc (a0 :: a1 :: a2 :: a3 :: a4 :: a5 :: a6 :: z :: L) (.ref x :: st) σ := by subst hq; exact fun H locs ls hP hS hl => lv_astore C.x C.b hdg hl hn rfl (fun ls2 h2 => k H locs ls2 hP hS (LV.set1 (lv := a0 :: a1 :: a2 :: a3 :: a4 :: a5 :: a6 :: z :: L) h2 hc rfl))
theorem V_aloadN_7 (C : Cx X own cc ret fr lo) {a0 a1 a2 a3 a4 a5 a6 : Value} {L : List Value} (hq : pc + 2 = q) (hdg : decode cc pc = .ok (.aload 7, 2)) (k : V X q (a0 :: a1 :: a2 :: a3 :: a4 :: a5 :: a6 :: .null :: L) (.null :: st) σ) : V X pc (a0 :: a1 :: a2 :: a3 :: a4 :: a5 :: a6 :: .null :: L) st σ := by subst hq; exact fun H locs ls hP hS hl => lv_aloadN C.x C.b hdg (hl.at (i := 7) rfl rfl) (k H locs ls hP hS hl)
theorem V_astoreN_7 (C : Cx X own cc ret fr lo) {a0 a1 a2 a3 a4 a5 a6 : Value} {z : Value} {L : List Value} (hn : 7 < xn X) (hc : (a0 :: a1 :: a2 :: a3 :: a4 :: a5 :: a6 :: z :: L).all (fun v => v.category == 1) = true) (hq : pc + 2 = q) (hdg : decode cc pc = .ok (.astore 7, 2)) (k : V X q (a0 :: a1 :: a2 :: a3 :: a4 :: a5 :: a6 :: .null :: L) st σ) : V X pc (a0 :: a1 :: a2 :: a3 :: a4 :: a5 :: a6 :: z :: L) (.null :: st) σ := by subst hq; exact fun H locs ls hP hS hl => lv_astoreN C.x C.b hdg hl hn rfl (fun ls2 h2 => k H locs ls2 hP hS (LV.set1 (lv := a0 :: a1 :: a2 :: a3 :: a4 :: a5 :: a6 :: z :: L) h2 hc rfl))
theorem V_iinc_7 (C : Cx X own cc ret fr lo) {a0 a1 a2 a3 a4 a5 a6 : Value} {L : List Value} {n : Int} {x v : Int32} (hv : x + Int32.ofInt n = v) (hn : 7 < xn X) (hc : (a0 :: a1 :: a2 :: a3 :: a4 :: a5 :: a6 :: .int x :: L).all (fun v => v.category == 1) = true) (hq : pc + 3 = q) (hdg : decode cc pc = .ok (.iinc 7 n, 3)) (k : V X q (a0 :: a1 :: a2 :: a3 :: a4 :: a5 :: a6 :: .int v :: L) st σ) : V X pc (a0 :: a1 :: a2 :: a3 :: a4 :: a5 :: a6 :: .int x :: L) st σ := by subst hq; exact fun H locs ls hP hS hl => V_iincg C (lv := a0 :: a1 :: a2 :: a3 :: a4 :: a5 :: a6 :: .int x :: L) (i := 7) hv hn hc rfl hdg (fun ls2 h2 => k H locs ls2 hP hS h2) hP hS hl
theorem V_iload_8 (C : Cx X own cc ret fr lo) {a0 a1 a2 a3 a4 a5 a6 a7 : Value} {L : List Value} {x : Int32} (hq : pc + 2 = q) (hdg : decode cc pc = .ok (.iload 8, 2)) (k : V X q (a0 :: a1 :: a2 :: a3 :: a4 :: a5 :: a6 :: a7 :: .int x :: L) (.int x :: st) σ) : V X pc (a0 :: a1 :: a2 :: a3 :: a4 :: a5 :: a6 :: a7 :: .int x :: L) st σ := by subst hq; exact fun H locs ls hP hS hl => lv_iload C.x C.b hdg (hl.at (i := 8) rfl rfl) (k H locs ls hP hS hl)
theorem V_istore_8 (C : Cx X own cc ret fr lo) {a0 a1 a2 a3 a4 a5 a6 a7 : Value} {z : Value} {L : List Value} {x : Int32} (hn : 8 < xn X) (hc : (a0 :: a1 :: a2 :: a3 :: a4 :: a5 :: a6 :: a7 :: z :: L).all (fun v => v.category == 1) = true) (hq : pc + 2 = q) (hdg : decode cc pc = .ok (.istore 8, 2)) (k : V X q (a0 :: a1 :: a2 :: a3 :: a4 :: a5 :: a6 :: a7 :: .int x :: L) st σ) : V X pc (a0 :: a1 :: a2 :: a3 :: a4 :: a5 :: a6 :: a7 :: z :: L) (.int x :: st) σ := by subst hq; exact fun H locs ls hP hS hl => lv_istore C.x C.b hdg hl hn rfl (fun ls2 h2 => k H locs ls2 hP hS (LV.set1 (lv := a0 :: a1 :: a2 :: a3 :: a4 :: a5 :: a6 :: a7 :: z :: L) h2 hc rfl))
theorem V_aload_8 (C : Cx X own cc ret fr lo) {a0 a1 a2 a3 a4 a5 a6 a7 : Value} {L : List Value} {x : Nat} (hq : pc + 2 = q) (hdg : decode cc pc = .ok (.aload 8, 2)) (k : V X q (a0 :: a1 :: a2 :: a3 :: a4 :: a5 :: a6 :: a7 :: .ref x :: L) (.ref x :: st) σ) : V X pc (a0 :: a1 :: a2 :: a3 :: a4 :: a5 :: a6 :: a7 :: .ref x :: L) st σ := by subst hq; exact fun H locs ls hP hS hl => lv_aload C.x C.b hdg (hl.at (i := 8) rfl rfl) (k H locs ls hP hS hl)
theorem V_astore_8 (C : Cx X own cc ret fr lo) {a0 a1 a2 a3 a4 a5 a6 a7 : Value} {z : Value} {L : List Value} {x : Nat} (hn : 8 < xn X) (hc : (a0 :: a1 :: a2 :: a3 :: a4 :: a5 :: a6 :: a7 :: z :: L).all (fun v => v.category == 1) = true) (hq : pc + 2 = q) (hdg : decode cc pc = .ok (.astore 8, 2)) (k : V X q (a0 :: a1 :: a2 :: a3 :: a4 :: a5 :: a6 :: a7 :: .ref x :: L) st σ) : V X pc (a0 :: a1 :: a2 :: a3 :: a4 :: a5 :: a6 :: a7 :: z :: L) (.ref x :: st) σ := by subst hq; exact fun H locs ls hP hS hl => lv_astore C.x C.b hdg hl hn rfl (fun ls2 h2 => k H locs ls2 hP hS (LV.set1 (lv := a0 :: a1 :: a2 :: a3 :: a4 :: a5 :: a6 :: a7 :: z :: L) h2 hc rfl))
theorem V_aloadN_8 (C : Cx X own cc ret fr lo) {a0 a1 a2 a3 a4 a5 a6 a7 : Value} {L : List Value} (hq : pc + 2 = q) (hdg : decode cc pc = .ok (.aload 8, 2)) (k : V X q (a0 :: a1 :: a2 :: a3 :: a4 :: a5 :: a6 :: a7 :: .null :: L) (.null :: st) σ) : V X pc (a0 :: a1 :: a2 :: a3 :: a4 :: a5 :: a6 :: a7 :: .null :: L) st σ := by subst hq; exact fun H locs ls hP hS hl => lv_aloadN C.x C.b hdg (hl.at (i := 8) rfl rfl) (k H locs ls hP hS hl)
theorem V_astoreN_8 (C : Cx X own cc ret fr lo) {a0 a1 a2 a3 a4 a5 a6 a7 : Value} {z : Value} {L : List Value} (hn : 8 < xn X) (hc : (a0 :: a1 :: a2 :: a3 :: a4 :: a5 :: a6 :: a7 :: z :: L).all (fun v => v.category == 1) = true) (hq : pc + 2 = q) (hdg : decode cc pc = .ok (.astore 8, 2)) (k : V X q (a0 :: a1 :: a2 :: a3 :: a4 :: a5 :: a6 :: a7 :: .null :: L) st σ) : V X pc (a0 :: a1 :: a2 :: a3 :: a4 :: a5 :: a6 :: a7 :: z :: L) (.null :: st) σ := by subst hq; exact fun H locs ls hP hS hl => lv_astoreN C.x C.b hdg hl hn rfl (fun ls2 h2 => k H locs ls2 hP hS (LV.set1 (lv := a0 :: a1 :: a2 :: a3 :: a4 :: a5 :: a6 :: a7 :: z :: L) h2 hc rfl))
theorem V_iinc_8 (C : Cx X own cc ret fr lo) {a0 a1 a2 a3 a4 a5 a6 a7 : Value} {L : List Value} {n : Int} {x v : Int32} (hv : x + Int32.ofInt n = v) (hn : 8 < xn X) (hc : (a0 :: a1 :: a2 :: a3 :: a4 :: a5 :: a6 :: a7 :: .int x :: L).all (fun v => v.category == 1) = true) (hq : pc + 3 = q) (hdg : decode cc pc = .ok (.iinc 8 n, 3)) (k : V X q (a0 :: a1 :: a2 :: a3 :: a4 :: a5 :: a6 :: a7 :: .int v :: L) st σ) : V X pc (a0 :: a1 :: a2 :: a3 :: a4 :: a5 :: a6 :: a7 :: .int x :: L) st σ := by subst hq; exact fun H locs ls hP hS hl => V_iincg C (lv := a0 :: a1 :: a2 :: a3 :: a4 :: a5 :: a6 :: a7 :: .int x :: L) (i := 8) hv hn hc rfl hdg (fun ls2 h2 => k H locs ls2 hP hS h2) hP hS hl
theorem V_iload_9 (C : Cx X own cc ret fr lo) {a0 a1 a2 a3 a4 a5 a6 a7 a8 : Value} {L : List Value} {x : Int32} (hq : pc + 2 = q) (hdg : decode cc pc = .ok (.iload 9, 2)) (k : V X q (a0 :: a1 :: a2 :: a3 :: a4 :: a5 :: a6 :: a7 :: a8 :: .int x :: L) (.int x :: st) σ) : V X pc (a0 :: a1 :: a2 :: a3 :: a4 :: a5 :: a6 :: a7 :: a8 :: .int x :: L) st σ := by subst hq; exact fun H locs ls hP hS hl => lv_iload C.x C.b hdg (hl.at (i := 9) rfl rfl) (k H locs ls hP hS hl)
theorem V_istore_9 (C : Cx X own cc ret fr lo) {a0 a1 a2 a3 a4 a5 a6 a7 a8 : Value} {z : Value} {L : List Value} {x : Int32} (hn : 9 < xn X) (hc : (a0 :: a1 :: a2 :: a3 :: a4 :: a5 :: a6 :: a7 :: a8 :: z :: L).all (fun v => v.category == 1) = true) (hq : pc + 2 = q) (hdg : decode cc pc = .ok (.istore 9, 2)) (k : V X q (a0 :: a1 :: a2 :: a3 :: a4 :: a5 :: a6 :: a7 :: a8 :: .int x :: L) st σ) : V X pc (a0 :: a1 :: a2 :: a3 :: a4 :: a5 :: a6 :: a7 :: a8 :: z :: L) (.int x :: st) σ := by subst hq; exact fun H locs ls hP hS hl => lv_istore C.x C.b hdg hl hn rfl (fun ls2 h2 => k H locs ls2 hP hS (LV.set1 (lv := a0 :: a1 :: a2 :: a3 :: a4 :: a5 :: a6 :: a7 :: a8 :: z :: L) h2 hc rfl))
theorem V_lload_9 (C : Cx X own cc ret fr lo) {a0 a1 a2 a3 a4 a5 a6 a7 a8 : Value} {L : List Value} {x : Int64} (hq : pc + 2 = q) (hdg : decode cc pc = .ok (.lload 9, 2)) (k : V X q (a0 :: a1 :: a2 :: a3 :: a4 :: a5 :: a6 :: a7 :: a8 :: .long x :: L) (.long x :: st) σ) : V X pc (a0 :: a1 :: a2 :: a3 :: a4 :: a5 :: a6 :: a7 :: a8 :: .long x :: L) st σ := by subst hq; exact fun H locs ls hP hS hl => lv_lload C.x C.b hdg (hl.at (i := 9) rfl rfl) (k H locs ls hP hS hl)
theorem V_aload_9 (C : Cx X own cc ret fr lo) {a0 a1 a2 a3 a4 a5 a6 a7 a8 : Value} {L : List Value} {x : Nat} (hq : pc + 2 = q) (hdg : decode cc pc = .ok (.aload 9, 2)) (k : V X q (a0 :: a1 :: a2 :: a3 :: a4 :: a5 :: a6 :: a7 :: a8 :: .ref x :: L) (.ref x :: st) σ) : V X pc (a0 :: a1 :: a2 :: a3 :: a4 :: a5 :: a6 :: a7 :: a8 :: .ref x :: L) st σ := by subst hq; exact fun H locs ls hP hS hl => lv_aload C.x C.b hdg (hl.at (i := 9) rfl rfl) (k H locs ls hP hS hl)
theorem V_astore_9 (C : Cx X own cc ret fr lo) {a0 a1 a2 a3 a4 a5 a6 a7 a8 : Value} {z : Value} {L : List Value} {x : Nat} (hn : 9 < xn X) (hc : (a0 :: a1 :: a2 :: a3 :: a4 :: a5 :: a6 :: a7 :: a8 :: z :: L).all (fun v => v.category == 1) = true) (hq : pc + 2 = q) (hdg : decode cc pc = .ok (.astore 9, 2)) (k : V X q (a0 :: a1 :: a2 :: a3 :: a4 :: a5 :: a6 :: a7 :: a8 :: .ref x :: L) st σ) : V X pc (a0 :: a1 :: a2 :: a3 :: a4 :: a5 :: a6 :: a7 :: a8 :: z :: L) (.ref x :: st) σ := by subst hq; exact fun H locs ls hP hS hl => lv_astore C.x C.b hdg hl hn rfl (fun ls2 h2 => k H locs ls2 hP hS (LV.set1 (lv := a0 :: a1 :: a2 :: a3 :: a4 :: a5 :: a6 :: a7 :: a8 :: z :: L) h2 hc rfl))
theorem V_aloadN_9 (C : Cx X own cc ret fr lo) {a0 a1 a2 a3 a4 a5 a6 a7 a8 : Value} {L : List Value} (hq : pc + 2 = q) (hdg : decode cc pc = .ok (.aload 9, 2)) (k : V X q (a0 :: a1 :: a2 :: a3 :: a4 :: a5 :: a6 :: a7 :: a8 :: .null :: L) (.null :: st) σ) : V X pc (a0 :: a1 :: a2 :: a3 :: a4 :: a5 :: a6 :: a7 :: a8 :: .null :: L) st σ := by subst hq; exact fun H locs ls hP hS hl => lv_aloadN C.x C.b hdg (hl.at (i := 9) rfl rfl) (k H locs ls hP hS hl)
theorem V_astoreN_9 (C : Cx X own cc ret fr lo) {a0 a1 a2 a3 a4 a5 a6 a7 a8 : Value} {z : Value} {L : List Value} (hn : 9 < xn X) (hc : (a0 :: a1 :: a2 :: a3 :: a4 :: a5 :: a6 :: a7 :: a8 :: z :: L).all (fun v => v.category == 1) = true) (hq : pc + 2 = q) (hdg : decode cc pc = .ok (.astore 9, 2)) (k : V X q (a0 :: a1 :: a2 :: a3 :: a4 :: a5 :: a6 :: a7 :: a8 :: .null :: L) st σ) : V X pc (a0 :: a1 :: a2 :: a3 :: a4 :: a5 :: a6 :: a7 :: a8 :: z :: L) (.null :: st) σ := by subst hq; exact fun H locs ls hP hS hl => lv_astoreN C.x C.b hdg hl hn rfl (fun ls2 h2 => k H locs ls2 hP hS (LV.set1 (lv := a0 :: a1 :: a2 :: a3 :: a4 :: a5 :: a6 :: a7 :: a8 :: z :: L) h2 hc rfl))
theorem V_iinc_9 (C : Cx X own cc ret fr lo) {a0 a1 a2 a3 a4 a5 a6 a7 a8 : Value} {L : List Value} {n : Int} {x v : Int32} (hv : x + Int32.ofInt n = v) (hn : 9 < xn X) (hc : (a0 :: a1 :: a2 :: a3 :: a4 :: a5 :: a6 :: a7 :: a8 :: .int x :: L).all (fun v => v.category == 1) = true) (hq : pc + 3 = q) (hdg : decode cc pc = .ok (.iinc 9 n, 3)) (k : V X q (a0 :: a1 :: a2 :: a3 :: a4 :: a5 :: a6 :: a7 :: a8 :: .int v :: L) st σ) : V X pc (a0 :: a1 :: a2 :: a3 :: a4 :: a5 :: a6 :: a7 :: a8 :: .int x :: L) st σ := by subst hq; exact fun H locs ls hP hS hl => V_iincg C (lv := a0 :: a1 :: a2 :: a3 :: a4 :: a5 :: a6 :: a7 :: a8 :: .int x :: L) (i := 9) hv hn hc rfl hdg (fun ls2 h2 => k H locs ls2 hP hS h2) hP hS hl
theorem V_iload_10 (C : Cx X own cc ret fr lo) {a0 a1 a2 a3 a4 a5 a6 a7 a8 a9 : Value} {L : List Value} {x : Int32} (hq : pc + 2 = q) (hdg : decode cc pc = .ok (.iload 10, 2)) (k : V X q (a0 :: a1 :: a2 :: a3 :: a4 :: a5 :: a6 :: a7 :: a8 :: a9 :: .int x :: L) (.int x :: st) σ) : V X pc (a0 :: a1 :: a2 :: a3 :: a4 :: a5 :: a6 :: a7 :: a8 :: a9 :: .int x :: L) st σ := by subst hq; exact fun H locs ls hP hS hl => lv_iload C.x C.b hdg (hl.at (i := 10) rfl rfl) (k H locs ls hP hS hl)
theorem V_istore_10 (C : Cx X own cc ret fr lo) {a0 a1 a2 a3 a4 a5 a6 a7 a8 a9 : Value} {z : Value} {L : List Value} {x : Int32} (hn : 10 < xn X) (hc : (a0 :: a1 :: a2 :: a3 :: a4 :: a5 :: a6 :: a7 :: a8 :: a9 :: z :: L).all (fun v => v.category == 1) = true) (hq : pc + 2 = q) (hdg : decode cc pc = .ok (.istore 10, 2)) (k : V X q (a0 :: a1 :: a2 :: a3 :: a4 :: a5 :: a6 :: a7 :: a8 :: a9 :: .int x :: L) st σ) : V X pc (a0 :: a1 :: a2 :: a3 :: a4 :: a5 :: a6 :: a7 :: a8 :: a9 :: z :: L) (.int x :: st) σ := by subst hq; exact fun H locs ls hP hS hl => lv_istore C.x C.b hdg hl hn rfl (fun ls2 h2 => k H locs ls2 hP hS (LV.set1 (lv := a0 :: a1 :: a2 :: a3 :: a4 :: a5 :: a6 :: a7 :: a8 :: a9 :: z :: L) h2 hc rfl))
theorem V_aload_10 (C : Cx X own cc ret fr lo) {a0 a1 a2 a3 a4 a5 a6 a7 a8 a9 : Value} {L : List Value} {x : Nat} (hq : pc + 2 = q) (hdg : decode cc pc = .ok (.aload 10, 2)) (k : V X q (a0 :: a1 :: a2 :: a3 :: a4 :: a5 :: a6 :: a7 :: a8 :: a9 :: .ref x :: L) (.ref x :: st) σ) : V X pc (a0 :: a1 :: a2 :: a3 :: a4 :: a5 :: a6 :: a7 :: a8 :: a9 :: .ref x :: L) st σ := by subst hq; exact fun H locs ls hP hS hl => lv_aload C.x C.b hdg (hl.at (i := 10) rfl rfl) (k H locs ls hP hS hl)
theorem V_astore_10 (C : Cx X own cc ret fr lo) {a0 a1 a2 a3 a4 a5 a6 a7 a8 a9 : Value} {z : Value} {L : List Value} {x : Nat} (hn : 10 < xn X) (hc : (a0 :: a1 :: a2 :: a3 :: a4 :: a5 :: a6 :: a7 :: a8 :: a9 :: z :: L).all (fun v => v.category == 1) = true) (hq : pc + 2 = q) (hdg : decode cc pc = .ok (.astore 10, 2)) (k : V X q (a0 :: a1 :: a2 :: a3 :: a4 :: a5 :: a6 :: a7 :: a8 :: a9 :: .ref x :: L) st σ) : V X pc (a0 :: a1 :: a2 :: a3 :: a4 :: a5 :: a6 :: a7 :: a8 :: a9 :: z :: L) (.ref x :: st) σ := by subst hq; exact fun H locs ls hP hS hl => lv_astore C.x C.b hdg hl hn rfl (fun ls2 h2 => k H locs ls2 hP hS (LV.set1 (lv := a0 :: a1 :: a2 :: a3 :: a4 :: a5 :: a6 :: a7 :: a8 :: a9 :: z :: L) h2 hc rfl))
theorem V_aloadN_10 (C : Cx X own cc ret fr lo) {a0 a1 a2 a3 a4 a5 a6 a7 a8 a9 : Value} {L : List Value} (hq : pc + 2 = q) (hdg : decode cc pc = .ok (.aload 10, 2)) (k : V X q (a0 :: a1 :: a2 :: a3 :: a4 :: a5 :: a6 :: a7 :: a8 :: a9 :: .null :: L) (.null :: st) σ) : V X pc (a0 :: a1 :: a2 :: a3 :: a4 :: a5 :: a6 :: a7 :: a8 :: a9 :: .null :: L) st σ := by subst hq; exact fun H locs ls hP hS hl => lv_aloadN C.x C.b hdg (hl.at (i := 10) rfl rfl) (k H locs ls hP hS hl)
theorem V_astoreN_10 (C : Cx X own cc ret fr lo) {a0 a1 a2 a3 a4 a5 a6 a7 a8 a9 : Value} {z : Value} {L : List Value} (hn : 10 < xn X) (hc : (a0 :: a1 :: a2 :: a3 :: a4 :: a5 :: a6 :: a7 :: a8 :: a9 :: z :: L).all (fun v => v.category == 1) = true) (hq : pc + 2 = q) (hdg : decode cc pc = .ok (.astore 10, 2)) (k : V X q (a0 :: a1 :: a2 :: a3 :: a4 :: a5 :: a6 :: a7 :: a8 :: a9 :: .null :: L) st σ) : V X pc (a0 :: a1 :: a2 :: a3 :: a4 :: a5 :: a6 :: a7 :: a8 :: a9 :: z :: L) (.null :: st) σ := by subst hq; exact fun H locs ls hP hS hl => lv_astoreN C.x C.b hdg hl hn rfl (fun ls2 h2 => k H locs ls2 hP hS (LV.set1 (lv := a0 :: a1 :: a2 :: a3 :: a4 :: a5 :: a6 :: a7 :: a8 :: a9 :: z :: L) h2 hc rfl))
theorem V_iinc_10 (C : Cx X own cc ret fr lo) {a0 a1 a2 a3 a4 a5 a6 a7 a8 a9 : Value} {L : List Value} {n : Int} {x v : Int32} (hv : x + Int32.ofInt n = v) (hn : 10 < xn X) (hc : (a0 :: a1 :: a2 :: a3 :: a4 :: a5 :: a6 :: a7 :: a8 :: a9 :: .int x :: L).all (fun v => v.category == 1) = true) (hq : pc + 3 = q) (hdg : decode cc pc = .ok (.iinc 10 n, 3)) (k : V X q (a0 :: a1 :: a2 :: a3 :: a4 :: a5 :: a6 :: a7 :: a8 :: a9 :: .int v :: L) st σ) : V X pc (a0 :: a1 :: a2 :: a3 :: a4 :: a5 :: a6 :: a7 :: a8 :: a9 :: .int x :: L) st σ := by subst hq; exact fun H locs ls hP hS hl => V_iincg C (lv := a0 :: a1 :: a2 :: a3 :: a4 :: a5 :: a6 :: a7 :: a8 :: a9 :: .int x :: L) (i := 10) hv hn hc rfl hdg (fun ls2 h2 => k H locs ls2 hP hS h2) hP hS hl
theorem V_iload_11 (C : Cx X own cc ret fr lo) {a0 a1 a2 a3 a4 a5 a6 a7 a8 a9 a10 : Value} {L : List Value} {x : Int32} (hq : pc + 2 = q) (hdg : decode cc pc = .ok (.iload 11, 2)) (k : V X q (a0 :: a1 :: a2 :: a3 :: a4 :: a5 :: a6 :: a7 :: a8 :: a9 :: a10 :: .int x :: L) (.int x :: st) σ) : V X pc (a0 :: a1 :: a2 :: a3 :: a4 :: a5 :: a6 :: a7 :: a8 :: a9 :: a10 :: .int x :: L) st σ := by subst hq; exact fun H locs ls hP hS hl => lv_iload C.x C.b hdg (hl.at (i := 11) rfl rfl) (k H locs ls hP hS hl)
theorem V_istore_11 (C : Cx X own cc ret fr lo) {a0 a1 a2 a3 a4 a5 a6 a7 a8 a9 a10 : Value} {z : Value} {L : List Value} {x : Int32} (hn : 11 < xn X) (hc : (a0 :: a1 :: a2 :: a3 :: a4 :: a5 :: a6 :: a7 :: a8 :: a9 :: a10 :: z :: L).all (fun v => v.category == 1) = true) (hq : pc + 2 = q) (hdg : decode cc pc = .ok (.istore 11, 2)) (k : V X q (a0 :: a1 :: a2 :: a3 :: a4 :: a5 :: a6 :: a7 :: a8 :: a9 :: a10 :: .int x :: L) st σ) : V X pc (a0 :: a1 :: a2 :: a3 :: a4 :: a5 :: a6 :: a7 :: a8 :: a9 :: a10 :: z :: L) (.int x :: st) σ := by subst hq; exact fun H locs ls hP hS hl => lv_istore C.x C.b hdg hl hn rfl (fun ls2 h2 => k H locs ls2 hP hS (LV.set1 (lv := a0 :: a1 :: a2 :: a3 :: a4 :: a5 :: a6 :: a7 :: a8 :: a9 :: a10 :: z :: L) h2 hc rfl))
theorem V_aload_11 (C : Cx X own cc ret fr lo) {a0 a1 a2 a3 a4 a5 a6 a7 a8 a9 a10 : Value} {L : List Value} {x : Nat} (hq : pc + 2 = q) (hdg : decode cc pc = .ok (.aload 11, 2)) (k : V X q (a0 :: a1 :: a2 :: a3 :: a4 :: a5 :: a6 :: a7 :: a8 :: a9 :: a10 :: .ref x :: L) (.ref x :: st) σ) : V X pc (a0 :: a1 :: a2 :: a3 :: a4 :: a5 :: a6 :: a7 :: a8 :: a9 :: a10 :: .ref x :: L) st σ := by subst hq; exact fun H locs ls hP hS hl => lv_aload C.x C.b hdg (hl.at (i := 11) rfl rfl) (k H locs ls hP hS hl)
theorem V_astore_11 (C : Cx X own cc ret fr lo) {a0 a1 a2 a3 a4 a5 a6 a7 a8 a9 a10 : Value} {z : Value} {L : List Value} {x : Nat} (hn : 11 < xn X) (hc : (a0 :: a1 :: a2 :: a3 :: a4 :: a5 :: a6 :: a7 :: a8 :: a9 :: a10 :: z :: L).all (fun v => v.category == 1) = true) (hq : pc + 2 = q) (hdg : decode cc pc = .ok (.astore 11, 2)) (k : V X q (a0 :: a1 :: a2 :: a3 :: a4 :: a5 :: a6 :: a7 :: a8 :: a9 :: a10 :: .ref x :: L) st σ) : V X pc (a0 :: a1 :: a2 :: a3 :: a4 :: a5 :: a6 :: a7 :: a8 :: a9 :: a10 :: z :: L) (.ref x :: st) σ := by subst hq; exact fun H locs ls hP hS hl => lv_astore C.x C.b hdg hl hn rfl (fun ls2 h2 => k H locs ls2 hP hS (LV.set1 (lv := a0 :: a1 :: a2 :: a3 :: a4 :: a5 :: a6 :: a7 :: a8 :: a9 :: a10 :: z :: L) h2 hc rfl))
theorem V_aloadN_11 (C : Cx X own cc ret fr lo) {a0 a1 a2 a3 a4 a5 a6 a7 a8 a9 a10 : Value} {L : List Value} (hq : pc + 2 = q) (hdg : decode cc pc = .ok (.aload 11, 2)) (k : V X q (a0 :: a1 :: a2 :: a3 :: a4 :: a5 :: a6 :: a7 :: a8 :: a9 :: a10 :: .null :: L) (.null :: st) σ) : V X pc (a0 :: a1 :: a2 :: a3 :: a4 :: a5 :: a6 :: a7 :: a8 :: a9 :: a10 :: .null :: L) st σ := by subst hq; exact fun H locs ls hP hS hl => lv_aloadN C.x C.b hdg (hl.at (i := 11) rfl rfl) (k H locs ls hP hS hl)
theorem V_astoreN_11 (C : Cx X own cc ret fr lo) {a0 a1 a2 a3 a4 a5 a6 a7 a8 a9 a10 : Value} {z : Value} {L : List Value} (hn : 11 < xn X) (hc : (a0 :: a1 :: a2 :: a3 :: a4 :: a5 :: a6 :: a7 :: a8 :: a9 :: a10 :: z :: L).all (fun v => v.category == 1) = true) (hq : pc + 2 = q) (hdg : decode cc pc = .ok (.astore 11, 2)) (k : V X q (a0 :: a1 :: a2 :: a3 :: a4 :: a5 :: a6 :: a7 :: a8 :: a9 :: a10 :: .null :: L) st σ) : V X pc (a0 :: a1 :: a2 :: a3 :: a4 :: a5 :: a6 :: a7 :: a8 :: a9 :: a10 :: z :: L) (.null :: st) σ := by subst hq; exact fun H locs ls hP hS hl => lv_astoreN C.x C.b hdg hl hn rfl (fun ls2 h2 => k H locs ls2 hP hS (LV.set1 (lv := a0 :: a1 :: a2 :: a3 :: a4 :: a5 :: a6 :: a7 :: a8 :: a9 :: a10 :: z :: L) h2 hc rfl))
theorem V_iinc_11 (C : Cx X own cc ret fr lo) {a0 a1 a2 a3 a4 a5 a6 a7 a8 a9 a10 : Value} {L : List Value} {n : Int} {x v : Int32} (hv : x + Int32.ofInt n = v) (hn : 11 < xn X) (hc : (a0 :: a1 :: a2 :: a3 :: a4 :: a5 :: a6 :: a7 :: a8 :: a9 :: a10 :: .int x :: L).all (fun v => v.category == 1) = true) (hq : pc + 3 = q) (hdg : decode cc pc = .ok (.iinc 11 n, 3)) (k : V X q (a0 :: a1 :: a2 :: a3 :: a4 :: a5 :: a6 :: a7 :: a8 :: a9 :: a10 :: .int v :: L) st σ) : V X pc (a0 :: a1 :: a2 :: a3 :: a4 :: a5 :: a6 :: a7 :: a8 :: a9 :: a10 :: .int x :: L) st σ := by subst hq; exact fun H locs ls hP hS hl => V_iincg C (lv := a0 :: a1 :: a2 :: a3 :: a4 :: a5 :: a6 :: a7 :: a8 :: a9 :: a10 :: .int x :: L) (i := 11) hv hn hc rfl hdg (fun ls2 h2 => k H locs ls2 hP hS h2) hP hS hl
theorem V_iload_12 (C : Cx X own cc ret fr lo) {a0 a1 a2 a3 a4 a5 a6 a7 a8 a9 a10 a11 : Value} {L : List Value} {x : Int32} (hq : pc + 2 = q) (hdg : decode cc pc = .ok (.iload 12, 2)) (k : V X q (a0 :: a1 :: a2 :: a3 :: a4 :: a5 :: a6 :: a7 :: a8 :: a9 :: a10 :: a11 :: .int x :: L) (.int x :: st) σ) : V X pc (a0 :: a1 :: a2 :: a3 :: a4 :: a5 :: a6 :: a7 :: a8 :: a9 :: a10 :: a11 :: .int x :: L) st σ := by subst hq; exact fun H locs ls hP hS hl => lv_iload C.x C.b hdg (hl.at (i := 12) rfl rfl) (k H locs ls hP hS hl)
theorem V_istore_12 (C : Cx X own cc ret fr lo) {a0 a1 a2 a3 a4 a5 a6 a7 a8 a9 a10 a11 : Value} {z : Value} {L : List Value} {x : Int32} (hn : 12 < xn X) (hc : (a0 :: a1 :: a2 :: a3 :: a4 :: a5 :: a6 :: a7 :: a8 :: a9 :: a10 :: a11 :: z :: L).all (fun v => v.category == 1) = true) (hq : pc + 2 = q) (hdg : decode cc pc = .ok (.istore 12, 2)) (k : V X q (a0 :: a1 :: a2 :: a3 :: a4 :: a5 :: a6 :: a7 :: a8 :: a9 :: a10 :: a11 :: .int x :: L) st σ) : V X pc (a0 :: a1 :: a2 :: a3 :: a4 :: a5 :: a6 :: a7 :: a8 :: a9 :: a10 :: a11 :: z :: L) (.int x :: st) σ := by subst hq; exact fun H locs ls hP hS hl => lv_istore C.x C.b hdg hl hn rfl (fun ls2 h2 => k H locs ls2 hP hS (LV.set1 (lv := a0 :: a1 :: a2 :: a3 :: a4 :: a5 :: a6 :: a7 :: a8 :: a9 :: a10 :: a11 :: z :: L) h2 hc rfl))
theorem V_aload_12 (C : Cx X own cc ret fr lo) {a0 a1 a2 a3 a4 a5 a6 a7 a8 a9 a10 a11 : Value} {L : List Value} {x : Nat} (hq : pc + 2 = q) (hdg : decode cc pc = .ok (.aload 12, 2)) (k : V X q (a0 :: a1 :: a2 :: a3 :: a4 :: a5 :: a6 :: a7 :: a8 :: a9 :: a10 :: a11 :: .ref x :: L) (.ref x :: st) σ) : V X pc (a0 :: a1 :: a2 :: a3 :: a4 :: a5 :: a6 :: a7 :: a8 :: a9 :: a10 :: a11 :: .ref x :: L) st σ := by subst hq; exact fun H locs ls hP hS hl => lv_aload C.x C.b hdg (hl.at (i := 12) rfl rfl) (k H locs ls hP hS hl)
theorem V_astore_12 (C : Cx X own cc ret fr lo) {a0 a1 a2 a3 a4 a5 a6 a7 a8 a9 a10 a11 : Value} {z : Value} {L : List Value} {x : Nat} (hn : 12 < xn X) (hc : (a0 :: a1 :: a2 :: a3 :: a4 :: a5 :: a6 :: a7 :: a8 :: a9 :: a10 :: a11 :: z :: L).all (fun v => v.category == 1) = true) (hq : pc + 2 = q) (hdg : decode cc pc = .ok (.astore 12, 2)) (k : V X q (a0 :: a1 :: a2 :: a3 :: a4 :: a5 :: a6 :: a7 :: a8 :: a9 :: a10 :: a11 :: .ref x :: L) st σ) : V X pc (a0 :: a1 :: a2 :: a3 :: a4 :: a5 :: a6 :: a7 :: a8 :: a9 :: a10 :: a11 :: z :: L) (.ref x :: st) σ := by subst hq; exact fun H locs ls hP hS hl => lv_astore C.x C.b hdg hl hn rfl (fun ls2 h2 => k H locs ls2 hP hS (LV.set1 (lv := a0 :: a1 :: a2 :: a3 :: a4 :: a5 :: a6 :: a7 :: a8 :: a9 :: a10 :: a11 :: z :: L) h2 hc rfl))
theorem V_aloadN_12 (C : Cx X own cc ret fr lo) {a0 a1 a2 a3 a4 a5 a6 a7 a8 a9 a10 a11 : Value} {L : List Value} (hq : pc + 2 = q) (hdg : decode cc pc = .ok (.aload 12, 2)) (k : V X q (a0 :: a1 :: a2 :: a3 :: a4 :: a5 :: a6 :: a7 :: a8 :: a9 :: a10 :: a11 :: .null :: L) (.null :: st) σ) : V X pc (a0 :: a1 :: a2 :: a3 :: a4 :: a5 :: a6 :: a7 :: a8 :: a9 :: a10 :: a11 :: .null :: L) st σ := by subst hq; exact fun H locs ls hP hS hl => lv_aloadN C.x C.b hdg (hl.at (i := 12) rfl rfl) (k H locs ls hP hS hl)
theorem V_astoreN_12 (C : Cx X own cc ret fr lo) {a0 a1 a2 a3 a4 a5 a6 a7 a8 a9 a10 a11 : Value} {z : Value} {L : List Value} (hn : 12 < xn X) (hc : (a0 :: a1 :: a2 :: a3 :: a4 :: a5 :: a6 :: a7 :: a8 :: a9 :: a10 :: a11 :: z :: L).all (fun v => v.category == 1) = true) (hq : pc + 2 = q) (hdg : decode cc pc = .ok (.astore 12, 2)) (k : V X q (a0 :: a1 :: a2 :: a3 :: a4 :: a5 :: a6 :: a7 :: a8 :: a9 :: a10 :: a11 :: .null :: L) st σ) : V X pc (a0 :: a1 :: a2 :: a3 :: a4 :: a5 :: a6 :: a7 :: a8 :: a9 :: a10 :: a11 :: z :: L) (.null :: st) σ := by subst hq; exact fun H locs ls hP hS hl => lv_astoreN C.x C.b hdg hl hn rfl (fun ls2 h2 => k H locs ls2 hP hS (LV.set1 (lv := a0 :: a1 :: a2 :: a3 :: a4 :: a5 :: a6 :: a7 :: a8 :: a9 :: a10 :: a11 :: z :: L) h2 hc rfl))
theorem V_iinc_12 (C : Cx X own cc ret fr lo) {a0 a1 a2 a3 a4 a5 a6 a7 a8 a9 a10 a11 : Value} {L : List Value} {n : Int} {x v : Int32} (hv : x + Int32.ofInt n = v) (hn : 12 < xn X) (hc : (a0 :: a1 :: a2 :: a3 :: a4 :: a5 :: a6 :: a7 :: a8 :: a9 :: a10 :: a11 :: .int x :: L).all (fun v => v.category == 1) = true) (hq : pc + 3 = q) (hdg : decode cc pc = .ok (.iinc 12 n, 3)) (k : V X q (a0 :: a1 :: a2 :: a3 :: a4 :: a5 :: a6 :: a7 :: a8 :: a9 :: a10 :: a11 :: .int v :: L) st σ) : V X pc (a0 :: a1 :: a2 :: a3 :: a4 :: a5 :: a6 :: a7 :: a8 :: a9 :: a10 :: a11 :: .int x :: L) st σ := by subst hq; exact fun H locs ls hP hS hl => V_iincg C (lv := a0 :: a1 :: a2 :: a3 :: a4 :: a5 :: a6 :: a7 :: a8 :: a9 :: a10 :: a11 :: .int x :: L) (i := 12) hv hn hc rfl hdg (fun ls2 h2 => k H locs ls2 hP hS h2) hP hS hl
theorem V_iload_13 (C : Cx X own cc ret fr lo) {a0 a1 a2 a3 a4 a5 a6 a7 a8 a9 a10 a11 a12 : Value} {L : List Value} {x : Int32} (hq : pc + 2 = q) (hdg : decode cc pc = .ok (.iload 13, 2)) (k : V X q (a0 :: a1 :: a2 :: a3 :: a4 :: a5 :: a6 :: a7 :: a8 :: a9 :: a10 :: a11 :: a12 :: .int x :: L) (.int x :: st) σ) : V X pc (a0 :: a1 :: a2 :: a3 :: a4 :: a5 :: a6 :: a7 :: a8 :: a9 :: a10 :: a11 :: a12 :: .int x :: L) st σ := by subst hq; exact fun H locs ls hP hS hl => lv_iload C.x C.b hdg (hl.at (i := 13) rfl rfl) (k H locs ls hP hS hl)
theorem V_istore_13 (C : Cx X own cc ret fr lo) {a0 a1 a2 a3 a4 a5 a6 a7 a8 a9 a10 a11 a12 : Value} {z : Value} {L : List Value} {x : Int32} (hn : 13 < xn X) (hc : (a0 :: a1 :: a2 :: a3 :: a4 :: a5 :: a6 :: a7 :: a8 :: a9 :: a10 :: a11 :: a12 :: z :: L).all (fun v => v.category == 1) = true) (hq : pc + 2 = q) (hdg : decode cc pc = .ok (.istore 13, 2)) (k : V X q (a0 :: a1 :: a2 :: a3 :: a4 :: a5 :: a6 :: a7 :: a8 :: a9 :: a10 :: a11 :: a12 :: .int x :: L) st σ) : V X pc (a0 :: a1 :: a2 :: a3 :: a4 :: a5 :: a6 :: a7 :: a8 :: a9 :: a10 :: a11 :: a12 :: z :: L) (.int x :: st) σ := by subst hq; exact fun H locs ls hP hS hl => lv_istore C.x C.b hdg hl hn rfl (fun ls2 h2 => k H locs ls2 hP hS (LV.set1 (lv := a0 :: a1 :: a2 :: a3 :: a4 :: a5 :: a6 :: a7 :: a8 :: a9 :: a10 :: a11 :: a12 :: z :: L) h2 hc rfl))
theorem V_aload_13 (C : Cx X own cc ret fr lo) {a0 a1 a2 a3 a4 a5 a6 a7 a8 a9 a10 a11 a12 : Value} {L : List Value} {x : Nat} (hq : pc + 2 = q) (hdg : decode cc pc = .ok (.aload 13, 2)) (k : V X q (a0 :: a1 :: a2 :: a3 :: a4 :: a5 :: a6 :: a7 :: a8 :: a9 :: a10 :: a11 :: a12 :: .ref x :: L) (.ref x :: st) σ) : V X pc (a0 :: a1 :: a2 :: a3 :: a4 :: a5 :: a6 :: a7 :: a8 :: a9 :: a10 :: a11 :: a12 :: .ref x :: L) st σ := by subst hq; exact fun H locs ls hP hS hl => lv_aload C.x C.b hdg (hl.at (i := 13) rfl rfl) (k H locs ls hP hS hl)
theorem V_astore_13 (C : Cx X own cc ret fr lo) {a0 a1 a2 a3 a4 a5 a6 a7 a8 a9 a10 a11 a12 : Value} {z : Value} {L : List Value} {x : Nat} (hn : 13 < xn X) (hc : (a0 :: a1 :: a2 :: a3 :: a4 :: a5 :: a6 :: a7 :: a8 :: a9 :: a10 :: a11 :: a12 :: z :: L).all (fun v => v.category == 1) = true) (hq : pc + 2 = q) (hdg : decode cc pc = .ok (.astore 13, 2)) (k : V X q (a0 :: a1 :: a2 :: a3 :: a4 :: a5 :: a6 :: a7 :: a8 :: a9 :: a10 :: a11 :: a12 :: .ref x :: L) st σ) : V X pc (a0 :: a1 :: a2 :: a3 :: a4 :: a5 :: a6 :: a7 :: a8 :: a9 :: a10 :: a11 :: a12 :: z :: L) (.ref x :: st) σ := by subst hq; exact fun H locs ls hP hS hl => lv_astore C.x C.b hdg hl hn rfl (fun ls2 h2 => k H locs ls2 hP hS (LV.set1 (lv := a0 :: a1 :: a2 :: a3 :: a4 :: a5 :: a6 :: a7 :: a8 :: a9 :: a10 :: a11 :: a12 :: z :: L) h2 hc rfl))
theorem V_aloadN_13 (C : Cx X own cc ret fr lo) {a0 a1 a2 a3 a4 a5 a6 a7 a8 a9 a10 a11 a12 : Value} {L : List Value} (hq : pc + 2 = q) (hdg : decode cc pc = .ok (.aload 13, 2)) (k : V X q (a0 :: a1 :: a2 :: a3 :: a4 :: a5 :: a6 :: a7 :: a8 :: a9 :: a10 :: a11 :: a12 :: .null :: L) (.null :: st) σ) : V X pc (a0 :: a1 :: a2 :: a3 :: a4 :: a5 :: a6 :: a7 :: a8 :: a9 :: a10 :: a11 :: a12 :: .null :: L) st σ := by subst hq; exact fun H locs ls hP hS hl => lv_aloadN C.x C.b hdg (hl.at (i := 13) rfl rfl) (k H locs ls hP hS hl)
theorem V_astoreN_13 (C : Cx X own cc ret fr lo) {a0 a1 a2 a3 a4 a5 a6 a7 a8 a9 a10 a11 a12 : Value} {z : Value} {L : List Value} (hn : 13 < xn X) (hc : (a0 :: a1 :: a2 :: a3 :: a4 :: a5 :: a6 :: a7 :: a8 :: a9 :: a10 :: a11 :: a12 :: z :: L).all (fun v => v.category == 1) = true) (hq : pc + 2 = q) (hdg : decode cc pc = .ok (.astore 13, 2)) (k : V X q (a0 :: a1 :: a2 :: a3 :: a4 :: a5 :: a6 :: a7 :: a8 :: a9 :: a10 :: a11 :: a12 :: .null :: L) st σ) : V X pc (a0 :: a1 :: a2 :: a3 :: a4 :: a5 :: a6 :: a7 :: a8 :: a9 :: a10 :: a11 :: a12 :: z :: L) (.null :: st) σ := by subst hq; exact fun H locs ls hP hS hl => lv_astoreN C.x C.b hdg hl hn rfl (fun ls2 h2 => k H locs ls2 hP hS (LV.set1 (lv := a0 :: a1 :: a2 :: a3 :: a4 :: a5 :: a6 :: a7 :: a8 :: a9 :: a10 :: a11 :: a12 :: z :: L) h2 hc rfl))
theorem V_iinc_13 (C : Cx X own cc ret fr lo) {a0 a1 a2 a3 a4 a5 a6 a7 a8 a9 a10 a11 a12 : Value} {L : List Value} {n : Int} {x v : Int32} (hv : x + Int32.ofInt n = v) (hn : 13 < xn X) (hc : (a0 :: a1 :: a2 :: a3 :: a4 :: a5 :: a6 :: a7 :: a8 :: a9 :: a10 :: a11 :: a12 :: .int x :: L).all (fun v => v.category == 1) = true) (hq : pc + 3 = q) (hdg : decode cc pc = .ok (.iinc 13 n, 3)) (k : V X q (a0 :: a1 :: a2 :: a3 :: a4 :: a5 :: a6 :: a7 :: a8 :: a9 :: a10 :: a11 :: a12 :: .int v :: L) st σ) : V X pc (a0 :: a1 :: a2 :: a3 :: a4 :: a5 :: a6 :: a7 :: a8 :: a9 :: a10 :: a11 :: a12 :: .int x :: L) st σ := by subst hq; exact fun H locs ls hP hS hl => V_iincg C (lv := a0 :: a1 :: a2 :: a3 :: a4 :: a5 :: a6 :: a7 :: a8 :: a9 :: a10 :: a11 :: a12 :: .int x :: L) (i := 13) hv hn hc rfl hdg (fun ls2 h2 => k H locs ls2 hP hS h2) hP hS hl
theorem V_irem (C : Cx X own cc ret fr lo) {x y : Int32} (hne : ¬ y = 0) (hq : pc + 1 = q) (hdg : decode cc pc = .ok (.irem, 1)) (k : V X q lv (.int (x - x / y * y) :: st) σ) : V X pc lv (.int y :: .int x :: st) σ := by subst hq; exact fun H locs ls hP hS hl => lv_irem C.x C.b hdg hne (k H locs ls hP hS hl)
theorem V_ishl (C : Cx X own cc ret fr lo) {x y : Int32} (hq : pc + 1 = q) (hdg : decode cc pc = .ok (.ishl, 1)) (k : V X q lv (.int (x <<< (y &&& 31)) :: st) σ) : V X pc lv (.int y :: .int x :: st) σ := by subst hq; exact fun H locs ls hP hS hl => lv_ishl C.x C.b hdg (k H locs ls hP hS hl)
theorem V_ishr (C : Cx X own cc ret fr lo) {x y : Int32} (hq : pc + 1 = q) (hdg : decode cc pc = .ok (.ishr, 1)) (k : V X q lv (.int (x >>> (y &&& 31)) :: st) σ) : V X pc lv (.int y :: .int x :: st) σ := by subst hq; exact fun H locs ls hP hS hl => lv_ishr C.x C.b hdg (k H locs ls hP hS hl)
theorem V_iushr (C : Cx X own cc ret fr lo) {x y : Int32} (hq : pc + 1 = q) (hdg : decode cc pc = .ok (.iushr, 1)) (k : V X q lv (.int (x.toUInt32 >>> (y.toUInt32 &&& Int32.toUInt32 31)).toInt32 :: st) σ) : V X pc lv (.int y :: .int x :: st) σ := by subst hq; exact fun H locs ls hP hS hl => lv_iushr C.x C.b hdg rfl (k H locs ls hP hS hl)
theorem V_lshl (C : Cx X own cc ret fr lo) {x : Int64} {y : Int32} (hq : pc + 1 = q) (hdg : decode cc pc = .ok (.lshl, 1)) (k : V X q lv (.long (x <<< (y.toInt64 &&& 63)) :: st) σ) : V X pc lv (.int y :: .long x :: st) σ := by subst hq; exact fun H locs ls hP hS hl => lv_lshl C.x C.b hdg rfl (k H locs ls hP hS hl)
theorem V_ldiv (C : Cx X own cc ret fr lo) {x y : Int64} (hne : ¬ y = 0) (hq : pc + 1 = q) (hdg : decode cc pc = .ok (.ldiv, 1)) (k : V X q lv (.long (x / y) :: st) σ) : V X pc lv (.long y :: .long x :: st) σ := by subst hq; exact fun H locs ls hP hS hl => lv_ldiv C.x C.b hdg hne (k H locs ls hP hS hl)
theorem V_lrem (C : Cx X own cc ret fr lo) {x y : Int64} (hne : ¬ y = 0) (hq : pc + 1 = q) (hdg : decode cc pc = .ok (.lrem, 1)) (k : V X q lv (.long (x - x / y * y) :: st) σ) : V X pc lv (.long y :: .long x :: st) σ := by subst hq; exact fun H locs ls hP hS hl => lv_lrem C.x C.b hdg hne (k H locs ls hP hS hl)
theorem V_i2l (C : Cx X own cc ret fr lo) {x : Int32} (hq : pc + 1 = q) (hdg : decode cc pc = .ok (.i2l, 1)) (k : V X q lv (.long (x.toInt64) :: st) σ) : V X pc lv (.int x :: st) σ := by subst hq; exact fun H locs ls hP hS hl => lv_i2l C.x C.b hdg rfl (k H locs ls hP hS hl)
theorem V_i2b (C : Cx X own cc ret fr lo) {x : Int32} (hq : pc + 1 = q) (hdg : decode cc pc = .ok (.i2b, 1)) (k : V X q lv (.int (x.toInt8.toInt32) :: st) σ) : V X pc lv (.int x :: st) σ := by subst hq; exact fun H locs ls hP hS hl => lv_i2b C.x C.b hdg rfl (k H locs ls hP hS hl)
theorem V_i2s (C : Cx X own cc ret fr lo) {x : Int32} (hq : pc + 1 = q) (hdg : decode cc pc = .ok (.i2s, 1)) (k : V X q lv (.int (x.toInt16.toInt32) :: st) σ) : V X pc lv (.int x :: st) σ := by subst hq; exact fun H locs ls hP hS hl => lv_i2s C.x C.b hdg rfl (k H locs ls hP hS hl)
theorem V_lcmp (C : Cx X own cc ret fr lo) {x y : Int64} (hq : pc + 1 = q) (hdg : decode cc pc = .ok (.lcmp, 1)) (k : V X q lv (.int (lg_cmp x y) :: st) σ) : V X pc lv (.long y :: .long x :: st) σ := by subst hq; exact fun H locs ls hP hS hl => W.lcmp C.x C.b hdg (k H locs ls hP hS hl)
theorem V_dup (C : Cx X own cc ret fr lo) {v : Value} (hc : v.category = 1) (hq : pc + 1 = q) (hdg : decode cc pc = .ok (.dup, 1)) (k : V X q lv (v :: v :: st) σ) : V X pc lv (v :: st) σ := by subst hq; exact fun H locs ls hP hS hl => lv_dup C.x C.b hdg hc (k H locs ls hP hS hl)
theorem V_dup2 (C : Cx X own cc ret fr lo) {v u : Value} (hc : v.category = 1) (hc2 : u.category = 1) (hq : pc + 1 = q) (hdg : decode cc pc = .ok (.dup2, 1)) (k : V X q lv (v :: u :: v :: u :: st) σ) : V X pc lv (v :: u :: st) σ := by subst hq; exact fun H locs ls hP hS hl => lv_dup2_11 C.x C.b hdg hc hc2 (k H locs ls hP hS hl)
theorem V_ldcw (C : Cx X own cc ret fr lo) {idx : Nat} {v : Int32} (hw : Cond.constant own idx v ∈ TT) (hq : pc + 3 = q) (hdg : decode cc pc = .ok (.ldc_w idx, 3)) (k : V X q lv (.int v :: st) σ) : V X pc lv st σ := by subst hq; exact fun H locs ls hP hS hl => lv_ldcw C.x C.b C.ow (C.ts _ hw) hdg (k H locs ls hP hS hl)
theorem V_ldc (C : Cx X own cc ret fr lo) {idx : Nat} {v : Int32} (hw : Cond.constant own idx v ∈ TT) (hq : pc + 2 = q) (hdg : decode cc pc = .ok (.ldc idx, 2)) (k : V X q lv (.int v :: st) σ) : V X pc lv st σ := by subst hq; exact fun H locs ls hP hS hl => lv_ldc C.x C.b C.ow (C.ts _ hw) hdg (k H locs ls hP hS hl)
theorem V_ldc2 (C : Cx X own cc ret fr lo) {idx : Nat} {v : Int64} (hw : Cond.constantLong own idx v ∈ TT) (hq : pc + 3 = q) (hdg : decode cc pc = .ok (.ldc2_w idx, 3)) (k : V X q lv (.long v :: st) σ) : V X pc lv st σ := by subst hq; exact fun H locs ls hP hS hl => lv_ldc2 C.x C.b C.ow (C.ts _ hw) hdg (k H locs ls hP hS hl)
theorem V_if_eq (C : Cx X own cc ret fr lo) {x : Int32} {off : Int} {tgt : Nat} (hq : pc + 3 = q) (ht : (pc : Int) + off = (tgt : Int)) (hdg : decode cc pc = .ok (.ifCond .eq off, 3)) (kt : x = 0 → V X tgt lv st σ) (kf : ¬ x = 0 → V X q lv st σ) : V X pc lv (.int x :: st) σ := by subst hq; exact fun H locs ls hP hS hl => lv_if_eq C.x C.b hdg ht (fun h => kt h H locs ls hP hS hl) (fun h => kf h H locs ls hP hS hl)
theorem V_if_eq_t (C : Cx X own cc ret fr lo) {x : Int32} {off : Int} {tgt : Nat} (h : x = 0) (ht : (pc : Int) + off = (tgt : Int)) (hdg : decode cc pc = .ok (.ifCond .eq off, 3)) (kt : V X tgt lv st σ) : V X pc lv (.int x :: st) σ := V_if_eq C rfl ht hdg (fun _ => kt) (fun n => absurd h n)
theorem V_if_eq_f (C : Cx X own cc ret fr lo) {x : Int32} {off : Int} {tgt : Nat} (h : ¬ (x = 0)) (hq : pc + 3 = q) (ht : (pc : Int) + off = (tgt : Int)) (hdg : decode cc pc = .ok (.ifCond .eq off, 3)) (kf : V X q lv st σ) : V X pc lv (.int x :: st) σ := V_if_eq C hq ht hdg (fun n => absurd n h) (fun _ => kf)
theorem V_icmp_eq (C : Cx X own cc ret fr lo) {x y : Int32} {off : Int} {tgt : Nat} (hq : pc + 3 = q) (ht : (pc : Int) + off = (tgt : Int)) (hdg : decode cc pc = .ok (.if_icmp .eq off, 3)) (kt : x = y → V X tgt lv st σ) (kf : ¬ x = y → V X q lv st σ) : V X pc lv (.int y :: .int x :: st) σ := by subst hq; exact fun H locs ls hP hS hl => lv_icmp_eq C.x C.b hdg ht (fun h => kt h H locs ls hP hS hl) (fun h => kf h H locs ls hP hS hl)
theorem V_icmp_eq_t (C : Cx X own cc ret fr lo) {x y : Int32} {off : Int} {tgt : Nat} (h : x = y) (ht : (pc : Int) + off = (tgt : Int)) (hdg : decode cc pc = .ok (.if_icmp .eq off, 3)) (kt : V X tgt lv st σ) : V X pc lv (.int y :: .int x :: st) σ := V_icmp_eq C rfl ht hdg (fun _ => kt) (fun n => absurd h n)
theorem V_icmp_eq_f (C : Cx X own cc ret fr lo) {x y : Int32} {off : Int} {tgt : Nat} (h : ¬ (x = y)) (hq : pc + 3 = q) (ht : (pc : Int) + off = (tgt : Int)) (hdg : decode cc pc = .ok (.if_icmp .eq off, 3)) (kf : V X q lv st σ) : V X pc lv (.int y :: .int x :: st) σ := V_icmp_eq C hq ht hdg (fun n => absurd n h) (fun _ => kf)
theorem V_if_ne (C : Cx X own cc ret fr lo) {x : Int32} {off : Int} {tgt : Nat} (hq : pc + 3 = q) (ht : (pc : Int) + off = (tgt : Int)) (hdg : decode cc pc = .ok (.ifCond .ne off, 3)) (kt : ¬ x = 0 → V X tgt lv st σ) (kf : x = 0 → V X q lv st σ) : V X pc lv (.int x :: st) σ := by subst hq; exact fun H locs ls hP hS hl => lv_if_ne C.x C.b hdg ht (fun h => kt h H locs ls hP hS hl) (fun h => kf h H locs ls hP hS hl)
theorem V_if_ne_t (C : Cx X own cc ret fr lo) {x : Int32} {off : Int} {tgt : Nat} (h : ¬ x = 0) (ht : (pc : Int) + off = (tgt : Int)) (hdg : decode cc pc = .ok (.ifCond .ne off, 3)) (kt : V X tgt lv st σ) : V X pc lv (.int x :: st) σ := V_if_ne C rfl ht hdg (fun _ => kt) (fun n => absurd n h)
theorem V_if_ne_f (C : Cx X own cc ret fr lo) {x : Int32} {off : Int} {tgt : Nat} (h : x = 0) (hq : pc + 3 = q) (ht : (pc : Int) + off = (tgt : Int)) (hdg : decode cc pc = .ok (.ifCond .ne off, 3)) (kf : V X q lv st σ) : V X pc lv (.int x :: st) σ := V_if_ne C hq ht hdg (fun n => absurd h n) (fun _ => kf)
theorem V_icmp_ne (C : Cx X own cc ret fr lo) {x y : Int32} {off : Int} {tgt : Nat} (hq : pc + 3 = q) (ht : (pc : Int) + off = (tgt : Int)) (hdg : decode cc pc = .ok (.if_icmp .ne off, 3)) (kt : ¬ x = y → V X tgt lv st σ) (kf : x = y → V X q lv st σ) : V X pc lv (.int y :: .int x :: st) σ := by subst hq; exact fun H locs ls hP hS hl => lv_icmp_ne C.x C.b hdg ht (fun h => kt h H locs ls hP hS hl) (fun h => kf h H locs ls hP hS hl)
theorem V_icmp_ne_t (C : Cx X own cc ret fr lo) {x y : Int32} {off : Int} {tgt : Nat} (h : ¬ x = y) (ht : (pc : Int) + off = (tgt : Int)) (hdg : decode cc pc = .ok (.if_icmp .ne off, 3)) (kt : V X tgt lv st σ) : V X pc lv (.int y :: .int x :: st) σ := V_icmp_ne C rfl ht hdg (fun _ => kt) (fun n => absurd n h)
theorem V_icmp_ne_f (C : Cx X own cc ret fr lo) {x y : Int32} {off : Int} {tgt : Nat} (h : x = y) (hq : pc + 3 = q) (ht : (pc : Int) + off = (tgt : Int)) (hdg : decode cc pc = .ok (.if_icmp .ne off, 3)) (kf : V X q lv st σ) : V X pc lv (.int y :: .int x :: st) σ := V_icmp_ne C hq ht hdg (fun n => absurd h n) (fun _ => kf)
theorem V_if_lt (C : Cx X own cc ret fr lo) {x : Int32} {off : Int} {tgt : Nat} (hq : pc + 3 = q) (ht : (pc : Int) + off = (tgt : Int)) (hdg : decode cc pc = .ok (.ifCond .lt off, 3)) (kt : x < 0 → V X tgt lv st σ) (kf : ¬ x < 0 → V X q lv st σ) : V X pc lv (.int x :: st) σ := by subst hq; exact fun H locs ls hP hS hl => lv_if_lt C.x C.b hdg ht (fun h => kt h H locs ls hP hS hl) (fun h => kf h H locs ls hP hS hl)
theorem V_if_lt_t (C : Cx X own cc ret fr lo) {x : Int32} {off : Int} {tgt : Nat} (h : x < 0) (ht : (pc : Int) + off = (tgt : Int)) (hdg : decode cc pc = .ok (.ifCond .lt off, 3)) (kt : V X tgt lv st σ) : V X pc lv (.int x :: st) σ := V_if_lt C rfl ht hdg (fun _ => kt) (fun n => absurd h n)
theorem V_if_lt_f (C : Cx X own cc ret fr lo) {x : Int32} {off : Int} {tgt : Nat} (h : ¬ (x < 0)) (hq : pc + 3 = q) (ht : (pc : Int) + off = (tgt : Int)) (hdg : decode cc pc = .ok (.ifCond .lt off, 3)) (kf : V X q lv st σ) : V X pc lv (.int x :: st) σ := V_if_lt C hq ht hdg (fun n => absurd n h) (fun _ => kf)
theorem V_icmp_lt (C : Cx X own cc ret fr lo) {x y : Int32} {off : Int} {tgt : Nat} (hq : pc + 3 = q) (ht : (pc : Int) + off = (tgt : Int)) (hdg : decode cc pc = .ok (.if_icmp .lt off, 3)) (kt : x < y → V X tgt lv st σ) (kf : ¬ x < y → V X q lv st σ) : V X pc lv (.int y :: .int x :: st) σ := by subst hq; exact fun H locs ls hP hS hl => lv_icmp_lt C.x C.b hdg ht (fun h => kt h H locs ls hP hS hl) (fun h => kf h H locs ls hP hS hl)
theorem V_icmp_lt_t (C : Cx X own cc ret fr lo) {x y : Int32} {off : Int} {tgt : Nat} (h : x < y) (ht : (pc : Int) + off = (tgt : Int)) (hdg : decode cc pc = .ok (.if_icmp .lt off, 3)) (kt : V X tgt lv st σ) : V X pc lv (.int y :: .int x :: st) σ := V_icmp_lt C rfl ht hdg (fun _ => kt) (fun n => absurd h n)
theorem V_icmp_lt_f (C : Cx X own cc ret fr lo) {x y : Int32} {off : Int} {tgt : Nat} (h : ¬ (x < y)) (hq : pc + 3 = q) (ht : (pc : Int) + off = (tgt : Int)) (hdg : decode cc pc = .ok (.if_icmp .lt off, 3)) (kf : V X q lv st σ) : V X pc lv (.int y :: .int x :: st) σ := V_icmp_lt C hq ht hdg (fun n => absurd n h) (fun _ => kf)
theorem V_if_ge (C : Cx X own cc ret fr lo) {x : Int32} {off : Int} {tgt : Nat} (hq : pc + 3 = q) (ht : (pc : Int) + off = (tgt : Int)) (hdg : decode cc pc = .ok (.ifCond .ge off, 3)) (kt : 0 ≤ x → V X tgt lv st σ) (kf : ¬ 0 ≤ x → V X q lv st σ) : V X pc lv (.int x :: st) σ := by subst hq; exact fun H locs ls hP hS hl => lv_if_ge C.x C.b hdg ht (fun h => kt h H locs ls hP hS hl) (fun h => kf h H locs ls hP hS hl)
theorem V_if_ge_t (C : Cx X own cc ret fr lo) {x : Int32} {off : Int} {tgt : Nat} (h : 0 ≤ x) (ht : (pc : Int) + off = (tgt : Int)) (hdg : decode cc pc = .ok (.ifCond .ge off, 3)) (kt : V X tgt lv st σ) : V X pc lv (.int x :: st) σ := V_if_ge C rfl ht hdg (fun _ => kt) (fun n => absurd h n)
theorem V_if_ge_f (C : Cx X own cc ret fr lo) {x : Int32} {off : Int} {tgt : Nat} (h : ¬ (0 ≤ x)) (hq : pc + 3 = q) (ht : (pc : Int) + off = (tgt : Int)) (hdg : decode cc pc = .ok (.ifCond .ge off, 3)) (kf : V X q lv st σ) : V X pc lv (.int x :: st) σ := V_if_ge C hq ht hdg (fun n => absurd n h) (fun _ => kf)
theorem V_icmp_ge (C : Cx X own cc ret fr lo) {x y : Int32} {off : Int} {tgt : Nat} (hq : pc + 3 = q) (ht : (pc : Int) + off = (tgt : Int)) (hdg : decode cc pc = .ok (.if_icmp .ge off, 3)) (kt : y ≤ x → V X tgt lv st σ) (kf : ¬ y ≤ x → V X q lv st σ) : V X pc lv (.int y :: .int x :: st) σ := by subst hq; exact fun H locs ls hP hS hl => lv_icmp_ge C.x C.b hdg ht (fun h => kt h H locs ls hP hS hl) (fun h => kf h H locs ls hP hS hl)
theorem V_icmp_ge_t (C : Cx X own cc ret fr lo) {x y : Int32} {off : Int} {tgt : Nat} (h : y ≤ x) (ht : (pc : Int) + off = (tgt : Int)) (hdg : decode cc pc = .ok (.if_icmp .ge off, 3)) (kt : V X tgt lv st σ) : V X pc lv (.int y :: .int x :: st) σ := V_icmp_ge C rfl ht hdg (fun _ => kt) (fun n => absurd h n)
theorem V_icmp_ge_f (C : Cx X own cc ret fr lo) {x y : Int32} {off : Int} {tgt : Nat} (h : ¬ (y ≤ x)) (hq : pc + 3 = q) (ht : (pc : Int) + off = (tgt : Int)) (hdg : decode cc pc = .ok (.if_icmp .ge off, 3)) (kf : V X q lv st σ) : V X pc lv (.int y :: .int x :: st) σ := V_icmp_ge C hq ht hdg (fun n => absurd n h) (fun _ => kf)
theorem V_if_gt (C : Cx X own cc ret fr lo) {x : Int32} {off : Int} {tgt : Nat} (hq : pc + 3 = q) (ht : (pc : Int) + off = (tgt : Int)) (hdg : decode cc pc = .ok (.ifCond .gt off, 3)) (kt : 0 < x → V X tgt lv st σ) (kf : ¬ 0 < x → V X q lv st σ) : V X pc lv (.int x :: st) σ := by subst hq; exact fun H locs ls hP hS hl => lv_if_gt C.x C.b hdg ht (fun h => kt h H locs ls hP hS hl) (fun h => kf h H locs ls hP hS hl)
theorem V_if_gt_t (C : Cx X own cc ret fr lo) {x : Int32} {off : Int} {tgt : Nat} (h : 0 < x) (ht : (pc : Int) + off = (tgt : Int)) (hdg : decode cc pc = .ok (.ifCond .gt off, 3)) (kt : V X tgt lv st σ) : V X pc lv (.int x :: st) σ := V_if_gt C rfl ht hdg (fun _ => kt) (fun n => absurd h n)
theorem V_if_gt_f (C : Cx X own cc ret fr lo) {x : Int32} {off : Int} {tgt : Nat} (h : ¬ (0 < x)) (hq : pc + 3 = q) (ht : (pc : Int) + off = (tgt : Int)) (hdg : decode cc pc = .ok (.ifCond .gt off, 3)) (kf : V X q lv st σ) : V X pc lv (.int x :: st) σ := V_if_gt C hq ht hdg (fun n => absurd n h) (fun _ => kf)
theorem V_icmp_gt (C : Cx X own cc ret fr lo) {x y : Int32} {off : Int} {tgt : Nat} (hq : pc + 3 = q) (ht : (pc : Int) + off = (tgt : Int)) (hdg : decode cc pc = .ok (.if_icmp .gt off, 3)) (kt : y < x → V X tgt lv st σ) (kf : ¬ y < x → V X q lv st σ) : V X pc lv (.int y :: .int x :: st) σ := by subst hq; exact fun H locs ls hP hS hl => lv_icmp_gt C.x C.b hdg ht (fun h => kt h H locs ls hP hS hl) (fun h => kf h H locs ls hP hS hl)
theorem V_icmp_gt_t (C : Cx X own cc ret fr lo) {x y : Int32} {off : Int} {tgt : Nat} (h : y < x) (ht : (pc : Int) + off = (tgt : Int)) (hdg : decode cc pc = .ok (.if_icmp .gt off, 3)) (kt : V X tgt lv st σ) : V X pc lv (.int y :: .int x :: st) σ := V_icmp_gt C rfl ht hdg (fun _ => kt) (fun n => absurd h n)
theorem V_icmp_gt_f (C : Cx X own cc ret fr lo) {x y : Int32} {off : Int} {tgt : Nat} (h : ¬ (y < x)) (hq : pc + 3 = q) (ht : (pc : Int) + off = (tgt : Int)) (hdg : decode cc pc = .ok (.if_icmp .gt off, 3)) (kf : V X q lv st σ) : V X pc lv (.int y :: .int x :: st) σ := V_icmp_gt C hq ht hdg (fun n => absurd n h) (fun _ => kf)
theorem V_if_le (C : Cx X own cc ret fr lo) {x : Int32} {off : Int} {tgt : Nat} (hq : pc + 3 = q) (ht : (pc : Int) + off = (tgt : Int)) (hdg : decode cc pc = .ok (.ifCond .le off, 3)) (kt : x ≤ 0 → V X tgt lv st σ) (kf : ¬ x ≤ 0 → V X q lv st σ) : V X pc lv (.int x :: st) σ := by subst hq; exact fun H locs ls hP hS hl => lv_if_le C.x C.b hdg ht (fun h => kt h H locs ls hP hS hl) (fun h => kf h H locs ls hP hS hl)
theorem V_if_le_t (C : Cx X own cc ret fr lo) {x : Int32} {off : Int} {tgt : Nat} (h : x ≤ 0) (ht : (pc : Int) + off = (tgt : Int)) (hdg : decode cc pc = .ok (.ifCond .le off, 3)) (kt : V X tgt lv st σ) : V X pc lv (.int x :: st) σ := V_if_le C rfl ht hdg (fun _ => kt) (fun n => absurd h n)
theorem V_if_le_f (C : Cx X own cc ret fr lo) {x : Int32} {off : Int} {tgt : Nat} (h : ¬ (x ≤ 0)) (hq : pc + 3 = q) (ht : (pc : Int) + off = (tgt : Int)) (hdg : decode cc pc = .ok (.ifCond .le off, 3)) (kf : V X q lv st σ) : V X pc lv (.int x :: st) σ := V_if_le C hq ht hdg (fun n => absurd n h) (fun _ => kf)
theorem V_icmp_le (C : Cx X own cc ret fr lo) {x y : Int32} {off : Int} {tgt : Nat} (hq : pc + 3 = q) (ht : (pc : Int) + off = (tgt : Int)) (hdg : decode cc pc = .ok (.if_icmp .le off, 3)) (kt : x ≤ y → V X tgt lv st σ) (kf : ¬ x ≤ y → V X q lv st σ) : V X pc lv (.int y :: .int x :: st) σ := by subst hq; exact fun H locs ls hP hS hl => lv_icmp_le C.x C.b hdg ht (fun h => kt h H locs ls hP hS hl) (fun h => kf h H locs ls hP hS hl)
theorem V_icmp_le_t (C : Cx X own cc ret fr lo) {x y : Int32} {off : Int} {tgt : Nat} (h : x ≤ y) (ht : (pc : Int) + off = (tgt : Int)) (hdg : decode cc pc = .ok (.if_icmp .le off, 3)) (kt : V X tgt lv st σ) : V X pc lv (.int y :: .int x :: st) σ := V_icmp_le C rfl ht hdg (fun _ => kt) (fun n => absurd h n)
theorem V_icmp_le_f (C : Cx X own cc ret fr lo) {x y : Int32} {off : Int} {tgt : Nat} (h : ¬ (x ≤ y)) (hq : pc + 3 = q) (ht : (pc : Int) + off = (tgt : Int)) (hdg : decode cc pc = .ok (.if_icmp .le off, 3)) (kf : V X q lv st σ) : V X pc lv (.int y :: .int x :: st) σ := V_icmp_le C hq ht hdg (fun n => absurd n h) (fun _ => kf)
theorem V_goto (C : Cx X own cc ret fr lo) {off : Int} {tgt : Nat} (ht : (pc : Int) + off = (tgt : Int)) (hdg : decode cc pc = .ok (.goto off, 3)) (k : V X tgt lv st σ) : V X pc lv st σ := fun H locs ls hP hS hl => lv_goto C.x C.b hdg ht (k H locs ls hP hS hl)
theorem V_ifnonnull (C : Cx X own cc ret fr lo) {x : Nat} {off : Int} {tgt : Nat} (ht : (pc : Int) + off = (tgt : Int)) (hdg : decode cc pc = .ok (.ifnonnull off, 3)) (k : V X tgt lv st σ) : V X pc lv (.ref x :: st) σ := fun H locs ls hP hS hl => lv_ifnonnull C.x C.b hdg ht (k H locs ls hP hS hl)
theorem V_ifnonnullN (C : Cx X own cc ret fr lo) {off : Int} (hq : pc + 3 = q) (hdg : decode cc pc = .ok (.ifnonnull off, 3)) (k : V X q lv st σ) : V X pc lv (.null :: st) σ := by subst hq; exact fun H locs ls hP hS hl => lv_ifnonnullN C.x C.b hdg (k H locs ls hP hS hl)
theorem V_ifnull (C : Cx X own cc ret fr lo) {x : Nat} {off : Int} (hq : pc + 3 = q) (hdg : decode cc pc = .ok (.ifnull off, 3)) (k : V X q lv st σ) : V X pc lv (.ref x :: st) σ := by subst hq; exact fun H locs ls hP hS hl => lv_ifnull C.x C.b hdg (k H locs ls hP hS hl)
theorem V_ifnullN (C : Cx X own cc ret fr lo) {off : Int} {tgt : Nat} (ht : (pc : Int) + off = (tgt : Int)) (hdg : decode cc pc = .ok (.ifnull off, 3)) (k : V X tgt lv st σ) : V X pc lv (.null :: st) σ := fun H locs ls hP hS hl => lv_ifnullN C.x C.b hdg ht (k H locs ls hP hS hl)
theorem V_null (C : Cx X own cc ret fr lo) (hq : pc + 1 = q) (hdg : decode cc pc = .ok (.aconst_null, 1)) (k : V X q lv (.null :: st) σ) : V X pc lv st σ := by subst hq; exact fun H locs ls hP hS hl => lv_null C.x C.b hdg (k H locs ls hP hS hl)
theorem V_lookup (C : Cx X own cc ret fr lo) {dflt : Int} {ps : Array (Int × Int)} {len : Nat} {x : Int32} {off : Int} {tgt : Nat} (hp : (ps.toList.zip (ps.toList.drop 1)).all (fun (a, next) => a.1 < next.1) = true) (ho : Op.lookupswitch.offset ps.toList dflt x.toInt = off) (ht : (pc : Int) + off = (tgt : Int)) (hdg : decode cc pc = .ok (.lookupswitch dflt ps, len)) (k : V X tgt lv st σ) : V X pc lv (.int x :: st) σ := fun H locs ls hP hS hl => lv_lookup C.x C.b hdg hp ho ht (k H locs ls hP hS hl)
theorem V_tableOut (C : Cx X own cc ret fr lo) {dflt lo2 hi : Int} {offs : Array Int} {len : Nat} {x : Int32} {tgt : Nat} (h : x.toInt < lo2 ∨ hi < x.toInt) (ht : (pc : Int) + dflt = (tgt : Int)) (hdg : decode cc pc = .ok (.tableswitch dflt lo2 hi offs, len)) (k : V X tgt lv st σ) : V X pc lv (.int x :: st) σ := fun H locs ls hP hS hl => lv_tableOut C.x C.b hdg h ht (k H locs ls hP hS hl)
theorem V_tableIn (C : Cx X own cc ret fr lo) {dflt lo2 hi : Int} {offs : Array Int} {len : Nat} {x : Int32} {off : Int} {tgt : Nat} (h1 : ¬ x.toInt < lo2) (h2 : ¬ hi < x.toInt) (ho : offs[(x.toInt - lo2).toNat]? = some off) (ht : (pc : Int) + off = (tgt : Int)) (hdg : decode cc pc = .ok (.tableswitch dflt lo2 hi offs, len)) (k : V X tgt lv st σ) : V X pc lv (.int x :: st) σ := fun H locs ls hP hS hl => lv_tableIn C.x C.b hdg h1 h2 ho ht (k H locs ls hP hS hl)
/-! ends -/
theorem V_end (C : Cx X own cc ret fr lo) {post : Option Value → ST → Prop} {v : Option Value} {H : Heap} {locs : List Loc} (hP : va_P (xD X).1 vwCl (wAll (xD X) (xad X) σ) H) (hS : va_S (xA X) (xs X).heap H locs) (hp : post v σ) : ∀ t : State, t.heap = H → (xs X).WarmedH t.vm → Qm (xD X) (xad X) (xA X) post (xargs X) (xs X) (.returned v) t := fun t ht _ => ⟨⟨v, σ, rfl, hp, by rw [ht]; exact hP⟩, hS.F ht⟩
theorem V_iret (C : Cx X own cc (some .int) fr lo) {post : Option Value → ST → Prop} (hR : Rt X post) {r : Int32} (hdg : decode cc pc = .ok (.ireturn, 1)) (hp : post (some (.int r)) σ) : V X pc lv [.int r] σ := by
  intro H locs ls hP hS hl
  unfold Rt at hR
  rw [hR]
  exact W.iret C.x C.b C.r (V_end C hP hS hp) hS.2.2 hdg C.locks
theorem V_zret (C : Cx X own cc (some .boolean) fr lo) {post : Option Value → ST → Prop} (hR : Rt X post) {r : Int32} (hn : narrow .boolean (.int r) = .int r) (hdg : decode cc pc = .ok (.ireturn, 1)) (hp : post (some (.int r)) σ) : V X pc lv [.int r] σ := by
  intro H locs ls hP hS hl
  unfold Rt at hR
  rw [hR]
  exact W.zret C.x C.b C.r hn (V_end C hP hS hp) hS.2.2 hdg C.locks
theorem V_lret (C : Cx X own cc (some .long) fr lo) {post : Option Value → ST → Prop} (hR : Rt X post) {r : Int64} (hdg : decode cc pc = .ok (.lreturn, 1)) (hp : post (some (.long r)) σ) : V X pc lv [.long r] σ := by
  intro H locs ls hP hS hl
  unfold Rt at hR
  rw [hR]
  exact W.lret C.x C.b C.r (V_end C hP hS hp) hS.2.2 hdg C.locks
theorem V_vret (C : Cx X own cc none fr lo) {post : Option Value → ST → Prop} (hR : Rt X post) (hdg : decode cc pc = .ok (.return_, 1)) (hp : post none σ) : V X pc lv [] σ := by
  intro H locs ls hP hS hl
  unfold Rt at hR
  rw [hR]
  exact W.vret C.x C.b C.r (V_end C hP hS hp) hS.2.2 hdg C.locks
theorem V_aret {n : String} (C : Cx X own cc (some (.object n)) fr lo) {post : Option Value → ST → Prop} (hR : Rt X post) {v : Value} (hv : v = .null ∨ ∃ a, v = .ref a) (hdg : decode cc pc = .ok (.areturn, 1)) (hp : post (some v) σ) : V X pc lv [v] σ := by
  intro H locs ls hP hS hl
  unfold Rt at hR
  rw [hR]
  exact W.aret C.x C.b C.r (Or.inl ⟨n, rfl⟩) hv (V_end C hP hS hp) hS.2.2 hdg C.locks
/-! fields -/
theorem V_get (C : Cx X own cc ret fr lo) {k i ci N idx : Nat} {Cn : String} {T : u_T} {fs : List Value} {v : Value} (hk : k < 44) (hc : cellF (xD X) (xad X) k (σ k) = .inr (ci, fs)) (hcl : vwCl[ci]? = some (Cn, T, N)) (hin : ∀ w ∈ u_ws Cn T N, w ∈ TT) (hi : i < N) (hlink : Cond.fieldLink own idx (T i).1 (T i).2.1 (T i).2.2.1 ∈ TT) (hv : fs[i]? = some v) (hq : pc + 3 = q) (hdg : decode cc pc = .ok (.getfield idx, 3)) (kk : V X q lv (v :: st) σ) : V X pc lv (.ref (xad X k) :: st) σ := by
  subst hq
  intro H locs ls hP hS hl
  exact va_get C.x C.b C.ts hin C.ow C.K.1 hP k (by rw [wAll_at (lt44 hk), hc]) hcl i hi (C.ts _ hlink) (fun _ h => h) hv hdg (kk H locs ls hP hS hl)
theorem V_put (C : Cx X own cc ret fr lo) {k i ci N idx : Nat} {Cn : String} {T : u_T} {fs : List Value} {v : Value} {ty0 : Nat → FieldType} {ty : FieldType} {g : Nat → Int32} (hk : k < 44) (hc : cellF (xD X) (xad X) k (σ k) = .inr (ci, fs)) (hcl : vwCl[ci]? = some (Cn, T, N)) (hin : ∀ w ∈ u_ws Cn T N, w ∈ TT) (hty : ∀ k, k < N → parseFieldDescriptor (T k).2.2.1 = some (ty0 k)) (hnm : ∀ a, a < N → ∀ b, b < N → a ≠ b → (T a).2.1 ≠ (T b).2.1) (hi : i < N) (hlink : Cond.fieldLink own idx (T i).1 (T i).2.1 (T i).2.2.1 ∈ TT) (hfin : (T i).2.2.2 = false) (hd : parseFieldDescriptor (T i).2.2.1 = some ty) (hn : narrow ty v = v) (hfit : fits ty v = true) (hl2 : i < fs.length) (hg : (Sum.inr (ci, fs.set i v) : va_E) = cellF (xD X) (xad X) k g) (hq : pc + 3 = q) (hdg : decode cc pc = .ok (.putfield idx, 3)) (kk : V X q lv st (setc σ k g)) : V X pc lv (v :: .ref (xad X k) :: st) σ := by
  subst hq
  intro H locs ls hP hS hl
  refine va_put C.x C.b C.ts hin ty0 hty hnm C.ow C.K.1 hP C.D hS k (by rw [wAll_at (lt44 hk), hc]) hcl i hi (C.ts _ hlink) (fun _ h => h) hfin hd hn hfit hl2 hdg (fun H1 locs1 hP1 _ hS1 => kk H1 locs1 ls ?_ hS1 hl)
  rw [show (Sum.inr (ci, fs.set i v) : va_E) = cellF (xD X) (xad X) k g from hg, wAll_set (lt44 hk)] at hP1
  exact hP1
/-! arrays -/
theorem V_iald (C : Cx X own cc ret fr lo) {k : Nat} {i : Int32} (j : Nat) (hj : i = nI j) (hjl : j < alen k) (ha : akind k = 1) (hk : k < 44) (hb : alen k < 2 ^ 31) (hq : pc + 1 = q) (hdg : decode cc pc = .ok (.iaload, 1)) (kk : V X q lv (.int (σ k j) :: st) σ) : V X pc lv (.int i :: .ref (xad X k) :: st) σ := by
  subst hq; subst hj
  intro H locs ls hP hS hl
  refine va_iald C.x C.b C.K.1 hP k 0 (by rw [wAll_at (lt44 hk), cellF_i ha]) rfl (vp_in_nI hjl hb) hdg ?_
  rw [nI_clamp (by omega)]
  exact kk H locs ls hP hS hl
theorem V_zald (C : Cx X own cc ret fr lo) {k : Nat} {i : Int32} (j : Nat) (hj : i = nI j) (hjl : j < alen k) (ha : akind k = 2) (hk : k < 44) (hb : alen k < 2 ^ 31) (hq : pc + 1 = q) (hdg : decode cc pc = .ok (.baload, 1)) (kk : V X q lv (.int (σ k j) :: st) σ) : V X pc lv (.int i :: .ref (xad X k) :: st) σ := by
  subst hq; subst hj
  intro H locs ls hP hS hl
  refine va_zald C.x C.b C.K.1 hP k 1 (by rw [wAll_at (lt44 hk), cellF_z ha]) rfl (vp_in_nI hjl hb) hdg ?_
  rw [nI_clamp (by omega)]
  exact kk H locs ls hP hS hl
theorem V_iast (C : Cx X own cc ret fr lo) {k : Nat} {i x : Int32} (j : Nat) (hj : i = nI j) (hjl : j < alen k) (ha : akind k = 1) (hk : k < 44) (hb : alen k < 2 ^ 31) (hq : pc + 1 = q) (hdg : decode cc pc = .ok (.iastore, 1)) (kk : V X q lv st (setf σ k j x)) : V X pc lv (.int x :: .int i :: .ref (xad X k) :: st) σ := by
  subst hq; subst hj
  intro H locs ls hP hS hl
  refine va_iast C.x C.b C.K.1 hP C.D hS k 0 (by rw [wAll_at (lt44 hk), cellF_i ha]) rfl (vp_in_nI hjl hb) hdg (fun H1 locs1 hP1 _ hS1 => kk H1 locs1 ls ?_ hS1 hl)
  rw [nI_clamp (by omega), show (Sum.inl ((xD X).2.1, alen k, .inl (upd (σ k) j x)) : va_E) = cellF (xD X) (xad X) k (upd (σ k) j x) from (cellF_i ha).symm, wAll_set (lt44 hk)] at hP1
  exact hP1
theorem V_zast (C : Cx X own cc ret fr lo) {k : Nat} {i x : Int32} (j : Nat) (hj : i = nI j) (hjl : j < alen k) (hx : vp_nar .boolean x = x) (ha : akind k = 2) (hk : k < 44) (hb : alen k < 2 ^ 31) (hq : pc + 1 = q) (hdg : decode cc pc = .ok (.bastore, 1)) (kk : V X q lv st (setf σ k j x)) : V X pc lv (.int x :: .int i :: .ref (xad X k) :: st) σ := by
  subst hq; subst hj
  intro H locs ls hP hS hl
  refine va_zast C.x C.b C.K.1 hP C.D hS k 1 (by rw [wAll_at (lt44 hk), cellF_z ha]) rfl (vp_in_nI hjl hb) hdg (fun H1 locs1 hP1 _ hS1 => kk H1 locs1 ls ?_ hS1 hl)
  rw [hx, nI_clamp (by omega), show (Sum.inl ((xD X).2.2.1, alen k, .inl (upd (σ k) j x)) : va_E) = cellF (xD X) (xad X) k (upd (σ k) j x) from (cellF_z ha).symm, wAll_set (lt44 hk)] at hP1
  exact hP1
theorem V_shald (C : Cx X own cc ret fr lo) {i : Int32} (j : Nat) (hj : i = nI j) (hjl : j < 4) (hq : pc + 1 = q) (hdg : decode cc pc = .ok (.aaload, 1)) (kk : V X q lv (.ref (xad X (2 + 2 * j)) :: st) σ) : V X pc lv (.int i :: .ref (xad X 1) :: st) σ := by
  subst hq; subst hj
  intro H locs ls hP hS hl
  refine va_aldq C.x C.b C.K.1 hP 1 2 (C := RX5) (n := 4) (f := fun i => if i < 4 then some (xad X (2 + 2 * i)) else none) (by rw [wAll_at (lt44 (by decide))]; rfl) rfl (vp_in_nI hjl (by decide)) hdg ?_
  rw [nI_clamp (by omega)]
  show W _ _ _ _ _ _ _ _ _ _ _ _ _ _ _ (F0 _ _ _ (va_rf (if j < 4 then some (xad X (2 + 2 * j)) else none) :: st))
  rw [if_pos hjl]
  exact kk H locs ls hP hS hl
theorem V_alen (C : Cx X own cc ret fr lo) {k : Nat} {v : Int32} (ha : akind k = 1) (hk : k < 44) (hv : nI (alen k) = v) (hq : pc + 1 = q) (hdg : decode cc pc = .ok (.arraylength, 1)) (kk : V X q lv (.int v :: st) σ) : V X pc lv (.ref (xad X k) :: st) σ := by
  subst hq
  intro H locs ls hP hS hl
  exact va_alen C.x C.b C.K.1 hP k 0 (x := (alen k, .inl (σ k))) (by rw [wAll_at (lt44 hk), cellF_i ha]) rfl hv hdg (kk H locs ls hP hS hl)
theorem V_copy (C : Cx X own cc ret fr lo) {k0 k1 idx : Nat} (sp dp n : Nat) {spi dpi ni : Int32} (h1 : spi = nI sp) (h2 : dpi = nI dp) (h3 : ni = nI n) (h4 : sp + n ≤ alen k0) (h5 : dp + n ≤ alen k1) (ha0 : akind k0 = 1) (ha1 : akind k1 = 1) (hk0 : k0 < 44) (hk1 : k1 < 44) (hb0 : alen k0 < 2 ^ 31) (hb1 : alen k1 < 2 ^ 31) (hlink : Cond.methodLink own idx arraycopyName ∈ TT) (hnat : Cond.native arraycopyName ∈ TT) (hstat : Cond.static arraycopyName ∈ TT) (hini : Cond.initialized "java/lang/System" ∈ TT) (hfr : 1 ≤ fr) (hlo : (st.map fun v => v.category).sum + (nativeFrameWords "java/lang/System" "arraycopy" 5 + 11) ≤ lo) (hq : pc + 3 = q) (hdg : decode cc pc = .ok (.invokestatic idx, 3)) (kk : V X q lv st (setc σ k1 (va_cpy (σ k0) (σ k1) sp dp n))) : V X pc lv (.int ni :: .int dpi :: .ref (xad X k1) :: .int spi :: .ref (xad X k0) :: st) σ := by
  subst hq; subst h1; subst h2; subst h3
  intro H locs ls hP hS hl
  refine va_copyi C.x C.b (by rw [C.ml]; exact hl.1.symm) C.ow (C.ts _ hlink) (C.ts _ hnat) (C.ts _ hstat) (C.ts _ hini) C.K.1 hP C.D hS k0 k1 0 0 (ty := .int) (by rw [wAll_at (lt44 hk0), cellF_i ha0]) (by rw [wAll_at (lt44 hk1), cellF_i ha1]) rfl rfl rfl (nI_pos (by omega)) (nI_pos (by omega)) (nI_pos (by omega)) (by rw [nI_clamp (by omega), nI_clamp (by omega)]; exact h4) (by rw [nI_clamp (by omega), nI_clamp (by omega)]; exact h5) (fun _ _ => rfl) (Nat.le_trans hfr C.hf) (Nat.le_trans hlo C.hlo) hdg (fun H1 locs1 hP1 _ hS1 => kk H1 locs1 ls ?_ hS1 hl)
  rw [nI_clamp (by omega), nI_clamp (by omega), nI_clamp (by omega), show (Sum.inl ((xD X).2.1, alen k1, .inl (va_cpy (σ k0) (σ k1) sp dp n)) : va_E) = cellF (xD X) (xad X) k1 (va_cpy (σ k0) (σ k1) sp dp n) from (cellF_i ha1).symm, wAll_set (lt44 hk1)] at hP1
  exact hP1
theorem V_ialde (C : Cx X own cc ret fr lo) {k : Nat} {i v : Int32} (j : Nat) (hj : i = nI j) (hjl : j < alen k) (hv : σ k j = v) (ha : akind k = 1) (hk : k < 44) (hb : alen k < 2 ^ 31) (hq : pc + 1 = q) (hdg : decode cc pc = .ok (.iaload, 1)) (kk : V X q lv (.int v :: st) σ) : V X pc lv (.int i :: .ref (xad X k) :: st) σ := by
  subst hv
  exact V_iald C j hj hjl ha hk hb hq hdg kk
/-! the row r, and the script -/
theorem V_ialdR (C : Cx X own cc ret fr lo) {i : Int32} (j : Nat) (hj : i = nI j) (hjl : j < alen 44) (hf : fl (xD X) = 1) (hq : pc + 1 = q) (hdg : decode cc pc = .ok (.iaload, 1)) (kk : V X q lv (.int (σ 44 j) :: st) σ) : V X pc lv (.int i :: .ref (xad X 44) :: st) σ := by
  have hb : alen 44 < 2 ^ 31 := by decide
  subst hq; subst hj
  intro H locs ls hP hS hl
  refine va_iald C.x C.b C.K.1 hP 44 0 (by rw [wAll_at (by rw [hf]; decide), cellF_i rfl]) rfl (vp_in_nI hjl (by decide)) hdg ?_
  rw [nI_clamp (by omega)]
  exact kk H locs ls hP hS hl
theorem V_iastR (C : Cx X own cc ret fr lo) {i x : Int32} (j : Nat) (hj : i = nI j) (hjl : j < alen 44) (hf : fl (xD X) = 1) (hq : pc + 1 = q) (hdg : decode cc pc = .ok (.iastore, 1)) (kk : V X q lv st (setf σ 44 j x)) : V X pc lv (.int x :: .int i :: .ref (xad X 44) :: st) σ := by
  have hb : alen 44 < 2 ^ 31 := by decide
  subst hq; subst hj
  intro H locs ls hP hS hl
  refine va_iast C.x C.b C.K.1 hP C.D hS 44 0 (by rw [wAll_at (by rw [hf]; decide), cellF_i rfl]) rfl (vp_in_nI hjl (by decide)) hdg (fun H1 locs1 hP1 _ hS1 => kk H1 locs1 ls ?_ hS1 hl)
  rw [nI_clamp (by omega), show (Sum.inl ((xD X).2.1, alen 44, .inl (upd (σ 44) j x)) : va_E) = cellF (xD X) (xad X) 44 (upd (σ 44) j x) from (cellF_i rfl).symm, wAll_set (by rw [hf]; decide)] at hP1
  exact hP1
theorem V_ialdRe (C : Cx X own cc ret fr lo) {i v : Int32} (j : Nat) (hj : i = nI j) (hjl : j < alen 44) (hv : σ 44 j = v) (hf : fl (xD X) = 1) (hq : pc + 1 = q) (hdg : decode cc pc = .ok (.iaload, 1)) (kk : V X q lv (.int v :: st) σ) : V X pc lv (.int i :: .ref (xad X 44) :: st) σ := by
  subst hv
  exact V_ialdR C j hj hjl hf hq hdg kk
theorem V_sld (C : Cx X own cc ret fr lo) (hL : sN (xD X) < 2 ^ 31) {i : Int32} (j : Nat) (hj : i = nI j) (hjl : j < sN (xD X)) (hq : pc + 1 = q) (hdg : decode cc pc = .ok (.iaload, 1)) (kk : V X q lv (.int (sV (xD X) j) :: st) σ) : V X pc lv (.int i :: .ref (sB (xD X)) :: st) σ := by
  subst hq; subst hj
  intro H locs ls hP hS hl
  refine va_sld C.x C.b C.S.1 C.S.2.1 C.S.2.2 hS (vp_in_nI hjl hL) hdg ?_
  rw [nI_clamp (by omega)]
  exact kk H locs ls hP hS hl
theorem V_slen (C : Cx X own cc ret fr lo) (hq : pc + 1 = q) (hdg : decode cc pc = .ok (.arraylength, 1)) (kk : V X q lv (.int (nI (sN (xD X))) :: st) σ) : V X pc lv (.ref (sB (xD X)) :: st) σ := by
  subst hq
  exact fun H locs ls hP hS hl => va_slen C.x C.b C.S.1 C.S.2.1 C.S.2.2 hS hdg (kk H locs ls hP hS hl)
end VROWS
end
section
/-! words of the tables, by their places; rows of the fields; rows of calls -/
theorem inT0 : ∀ w ∈ u_ws RX0 TX0 1, w ∈ TT := fun w h => by
  have h2 : ∀ w ∈ u_ws RX0 TX0 1, w ∈ lw_tbl ∧ goodWord w = true := by decide +kernel
  exact TT_of (h2 w h).1 (h2 w h).2
theorem inT1 : ∀ w ∈ u_ws RX1 TX1 11, w ∈ TT := fun w h => by
  have h2 : ∀ w ∈ u_ws RX1 TX1 11, w ∈ lw_tbl ∧ goodWord w = true := by decide +kernel
  exact TT_of (h2 w h).1 (h2 w h).2
theorem inT2 : ∀ w ∈ u_ws RX2 TX2 4, w ∈ TT := fun w h => by
  have h2 : ∀ w ∈ u_ws RX2 TX2 4, w ∈ lw_tbl ∧ goodWord w = true := by decide +kernel
  exact TT_of (h2 w h).1 (h2 w h).2
theorem inT3 : ∀ w ∈ u_ws RX3 TX3 3, w ∈ TT := fun w h => by
  have h2 : ∀ w ∈ u_ws RX3 TX3 3, w ∈ lw_tbl ∧ goodWord w = true := by decide +kernel
  exact TT_of (h2 w h).1 (h2 w h).2
theorem inT4 : ∀ w ∈ u_ws RX4 TX4 10, w ∈ TT := fun w h => by
  have h2 : ∀ w ∈ u_ws RX4 TX4 10, w ∈ lw_tbl ∧ goodWord w = true := by decide +kernel
  exact TT_of (h2 w h).1 (h2 w h).2
theorem inT5 : ∀ w ∈ u_ws RX5 TX5 4, w ∈ TT := fun w h => by
  have h2 : ∀ w ∈ u_ws RX5 TX5 4, w ∈ lw_tbl ∧ goodWord w = true := by decide +kernel
  exact TT_of (h2 w h).1 (h2 w h).2
theorem inT6 : ∀ w ∈ u_ws RX6 TX6 4, w ∈ TT := fun w h => by
  have h2 : ∀ w ∈ u_ws RX6 TX6 4, w ∈ lw_tbl ∧ goodWord w = true := by decide +kernel
  exact TT_of (h2 w h).1 (h2 w h).2
theorem inT7 : ∀ w ∈ u_ws RX7 TX7 6, w ∈ TT := fun w h => by
  have h2 : ∀ w ∈ u_ws RX7 TX7 6, w ∈ lw_tbl ∧ goodWord w = true := by decide +kernel
  exact TT_of (h2 w h).1 (h2 w h).2
theorem inT8 : ∀ w ∈ u_ws RX8 TX8 9, w ∈ TT := fun w h => by
  have h2 : ∀ w ∈ u_ws RX8 TX8 9, w ∈ lw_tbl ∧ goodWord w = true := by decide +kernel
  exact TT_of (h2 w h).1 (h2 w h).2
theorem wf_X6_9 : Cond.fieldLink RX6 9 (TX6 0).1 (TX6 0).2.1 (TX6 0).2.2.1 ∈ TT := TT_of (List.mem_of_getElem? (i := 44) (by decide +kernel)) rfl
theorem gf_X6_9 {X : CT} {cc : ByteArray} {ret : Option FieldType} {fr lo : Nat} {pc q : Nat} {lv st : List Value} {σ : ST} (C : Cx X RX6 cc ret fr lo) (hq : pc + 3 = q) (hdg : decode cc pc = .ok (.getfield 9, 3)) (kk : V X q lv (.ref (xad X 11) :: st) σ) : V X pc lv (.ref (xad X 10) :: st) σ := V_get C (k := 10) (i := 0) (by decide) rfl rfl inT6 (by decide) wf_X6_9 rfl hq hdg kk
theorem wf_X6_15 : Cond.fieldLink RX6 15 (TX6 1).1 (TX6 1).2.1 (TX6 1).2.2.1 ∈ TT := TT_of (List.mem_of_getElem? (i := 45) (by decide +kernel)) rfl
theorem gf_X6_15 {X : CT} {cc : ByteArray} {ret : Option FieldType} {fr lo : Nat} {pc q : Nat} {lv st : List Value} {σ : ST} (C : Cx X RX6 cc ret fr lo) (hq : pc + 3 = q) (hdg : decode cc pc = .ok (.getfield 15, 3)) (kk : V X q lv (.int (σ 10 1) :: st) σ) : V X pc lv (.ref (xad X 10) :: st) σ := V_get C (k := 10) (i := 1) (by decide) rfl rfl inT6 (by decide) wf_X6_15 rfl hq hdg kk
theorem pf_X6_15 {X : CT} {cc : ByteArray} {ret : Option FieldType} {fr lo : Nat} {pc q : Nat} {lv st : List Value} {σ : ST} (C : Cx X RX6 cc ret fr lo) {x : Int32} (hq : pc + 3 = q) (hdg : decode cc pc = .ok (.putfield 15, 3)) (kk : V X q lv st (setf σ 10 1 x)) : V X pc lv (.int x :: .ref (xad X 10) :: st) σ := V_put C (k := 10) (i := 1) (ty0 := tyX6) (ty := .int) (g := upd (σ 10) 1 x) (by decide) rfl rfl inT6 tyX6_ok nmX6 (by decide) wf_X6_15 rfl rfl rfl rfl (Nat.le_of_ble_eq_true rfl) rfl hq hdg kk
theorem wf_X6_19 : Cond.fieldLink RX6 19 (TX6 2).1 (TX6 2).2.1 (TX6 2).2.2.1 ∈ TT := TT_of (List.mem_of_getElem? (i := 46) (by decide +kernel)) rfl
theorem gf_X6_19 {X : CT} {cc : ByteArray} {ret : Option FieldType} {fr lo : Nat} {pc q : Nat} {lv st : List Value} {σ : ST} (C : Cx X RX6 cc ret fr lo) (hq : pc + 3 = q) (hdg : decode cc pc = .ok (.getfield 19, 3)) (kk : V X q lv (.int (σ 10 2) :: st) σ) : V X pc lv (.ref (xad X 10) :: st) σ := V_get C (k := 10) (i := 2) (by decide) rfl rfl inT6 (by decide) wf_X6_19 rfl hq hdg kk
theorem pf_X6_19 {X : CT} {cc : ByteArray} {ret : Option FieldType} {fr lo : Nat} {pc q : Nat} {lv st : List Value} {σ : ST} (C : Cx X RX6 cc ret fr lo) {x : Int32} (hq : pc + 3 = q) (hdg : decode cc pc = .ok (.putfield 19, 3)) (kk : V X q lv st (setf σ 10 2 x)) : V X pc lv (.int x :: .ref (xad X 10) :: st) σ := V_put C (k := 10) (i := 2) (ty0 := tyX6) (ty := .int) (g := upd (σ 10) 2 x) (by decide) rfl rfl inT6 tyX6_ok nmX6 (by decide) wf_X6_19 rfl rfl rfl rfl (Nat.le_of_ble_eq_true rfl) rfl hq hdg kk
theorem wf_X1_46 : Cond.fieldLink RX1 46 (TX6 2).1 (TX6 2).2.1 (TX6 2).2.2.1 ∈ TT := TT_of (List.mem_of_getElem? (i := 47) (by decide +kernel)) rfl
theorem gf_X1_46 {X : CT} {cc : ByteArray} {ret : Option FieldType} {fr lo : Nat} {pc q : Nat} {lv st : List Value} {σ : ST} (C : Cx X RX1 cc ret fr lo) (hq : pc + 3 = q) (hdg : decode cc pc = .ok (.getfield 46, 3)) (kk : V X q lv (.int (σ 10 2) :: st) σ) : V X pc lv (.ref (xad X 10) :: st) σ := V_get C (k := 10) (i := 2) (by decide) rfl rfl inT6 (by decide) wf_X1_46 rfl hq hdg kk
theorem pf_X1_46 {X : CT} {cc : ByteArray} {ret : Option FieldType} {fr lo : Nat} {pc q : Nat} {lv st : List Value} {σ : ST} (C : Cx X RX1 cc ret fr lo) {x : Int32} (hq : pc + 3 = q) (hdg : decode cc pc = .ok (.putfield 46, 3)) (kk : V X q lv st (setf σ 10 2 x)) : V X pc lv (.int x :: .ref (xad X 10) :: st) σ := V_put C (k := 10) (i := 2) (ty0 := tyX6) (ty := .int) (g := upd (σ 10) 2 x) (by decide) rfl rfl inT6 tyX6_ok nmX6 (by decide) wf_X1_46 rfl rfl rfl rfl (Nat.le_of_ble_eq_true rfl) rfl hq hdg kk
theorem wf_X6_22 : Cond.fieldLink RX6 22 (TX6 3).1 (TX6 3).2.1 (TX6 3).2.2.1 ∈ TT := TT_of (List.mem_of_getElem? (i := 48) (by decide +kernel)) rfl
theorem gf_X6_22 {X : CT} {cc : ByteArray} {ret : Option FieldType} {fr lo : Nat} {pc q : Nat} {lv st : List Value} {σ : ST} (C : Cx X RX6 cc ret fr lo) (hq : pc + 3 = q) (hdg : decode cc pc = .ok (.getfield 22, 3)) (kk : V X q lv (.int (σ 10 3) :: st) σ) : V X pc lv (.ref (xad X 10) :: st) σ := V_get C (k := 10) (i := 3) (by decide) rfl rfl inT6 (by decide) wf_X6_22 rfl hq hdg kk
theorem pf_X6_22 {X : CT} {cc : ByteArray} {ret : Option FieldType} {fr lo : Nat} {pc q : Nat} {lv st : List Value} {σ : ST} (C : Cx X RX6 cc ret fr lo) {x : Int32} (hq : pc + 3 = q) (hdg : decode cc pc = .ok (.putfield 22, 3)) (kk : V X q lv st (setf σ 10 3 x)) : V X pc lv (.int x :: .ref (xad X 10) :: st) σ := V_put C (k := 10) (i := 3) (ty0 := tyX6) (ty := .int) (g := upd (σ 10) 3 x) (by decide) rfl rfl inT6 tyX6_ok nmX6 (by decide) wf_X6_22 rfl rfl rfl rfl (Nat.le_of_ble_eq_true rfl) rfl hq hdg kk
theorem wf_X1_49 : Cond.fieldLink RX1 49 (TX6 3).1 (TX6 3).2.1 (TX6 3).2.2.1 ∈ TT := TT_of (List.mem_of_getElem? (i := 49) (by decide +kernel)) rfl
theorem gf_X1_49 {X : CT} {cc : ByteArray} {ret : Option FieldType} {fr lo : Nat} {pc q : Nat} {lv st : List Value} {σ : ST} (C : Cx X RX1 cc ret fr lo) (hq : pc + 3 = q) (hdg : decode cc pc = .ok (.getfield 49, 3)) (kk : V X q lv (.int (σ 10 3) :: st) σ) : V X pc lv (.ref (xad X 10) :: st) σ := V_get C (k := 10) (i := 3) (by decide) rfl rfl inT6 (by decide) wf_X1_49 rfl hq hdg kk
theorem pf_X1_49 {X : CT} {cc : ByteArray} {ret : Option FieldType} {fr lo : Nat} {pc q : Nat} {lv st : List Value} {σ : ST} (C : Cx X RX1 cc ret fr lo) {x : Int32} (hq : pc + 3 = q) (hdg : decode cc pc = .ok (.putfield 49, 3)) (kk : V X q lv st (setf σ 10 3 x)) : V X pc lv (.int x :: .ref (xad X 10) :: st) σ := V_put C (k := 10) (i := 3) (ty0 := tyX6) (ty := .int) (g := upd (σ 10) 3 x) (by decide) rfl rfl inT6 tyX6_ok nmX6 (by decide) wf_X1_49 rfl rfl rfl rfl (Nat.le_of_ble_eq_true rfl) rfl hq hdg kk
theorem wf_X7_9 : Cond.fieldLink RX7 9 (TX7 0).1 (TX7 0).2.1 (TX7 0).2.2.1 ∈ TT := TT_of (List.mem_of_getElem? (i := 66) (by decide +kernel)) rfl
theorem gf_X7_9 {X : CT} {cc : ByteArray} {ret : Option FieldType} {fr lo : Nat} {pc q : Nat} {lv st : List Value} {σ : ST} (C : Cx X RX7 cc ret fr lo) (hq : pc + 3 = q) (hdg : decode cc pc = .ok (.getfield 9, 3)) (kk : V X q lv (.ref (xad X 22) :: st) σ) : V X pc lv (.ref (xad X 21) :: st) σ := V_get C (k := 21) (i := 0) (by decide) rfl rfl inT7 (by decide) wf_X7_9 rfl hq hdg kk
theorem wf_X4_44 : Cond.fieldLink RX4 44 (TX7 0).1 (TX7 0).2.1 (TX7 0).2.2.1 ∈ TT := TT_of (List.mem_of_getElem? (i := 67) (by decide +kernel)) rfl
theorem gf_X4_44 {X : CT} {cc : ByteArray} {ret : Option FieldType} {fr lo : Nat} {pc q : Nat} {lv st : List Value} {σ : ST} (C : Cx X RX4 cc ret fr lo) (hq : pc + 3 = q) (hdg : decode cc pc = .ok (.getfield 44, 3)) (kk : V X q lv (.ref (xad X 22) :: st) σ) : V X pc lv (.ref (xad X 21) :: st) σ := V_get C (k := 21) (i := 0) (by decide) rfl rfl inT7 (by decide) wf_X4_44 rfl hq hdg kk
theorem wf_X8_160 : Cond.fieldLink RX8 160 (TX7 0).1 (TX7 0).2.1 (TX7 0).2.2.1 ∈ TT := TT_of (List.mem_of_getElem? (i := 68) (by decide +kernel)) rfl
theorem gf_X8_160 {X : CT} {cc : ByteArray} {ret : Option FieldType} {fr lo : Nat} {pc q : Nat} {lv st : List Value} {σ : ST} (C : Cx X RX8 cc ret fr lo) (hq : pc + 3 = q) (hdg : decode cc pc = .ok (.getfield 160, 3)) (kk : V X q lv (.ref (xad X 22) :: st) σ) : V X pc lv (.ref (xad X 21) :: st) σ := V_get C (k := 21) (i := 0) (by decide) rfl rfl inT7 (by decide) wf_X8_160 rfl hq hdg kk
theorem wf_X7_15 : Cond.fieldLink RX7 15 (TX7 1).1 (TX7 1).2.1 (TX7 1).2.2.1 ∈ TT := TT_of (List.mem_of_getElem? (i := 69) (by decide +kernel)) rfl
theorem gf_X7_15 {X : CT} {cc : ByteArray} {ret : Option FieldType} {fr lo : Nat} {pc q : Nat} {lv st : List Value} {σ : ST} (C : Cx X RX7 cc ret fr lo) (hq : pc + 3 = q) (hdg : decode cc pc = .ok (.getfield 15, 3)) (kk : V X q lv (.ref (xad X 23) :: st) σ) : V X pc lv (.ref (xad X 21) :: st) σ := V_get C (k := 21) (i := 1) (by decide) rfl rfl inT7 (by decide) wf_X7_15 rfl hq hdg kk
theorem wf_X4_53 : Cond.fieldLink RX4 53 (TX7 1).1 (TX7 1).2.1 (TX7 1).2.2.1 ∈ TT := TT_of (List.mem_of_getElem? (i := 70) (by decide +kernel)) rfl
theorem gf_X4_53 {X : CT} {cc : ByteArray} {ret : Option FieldType} {fr lo : Nat} {pc q : Nat} {lv st : List Value} {σ : ST} (C : Cx X RX4 cc ret fr lo) (hq : pc + 3 = q) (hdg : decode cc pc = .ok (.getfield 53, 3)) (kk : V X q lv (.ref (xad X 23) :: st) σ) : V X pc lv (.ref (xad X 21) :: st) σ := V_get C (k := 21) (i := 1) (by decide) rfl rfl inT7 (by decide) wf_X4_53 rfl hq hdg kk
theorem wf_X8_163 : Cond.fieldLink RX8 163 (TX7 1).1 (TX7 1).2.1 (TX7 1).2.2.1 ∈ TT := TT_of (List.mem_of_getElem? (i := 71) (by decide +kernel)) rfl
theorem gf_X8_163 {X : CT} {cc : ByteArray} {ret : Option FieldType} {fr lo : Nat} {pc q : Nat} {lv st : List Value} {σ : ST} (C : Cx X RX8 cc ret fr lo) (hq : pc + 3 = q) (hdg : decode cc pc = .ok (.getfield 163, 3)) (kk : V X q lv (.ref (xad X 23) :: st) σ) : V X pc lv (.ref (xad X 21) :: st) σ := V_get C (k := 21) (i := 1) (by decide) rfl rfl inT7 (by decide) wf_X8_163 rfl hq hdg kk
theorem wf_X7_18 : Cond.fieldLink RX7 18 (TX7 2).1 (TX7 2).2.1 (TX7 2).2.2.1 ∈ TT := TT_of (List.mem_of_getElem? (i := 72) (by decide +kernel)) rfl
theorem gf_X7_18 {X : CT} {cc : ByteArray} {ret : Option FieldType} {fr lo : Nat} {pc q : Nat} {lv st : List Value} {σ : ST} (C : Cx X RX7 cc ret fr lo) (hq : pc + 3 = q) (hdg : decode cc pc = .ok (.getfield 18, 3)) (kk : V X q lv (.ref (xad X 24) :: st) σ) : V X pc lv (.ref (xad X 21) :: st) σ := V_get C (k := 21) (i := 2) (by decide) rfl rfl inT7 (by decide) wf_X7_18 rfl hq hdg kk
theorem wf_X4_63 : Cond.fieldLink RX4 63 (TX7 2).1 (TX7 2).2.1 (TX7 2).2.2.1 ∈ TT := TT_of (List.mem_of_getElem? (i := 73) (by decide +kernel)) rfl
theorem gf_X4_63 {X : CT} {cc : ByteArray} {ret : Option FieldType} {fr lo : Nat} {pc q : Nat} {lv st : List Value} {σ : ST} (C : Cx X RX4 cc ret fr lo) (hq : pc + 3 = q) (hdg : decode cc pc = .ok (.getfield 63, 3)) (kk : V X q lv (.ref (xad X 24) :: st) σ) : V X pc lv (.ref (xad X 21) :: st) σ := V_get C (k := 21) (i := 2) (by decide) rfl rfl inT7 (by decide) wf_X4_63 rfl hq hdg kk
theorem wf_X7_21 : Cond.fieldLink RX7 21 (TX7 3).1 (TX7 3).2.1 (TX7 3).2.2.1 ∈ TT := TT_of (List.mem_of_getElem? (i := 74) (by decide +kernel)) rfl
theorem gf_X7_21 {X : CT} {cc : ByteArray} {ret : Option FieldType} {fr lo : Nat} {pc q : Nat} {lv st : List Value} {σ : ST} (C : Cx X RX7 cc ret fr lo) (hq : pc + 3 = q) (hdg : decode cc pc = .ok (.getfield 21, 3)) (kk : V X q lv (.ref (xad X 25) :: st) σ) : V X pc lv (.ref (xad X 21) :: st) σ := V_get C (k := 21) (i := 3) (by decide) rfl rfl inT7 (by decide) wf_X7_21 rfl hq hdg kk
theorem wf_X4_66 : Cond.fieldLink RX4 66 (TX7 3).1 (TX7 3).2.1 (TX7 3).2.2.1 ∈ TT := TT_of (List.mem_of_getElem? (i := 75) (by decide +kernel)) rfl
theorem gf_X4_66 {X : CT} {cc : ByteArray} {ret : Option FieldType} {fr lo : Nat} {pc q : Nat} {lv st : List Value} {σ : ST} (C : Cx X RX4 cc ret fr lo) (hq : pc + 3 = q) (hdg : decode cc pc = .ok (.getfield 66, 3)) (kk : V X q lv (.ref (xad X 25) :: st) σ) : V X pc lv (.ref (xad X 21) :: st) σ := V_get C (k := 21) (i := 3) (by decide) rfl rfl inT7 (by decide) wf_X4_66 rfl hq hdg kk
theorem wf_X7_24 : Cond.fieldLink RX7 24 (TX7 4).1 (TX7 4).2.1 (TX7 4).2.2.1 ∈ TT := TT_of (List.mem_of_getElem? (i := 76) (by decide +kernel)) rfl
theorem gf_X7_24 {X : CT} {cc : ByteArray} {ret : Option FieldType} {fr lo : Nat} {pc q : Nat} {lv st : List Value} {σ : ST} (C : Cx X RX7 cc ret fr lo) (hq : pc + 3 = q) (hdg : decode cc pc = .ok (.getfield 24, 3)) (kk : V X q lv (.int (σ 21 4) :: st) σ) : V X pc lv (.ref (xad X 21) :: st) σ := V_get C (k := 21) (i := 4) (by decide) rfl rfl inT7 (by decide) wf_X7_24 rfl hq hdg kk
theorem pf_X7_24 {X : CT} {cc : ByteArray} {ret : Option FieldType} {fr lo : Nat} {pc q : Nat} {lv st : List Value} {σ : ST} (C : Cx X RX7 cc ret fr lo) {x : Int32} (hq : pc + 3 = q) (hdg : decode cc pc = .ok (.putfield 24, 3)) (kk : V X q lv st (setf σ 21 4 x)) : V X pc lv (.int x :: .ref (xad X 21) :: st) σ := V_put C (k := 21) (i := 4) (ty0 := tyX7) (ty := .int) (g := upd (σ 21) 4 x) (by decide) rfl rfl inT7 tyX7_ok nmX7 (by decide) wf_X7_24 rfl rfl rfl rfl (Nat.le_of_ble_eq_true rfl) rfl hq hdg kk
theorem wf_X4_69 : Cond.fieldLink RX4 69 (TX7 4).1 (TX7 4).2.1 (TX7 4).2.2.1 ∈ TT := TT_of (List.mem_of_getElem? (i := 77) (by decide +kernel)) rfl
theorem gf_X4_69 {X : CT} {cc : ByteArray} {ret : Option FieldType} {fr lo : Nat} {pc q : Nat} {lv st : List Value} {σ : ST} (C : Cx X RX4 cc ret fr lo) (hq : pc + 3 = q) (hdg : decode cc pc = .ok (.getfield 69, 3)) (kk : V X q lv (.int (σ 21 4) :: st) σ) : V X pc lv (.ref (xad X 21) :: st) σ := V_get C (k := 21) (i := 4) (by decide) rfl rfl inT7 (by decide) wf_X4_69 rfl hq hdg kk
theorem pf_X4_69 {X : CT} {cc : ByteArray} {ret : Option FieldType} {fr lo : Nat} {pc q : Nat} {lv st : List Value} {σ : ST} (C : Cx X RX4 cc ret fr lo) {x : Int32} (hq : pc + 3 = q) (hdg : decode cc pc = .ok (.putfield 69, 3)) (kk : V X q lv st (setf σ 21 4 x)) : V X pc lv (.int x :: .ref (xad X 21) :: st) σ := V_put C (k := 21) (i := 4) (ty0 := tyX7) (ty := .int) (g := upd (σ 21) 4 x) (by decide) rfl rfl inT7 tyX7_ok nmX7 (by decide) wf_X4_69 rfl rfl rfl rfl (Nat.le_of_ble_eq_true rfl) rfl hq hdg kk
theorem wf_X8_166 : Cond.fieldLink RX8 166 (TX7 4).1 (TX7 4).2.1 (TX7 4).2.2.1 ∈ TT := TT_of (List.mem_of_getElem? (i := 78) (by decide +kernel)) rfl
theorem gf_X8_166 {X : CT} {cc : ByteArray} {ret : Option FieldType} {fr lo : Nat} {pc q : Nat} {lv st : List Value} {σ : ST} (C : Cx X RX8 cc ret fr lo) (hq : pc + 3 = q) (hdg : decode cc pc = .ok (.getfield 166, 3)) (kk : V X q lv (.int (σ 21 4) :: st) σ) : V X pc lv (.ref (xad X 21) :: st) σ := V_get C (k := 21) (i := 4) (by decide) rfl rfl inT7 (by decide) wf_X8_166 rfl hq hdg kk
theorem pf_X8_166 {X : CT} {cc : ByteArray} {ret : Option FieldType} {fr lo : Nat} {pc q : Nat} {lv st : List Value} {σ : ST} (C : Cx X RX8 cc ret fr lo) {x : Int32} (hq : pc + 3 = q) (hdg : decode cc pc = .ok (.putfield 166, 3)) (kk : V X q lv st (setf σ 21 4 x)) : V X pc lv (.int x :: .ref (xad X 21) :: st) σ := V_put C (k := 21) (i := 4) (ty0 := tyX7) (ty := .int) (g := upd (σ 21) 4 x) (by decide) rfl rfl inT7 tyX7_ok nmX7 (by decide) wf_X8_166 rfl rfl rfl rfl (Nat.le_of_ble_eq_true rfl) rfl hq hdg kk
theorem wf_X7_28 : Cond.fieldLink RX7 28 (TX7 5).1 (TX7 5).2.1 (TX7 5).2.2.1 ∈ TT := TT_of (List.mem_of_getElem? (i := 79) (by decide +kernel)) rfl
theorem gf_X7_28 {X : CT} {cc : ByteArray} {ret : Option FieldType} {fr lo : Nat} {pc q : Nat} {lv st : List Value} {σ : ST} (C : Cx X RX7 cc ret fr lo) (hq : pc + 3 = q) (hdg : decode cc pc = .ok (.getfield 28, 3)) (kk : V X q lv (.int (σ 21 5) :: st) σ) : V X pc lv (.ref (xad X 21) :: st) σ := V_get C (k := 21) (i := 5) (by decide) rfl rfl inT7 (by decide) wf_X7_28 rfl hq hdg kk
theorem pf_X7_28 {X : CT} {cc : ByteArray} {ret : Option FieldType} {fr lo : Nat} {pc q : Nat} {lv st : List Value} {σ : ST} (C : Cx X RX7 cc ret fr lo) {x : Int32} (hq : pc + 3 = q) (hdg : decode cc pc = .ok (.putfield 28, 3)) (kk : V X q lv st (setf σ 21 5 x)) : V X pc lv (.int x :: .ref (xad X 21) :: st) σ := V_put C (k := 21) (i := 5) (ty0 := tyX7) (ty := .int) (g := upd (σ 21) 5 x) (by decide) rfl rfl inT7 tyX7_ok nmX7 (by decide) wf_X7_28 rfl rfl rfl rfl (Nat.le_of_ble_eq_true rfl) rfl hq hdg kk
theorem wf_X4_60 : Cond.fieldLink RX4 60 (TX7 5).1 (TX7 5).2.1 (TX7 5).2.2.1 ∈ TT := TT_of (List.mem_of_getElem? (i := 80) (by decide +kernel)) rfl
theorem gf_X4_60 {X : CT} {cc : ByteArray} {ret : Option FieldType} {fr lo : Nat} {pc q : Nat} {lv st : List Value} {σ : ST} (C : Cx X RX4 cc ret fr lo) (hq : pc + 3 = q) (hdg : decode cc pc = .ok (.getfield 60, 3)) (kk : V X q lv (.int (σ 21 5) :: st) σ) : V X pc lv (.ref (xad X 21) :: st) σ := V_get C (k := 21) (i := 5) (by decide) rfl rfl inT7 (by decide) wf_X4_60 rfl hq hdg kk
theorem pf_X4_60 {X : CT} {cc : ByteArray} {ret : Option FieldType} {fr lo : Nat} {pc q : Nat} {lv st : List Value} {σ : ST} (C : Cx X RX4 cc ret fr lo) {x : Int32} (hq : pc + 3 = q) (hdg : decode cc pc = .ok (.putfield 60, 3)) (kk : V X q lv st (setf σ 21 5 x)) : V X pc lv (.int x :: .ref (xad X 21) :: st) σ := V_put C (k := 21) (i := 5) (ty0 := tyX7) (ty := .int) (g := upd (σ 21) 5 x) (by decide) rfl rfl inT7 tyX7_ok nmX7 (by decide) wf_X4_60 rfl rfl rfl rfl (Nat.le_of_ble_eq_true rfl) rfl hq hdg kk
theorem wf_X8_169 : Cond.fieldLink RX8 169 (TX7 5).1 (TX7 5).2.1 (TX7 5).2.2.1 ∈ TT := TT_of (List.mem_of_getElem? (i := 81) (by decide +kernel)) rfl
theorem gf_X8_169 {X : CT} {cc : ByteArray} {ret : Option FieldType} {fr lo : Nat} {pc q : Nat} {lv st : List Value} {σ : ST} (C : Cx X RX8 cc ret fr lo) (hq : pc + 3 = q) (hdg : decode cc pc = .ok (.getfield 169, 3)) (kk : V X q lv (.int (σ 21 5) :: st) σ) : V X pc lv (.ref (xad X 21) :: st) σ := V_get C (k := 21) (i := 5) (by decide) rfl rfl inT7 (by decide) wf_X8_169 rfl hq hdg kk
theorem pf_X8_169 {X : CT} {cc : ByteArray} {ret : Option FieldType} {fr lo : Nat} {pc q : Nat} {lv st : List Value} {σ : ST} (C : Cx X RX8 cc ret fr lo) {x : Int32} (hq : pc + 3 = q) (hdg : decode cc pc = .ok (.putfield 169, 3)) (kk : V X q lv st (setf σ 21 5 x)) : V X pc lv (.int x :: .ref (xad X 21) :: st) σ := V_put C (k := 21) (i := 5) (ty0 := tyX7) (ty := .int) (g := upd (σ 21) 5 x) (by decide) rfl rfl inT7 tyX7_ok nmX7 (by decide) wf_X8_169 rfl rfl rfl rfl (Nat.le_of_ble_eq_true rfl) rfl hq hdg kk
theorem wf_X2_9 : Cond.fieldLink RX2 9 (TX2 0).1 (TX2 0).2.1 (TX2 0).2.2.1 ∈ TT := TT_of (List.mem_of_getElem? (i := 101) (by decide +kernel)) rfl
theorem gf_X2_9 {X : CT} {cc : ByteArray} {ret : Option FieldType} {fr lo : Nat} {pc q : Nat} {lv st : List Value} {σ : ST} (C : Cx X RX2 cc ret fr lo) (hq : pc + 3 = q) (hdg : decode cc pc = .ok (.getfield 9, 3)) (kk : V X q lv (.ref (xad X 27) :: st) σ) : V X pc lv (.ref (xad X 26) :: st) σ := V_get C (k := 26) (i := 0) (by decide) rfl rfl inT2 (by decide) wf_X2_9 rfl hq hdg kk
theorem wf_X2_15 : Cond.fieldLink RX2 15 (TX2 1).1 (TX2 1).2.1 (TX2 1).2.2.1 ∈ TT := TT_of (List.mem_of_getElem? (i := 102) (by decide +kernel)) rfl
theorem gf_X2_15 {X : CT} {cc : ByteArray} {ret : Option FieldType} {fr lo : Nat} {pc q : Nat} {lv st : List Value} {σ : ST} (C : Cx X RX2 cc ret fr lo) (hq : pc + 3 = q) (hdg : decode cc pc = .ok (.getfield 15, 3)) (kk : V X q lv (.ref (xad X 28) :: st) σ) : V X pc lv (.ref (xad X 26) :: st) σ := V_get C (k := 26) (i := 1) (by decide) rfl rfl inT2 (by decide) wf_X2_15 rfl hq hdg kk
theorem wf_X2_18 : Cond.fieldLink RX2 18 (TX2 2).1 (TX2 2).2.1 (TX2 2).2.2.1 ∈ TT := TT_of (List.mem_of_getElem? (i := 103) (by decide +kernel)) rfl
theorem gf_X2_18 {X : CT} {cc : ByteArray} {ret : Option FieldType} {fr lo : Nat} {pc q : Nat} {lv st : List Value} {σ : ST} (C : Cx X RX2 cc ret fr lo) (hq : pc + 3 = q) (hdg : decode cc pc = .ok (.getfield 18, 3)) (kk : V X q lv (.ref (xad X 29) :: st) σ) : V X pc lv (.ref (xad X 26) :: st) σ := V_get C (k := 26) (i := 2) (by decide) rfl rfl inT2 (by decide) wf_X2_18 rfl hq hdg kk
theorem wf_X2_22 : Cond.fieldLink RX2 22 (TX2 3).1 (TX2 3).2.1 (TX2 3).2.2.1 ∈ TT := TT_of (List.mem_of_getElem? (i := 104) (by decide +kernel)) rfl
theorem gf_X2_22 {X : CT} {cc : ByteArray} {ret : Option FieldType} {fr lo : Nat} {pc q : Nat} {lv st : List Value} {σ : ST} (C : Cx X RX2 cc ret fr lo) (hq : pc + 3 = q) (hdg : decode cc pc = .ok (.getfield 22, 3)) (kk : V X q lv (.int (σ 26 3) :: st) σ) : V X pc lv (.ref (xad X 26) :: st) σ := V_get C (k := 26) (i := 3) (by decide) rfl rfl inT2 (by decide) wf_X2_22 rfl hq hdg kk
theorem pf_X2_22 {X : CT} {cc : ByteArray} {ret : Option FieldType} {fr lo : Nat} {pc q : Nat} {lv st : List Value} {σ : ST} (C : Cx X RX2 cc ret fr lo) {x : Int32} (hq : pc + 3 = q) (hdg : decode cc pc = .ok (.putfield 22, 3)) (kk : V X q lv st (setf σ 26 3 x)) : V X pc lv (.int x :: .ref (xad X 26) :: st) σ := V_put C (k := 26) (i := 3) (ty0 := tyX2) (ty := .int) (g := upd (σ 26) 3 x) (by decide) rfl rfl inT2 tyX2_ok nmX2 (by decide) wf_X2_22 rfl rfl rfl rfl (Nat.le_of_ble_eq_true rfl) rfl hq hdg kk
theorem wf_X8_113 : Cond.fieldLink RX8 113 (TX2 3).1 (TX2 3).2.1 (TX2 3).2.2.1 ∈ TT := TT_of (List.mem_of_getElem? (i := 105) (by decide +kernel)) rfl
theorem gf_X8_113 {X : CT} {cc : ByteArray} {ret : Option FieldType} {fr lo : Nat} {pc q : Nat} {lv st : List Value} {σ : ST} (C : Cx X RX8 cc ret fr lo) (hq : pc + 3 = q) (hdg : decode cc pc = .ok (.getfield 113, 3)) (kk : V X q lv (.int (σ 26 3) :: st) σ) : V X pc lv (.ref (xad X 26) :: st) σ := V_get C (k := 26) (i := 3) (by decide) rfl rfl inT2 (by decide) wf_X8_113 rfl hq hdg kk
theorem pf_X8_113 {X : CT} {cc : ByteArray} {ret : Option FieldType} {fr lo : Nat} {pc q : Nat} {lv st : List Value} {σ : ST} (C : Cx X RX8 cc ret fr lo) {x : Int32} (hq : pc + 3 = q) (hdg : decode cc pc = .ok (.putfield 113, 3)) (kk : V X q lv st (setf σ 26 3 x)) : V X pc lv (.int x :: .ref (xad X 26) :: st) σ := V_put C (k := 26) (i := 3) (ty0 := tyX2) (ty := .int) (g := upd (σ 26) 3 x) (by decide) rfl rfl inT2 tyX2_ok nmX2 (by decide) wf_X8_113 rfl rfl rfl rfl (Nat.le_of_ble_eq_true rfl) rfl hq hdg kk
theorem wf_X0_7 : Cond.fieldLink RX0 7 (TX0 0).1 (TX0 0).2.1 (TX0 0).2.2.1 ∈ TT := TT_of (List.mem_of_getElem? (i := 122) (by decide +kernel)) rfl
theorem gf_X0_7 {X : CT} {cc : ByteArray} {ret : Option FieldType} {fr lo : Nat} {pc q : Nat} {lv st : List Value} {σ : ST} (C : Cx X RX0 cc ret fr lo) (hq : pc + 3 = q) (hdg : decode cc pc = .ok (.getfield 7, 3)) (kk : V X q lv (.int (σ 39 0) :: st) σ) : V X pc lv (.ref (xad X 39) :: st) σ := V_get C (k := 39) (i := 0) (by decide) rfl rfl inT0 (by decide) wf_X0_7 rfl hq hdg kk
theorem pf_X0_7 {X : CT} {cc : ByteArray} {ret : Option FieldType} {fr lo : Nat} {pc q : Nat} {lv st : List Value} {σ : ST} (C : Cx X RX0 cc ret fr lo) {x : Int32} (hq : pc + 3 = q) (hdg : decode cc pc = .ok (.putfield 7, 3)) (kk : V X q lv st (setf σ 39 0 x)) : V X pc lv (.int x :: .ref (xad X 39) :: st) σ := V_put C (k := 39) (i := 0) (ty0 := tyX0) (ty := .int) (g := upd (σ 39) 0 x) (by decide) rfl rfl inT0 tyX0_ok nmX0 (by decide) wf_X0_7 rfl rfl rfl rfl (Nat.le_of_ble_eq_true rfl) rfl hq hdg kk
theorem wf_X1_9 : Cond.fieldLink RX1 9 (TX1 0).1 (TX1 0).2.1 (TX1 0).2.2.1 ∈ TT := TT_of (List.mem_of_getElem? (i := 132) (by decide +kernel)) rfl
theorem gf_X1_9 {X : CT} {cc : ByteArray} {ret : Option FieldType} {fr lo : Nat} {pc q : Nat} {lv st : List Value} {σ : ST} (C : Cx X RX1 cc ret fr lo) (hq : pc + 3 = q) (hdg : decode cc pc = .ok (.getfield 9, 3)) (kk : V X q lv (.int (σ 12 0) :: st) σ) : V X pc lv (.ref (xad X 12) :: st) σ := V_get C (k := 12) (i := 0) (by decide) rfl rfl inT1 (by decide) wf_X1_9 rfl hq hdg kk
theorem pf_X1_9 {X : CT} {cc : ByteArray} {ret : Option FieldType} {fr lo : Nat} {pc q : Nat} {lv st : List Value} {σ : ST} (C : Cx X RX1 cc ret fr lo) {x : Int32} (hq : pc + 3 = q) (hdg : decode cc pc = .ok (.putfield 9, 3)) (kk : V X q lv st (setf σ 12 0 x)) : V X pc lv (.int x :: .ref (xad X 12) :: st) σ := V_put C (k := 12) (i := 0) (ty0 := tyX1) (ty := .int) (g := upd (σ 12) 0 x) (by decide) rfl rfl inT1 tyX1_ok nmX1 (by decide) wf_X1_9 rfl rfl rfl rfl (Nat.le_of_ble_eq_true rfl) rfl hq hdg kk
theorem wf_X8_116 : Cond.fieldLink RX8 116 (TX1 0).1 (TX1 0).2.1 (TX1 0).2.2.1 ∈ TT := TT_of (List.mem_of_getElem? (i := 133) (by decide +kernel)) rfl
theorem gf_X8_116 {X : CT} {cc : ByteArray} {ret : Option FieldType} {fr lo : Nat} {pc q : Nat} {lv st : List Value} {σ : ST} (C : Cx X RX8 cc ret fr lo) (hq : pc + 3 = q) (hdg : decode cc pc = .ok (.getfield 116, 3)) (kk : V X q lv (.int (σ 12 0) :: st) σ) : V X pc lv (.ref (xad X 12) :: st) σ := V_get C (k := 12) (i := 0) (by decide) rfl rfl inT1 (by decide) wf_X8_116 rfl hq hdg kk
theorem pf_X8_116 {X : CT} {cc : ByteArray} {ret : Option FieldType} {fr lo : Nat} {pc q : Nat} {lv st : List Value} {σ : ST} (C : Cx X RX8 cc ret fr lo) {x : Int32} (hq : pc + 3 = q) (hdg : decode cc pc = .ok (.putfield 116, 3)) (kk : V X q lv st (setf σ 12 0 x)) : V X pc lv (.int x :: .ref (xad X 12) :: st) σ := V_put C (k := 12) (i := 0) (ty0 := tyX1) (ty := .int) (g := upd (σ 12) 0 x) (by decide) rfl rfl inT1 tyX1_ok nmX1 (by decide) wf_X8_116 rfl rfl rfl rfl (Nat.le_of_ble_eq_true rfl) rfl hq hdg kk
theorem wf_X4_111 : Cond.fieldLink RX4 111 (TX1 0).1 (TX1 0).2.1 (TX1 0).2.2.1 ∈ TT := TT_of (List.mem_of_getElem? (i := 134) (by decide +kernel)) rfl
theorem gf_X4_111 {X : CT} {cc : ByteArray} {ret : Option FieldType} {fr lo : Nat} {pc q : Nat} {lv st : List Value} {σ : ST} (C : Cx X RX4 cc ret fr lo) (hq : pc + 3 = q) (hdg : decode cc pc = .ok (.getfield 111, 3)) (kk : V X q lv (.int (σ 12 0) :: st) σ) : V X pc lv (.ref (xad X 12) :: st) σ := V_get C (k := 12) (i := 0) (by decide) rfl rfl inT1 (by decide) wf_X4_111 rfl hq hdg kk
theorem pf_X4_111 {X : CT} {cc : ByteArray} {ret : Option FieldType} {fr lo : Nat} {pc q : Nat} {lv st : List Value} {σ : ST} (C : Cx X RX4 cc ret fr lo) {x : Int32} (hq : pc + 3 = q) (hdg : decode cc pc = .ok (.putfield 111, 3)) (kk : V X q lv st (setf σ 12 0 x)) : V X pc lv (.int x :: .ref (xad X 12) :: st) σ := V_put C (k := 12) (i := 0) (ty0 := tyX1) (ty := .int) (g := upd (σ 12) 0 x) (by decide) rfl rfl inT1 tyX1_ok nmX1 (by decide) wf_X4_111 rfl rfl rfl rfl (Nat.le_of_ble_eq_true rfl) rfl hq hdg kk
theorem wf_X1_15 : Cond.fieldLink RX1 15 (TX1 1).1 (TX1 1).2.1 (TX1 1).2.2.1 ∈ TT := TT_of (List.mem_of_getElem? (i := 135) (by decide +kernel)) rfl
theorem gf_X1_15 {X : CT} {cc : ByteArray} {ret : Option FieldType} {fr lo : Nat} {pc q : Nat} {lv st : List Value} {σ : ST} (C : Cx X RX1 cc ret fr lo) (hq : pc + 3 = q) (hdg : decode cc pc = .ok (.getfield 15, 3)) (kk : V X q lv (.int (σ 12 1) :: st) σ) : V X pc lv (.ref (xad X 12) :: st) σ := V_get C (k := 12) (i := 1) (by decide) rfl rfl inT1 (by decide) wf_X1_15 rfl hq hdg kk
theorem pf_X1_15 {X : CT} {cc : ByteArray} {ret : Option FieldType} {fr lo : Nat} {pc q : Nat} {lv st : List Value} {σ : ST} (C : Cx X RX1 cc ret fr lo) {x : Int32} (hq : pc + 3 = q) (hdg : decode cc pc = .ok (.putfield 15, 3)) (kk : V X q lv st (setf σ 12 1 x)) : V X pc lv (.int x :: .ref (xad X 12) :: st) σ := V_put C (k := 12) (i := 1) (ty0 := tyX1) (ty := .int) (g := upd (σ 12) 1 x) (by decide) rfl rfl inT1 tyX1_ok nmX1 (by decide) wf_X1_15 rfl rfl rfl rfl (Nat.le_of_ble_eq_true rfl) rfl hq hdg kk
theorem wf_X4_84 : Cond.fieldLink RX4 84 (TX1 1).1 (TX1 1).2.1 (TX1 1).2.2.1 ∈ TT := TT_of (List.mem_of_getElem? (i := 136) (by decide +kernel)) rfl
theorem gf_X4_84 {X : CT} {cc : ByteArray} {ret : Option FieldType} {fr lo : Nat} {pc q : Nat} {lv st : List Value} {σ : ST} (C : Cx X RX4 cc ret fr lo) (hq : pc + 3 = q) (hdg : decode cc pc = .ok (.getfield 84, 3)) (kk : V X q lv (.int (σ 12 1) :: st) σ) : V X pc lv (.ref (xad X 12) :: st) σ := V_get C (k := 12) (i := 1) (by decide) rfl rfl inT1 (by decide) wf_X4_84 rfl hq hdg kk
theorem pf_X4_84 {X : CT} {cc : ByteArray} {ret : Option FieldType} {fr lo : Nat} {pc q : Nat} {lv st : List Value} {σ : ST} (C : Cx X RX4 cc ret fr lo) {x : Int32} (hq : pc + 3 = q) (hdg : decode cc pc = .ok (.putfield 84, 3)) (kk : V X q lv st (setf σ 12 1 x)) : V X pc lv (.int x :: .ref (xad X 12) :: st) σ := V_put C (k := 12) (i := 1) (ty0 := tyX1) (ty := .int) (g := upd (σ 12) 1 x) (by decide) rfl rfl inT1 tyX1_ok nmX1 (by decide) wf_X4_84 rfl rfl rfl rfl (Nat.le_of_ble_eq_true rfl) rfl hq hdg kk
theorem wf_X1_18 : Cond.fieldLink RX1 18 (TX1 2).1 (TX1 2).2.1 (TX1 2).2.2.1 ∈ TT := TT_of (List.mem_of_getElem? (i := 137) (by decide +kernel)) rfl
theorem gf_X1_18 {X : CT} {cc : ByteArray} {ret : Option FieldType} {fr lo : Nat} {pc q : Nat} {lv st : List Value} {σ : ST} (C : Cx X RX1 cc ret fr lo) (hq : pc + 3 = q) (hdg : decode cc pc = .ok (.getfield 18, 3)) (kk : V X q lv (.int (σ 12 2) :: st) σ) : V X pc lv (.ref (xad X 12) :: st) σ := V_get C (k := 12) (i := 2) (by decide) rfl rfl inT1 (by decide) wf_X1_18 rfl hq hdg kk
theorem pf_X1_18 {X : CT} {cc : ByteArray} {ret : Option FieldType} {fr lo : Nat} {pc q : Nat} {lv st : List Value} {σ : ST} (C : Cx X RX1 cc ret fr lo) {x : Int32} (hq : pc + 3 = q) (hdg : decode cc pc = .ok (.putfield 18, 3)) (kk : V X q lv st (setf σ 12 2 x)) : V X pc lv (.int x :: .ref (xad X 12) :: st) σ := V_put C (k := 12) (i := 2) (ty0 := tyX1) (ty := .int) (g := upd (σ 12) 2 x) (by decide) rfl rfl inT1 tyX1_ok nmX1 (by decide) wf_X1_18 rfl rfl rfl rfl (Nat.le_of_ble_eq_true rfl) rfl hq hdg kk
theorem wf_X4_70 : Cond.fieldLink RX4 70 (TX1 2).1 (TX1 2).2.1 (TX1 2).2.2.1 ∈ TT := TT_of (List.mem_of_getElem? (i := 138) (by decide +kernel)) rfl
theorem gf_X4_70 {X : CT} {cc : ByteArray} {ret : Option FieldType} {fr lo : Nat} {pc q : Nat} {lv st : List Value} {σ : ST} (C : Cx X RX4 cc ret fr lo) (hq : pc + 3 = q) (hdg : decode cc pc = .ok (.getfield 70, 3)) (kk : V X q lv (.int (σ 12 2) :: st) σ) : V X pc lv (.ref (xad X 12) :: st) σ := V_get C (k := 12) (i := 2) (by decide) rfl rfl inT1 (by decide) wf_X4_70 rfl hq hdg kk
theorem pf_X4_70 {X : CT} {cc : ByteArray} {ret : Option FieldType} {fr lo : Nat} {pc q : Nat} {lv st : List Value} {σ : ST} (C : Cx X RX4 cc ret fr lo) {x : Int32} (hq : pc + 3 = q) (hdg : decode cc pc = .ok (.putfield 70, 3)) (kk : V X q lv st (setf σ 12 2 x)) : V X pc lv (.int x :: .ref (xad X 12) :: st) σ := V_put C (k := 12) (i := 2) (ty0 := tyX1) (ty := .int) (g := upd (σ 12) 2 x) (by decide) rfl rfl inT1 tyX1_ok nmX1 (by decide) wf_X4_70 rfl rfl rfl rfl (Nat.le_of_ble_eq_true rfl) rfl hq hdg kk
theorem wf_X8_138 : Cond.fieldLink RX8 138 (TX1 2).1 (TX1 2).2.1 (TX1 2).2.2.1 ∈ TT := TT_of (List.mem_of_getElem? (i := 139) (by decide +kernel)) rfl
theorem gf_X8_138 {X : CT} {cc : ByteArray} {ret : Option FieldType} {fr lo : Nat} {pc q : Nat} {lv st : List Value} {σ : ST} (C : Cx X RX8 cc ret fr lo) (hq : pc + 3 = q) (hdg : decode cc pc = .ok (.getfield 138, 3)) (kk : V X q lv (.int (σ 12 2) :: st) σ) : V X pc lv (.ref (xad X 12) :: st) σ := V_get C (k := 12) (i := 2) (by decide) rfl rfl inT1 (by decide) wf_X8_138 rfl hq hdg kk
theorem pf_X8_138 {X : CT} {cc : ByteArray} {ret : Option FieldType} {fr lo : Nat} {pc q : Nat} {lv st : List Value} {σ : ST} (C : Cx X RX8 cc ret fr lo) {x : Int32} (hq : pc + 3 = q) (hdg : decode cc pc = .ok (.putfield 138, 3)) (kk : V X q lv st (setf σ 12 2 x)) : V X pc lv (.int x :: .ref (xad X 12) :: st) σ := V_put C (k := 12) (i := 2) (ty0 := tyX1) (ty := .int) (g := upd (σ 12) 2 x) (by decide) rfl rfl inT1 tyX1_ok nmX1 (by decide) wf_X8_138 rfl rfl rfl rfl (Nat.le_of_ble_eq_true rfl) rfl hq hdg kk
theorem wf_X1_21 : Cond.fieldLink RX1 21 (TX1 3).1 (TX1 3).2.1 (TX1 3).2.2.1 ∈ TT := TT_of (List.mem_of_getElem? (i := 140) (by decide +kernel)) rfl
theorem gf_X1_21 {X : CT} {cc : ByteArray} {ret : Option FieldType} {fr lo : Nat} {pc q : Nat} {lv st : List Value} {σ : ST} (C : Cx X RX1 cc ret fr lo) (hq : pc + 3 = q) (hdg : decode cc pc = .ok (.getfield 21, 3)) (kk : V X q lv (.ref (xad X 13) :: st) σ) : V X pc lv (.ref (xad X 12) :: st) σ := V_get C (k := 12) (i := 3) (by decide) rfl rfl inT1 (by decide) wf_X1_21 rfl hq hdg kk
theorem wf_X8_122 : Cond.fieldLink RX8 122 (TX1 3).1 (TX1 3).2.1 (TX1 3).2.2.1 ∈ TT := TT_of (List.mem_of_getElem? (i := 141) (by decide +kernel)) rfl
theorem gf_X8_122 {X : CT} {cc : ByteArray} {ret : Option FieldType} {fr lo : Nat} {pc q : Nat} {lv st : List Value} {σ : ST} (C : Cx X RX8 cc ret fr lo) (hq : pc + 3 = q) (hdg : decode cc pc = .ok (.getfield 122, 3)) (kk : V X q lv (.ref (xad X 13) :: st) σ) : V X pc lv (.ref (xad X 12) :: st) σ := V_get C (k := 12) (i := 3) (by decide) rfl rfl inT1 (by decide) wf_X8_122 rfl hq hdg kk
theorem wf_X1_25 : Cond.fieldLink RX1 25 (TX1 4).1 (TX1 4).2.1 (TX1 4).2.2.1 ∈ TT := TT_of (List.mem_of_getElem? (i := 142) (by decide +kernel)) rfl
theorem gf_X1_25 {X : CT} {cc : ByteArray} {ret : Option FieldType} {fr lo : Nat} {pc q : Nat} {lv st : List Value} {σ : ST} (C : Cx X RX1 cc ret fr lo) (hq : pc + 3 = q) (hdg : decode cc pc = .ok (.getfield 25, 3)) (kk : V X q lv (.ref (xad X 14) :: st) σ) : V X pc lv (.ref (xad X 12) :: st) σ := V_get C (k := 12) (i := 4) (by decide) rfl rfl inT1 (by decide) wf_X1_25 rfl hq hdg kk
theorem wf_X8_126 : Cond.fieldLink RX8 126 (TX1 4).1 (TX1 4).2.1 (TX1 4).2.2.1 ∈ TT := TT_of (List.mem_of_getElem? (i := 143) (by decide +kernel)) rfl
theorem gf_X8_126 {X : CT} {cc : ByteArray} {ret : Option FieldType} {fr lo : Nat} {pc q : Nat} {lv st : List Value} {σ : ST} (C : Cx X RX8 cc ret fr lo) (hq : pc + 3 = q) (hdg : decode cc pc = .ok (.getfield 126, 3)) (kk : V X q lv (.ref (xad X 14) :: st) σ) : V X pc lv (.ref (xad X 12) :: st) σ := V_get C (k := 12) (i := 4) (by decide) rfl rfl inT1 (by decide) wf_X8_126 rfl hq hdg kk
theorem wf_X1_28 : Cond.fieldLink RX1 28 (TX1 5).1 (TX1 5).2.1 (TX1 5).2.2.1 ∈ TT := TT_of (List.mem_of_getElem? (i := 144) (by decide +kernel)) rfl
theorem gf_X1_28 {X : CT} {cc : ByteArray} {ret : Option FieldType} {fr lo : Nat} {pc q : Nat} {lv st : List Value} {σ : ST} (C : Cx X RX1 cc ret fr lo) (hq : pc + 3 = q) (hdg : decode cc pc = .ok (.getfield 28, 3)) (kk : V X q lv (.ref (xad X 15) :: st) σ) : V X pc lv (.ref (xad X 12) :: st) σ := V_get C (k := 12) (i := 5) (by decide) rfl rfl inT1 (by decide) wf_X1_28 rfl hq hdg kk
theorem wf_X8_129 : Cond.fieldLink RX8 129 (TX1 5).1 (TX1 5).2.1 (TX1 5).2.2.1 ∈ TT := TT_of (List.mem_of_getElem? (i := 145) (by decide +kernel)) rfl
theorem gf_X8_129 {X : CT} {cc : ByteArray} {ret : Option FieldType} {fr lo : Nat} {pc q : Nat} {lv st : List Value} {σ : ST} (C : Cx X RX8 cc ret fr lo) (hq : pc + 3 = q) (hdg : decode cc pc = .ok (.getfield 129, 3)) (kk : V X q lv (.ref (xad X 15) :: st) σ) : V X pc lv (.ref (xad X 12) :: st) σ := V_get C (k := 12) (i := 5) (by decide) rfl rfl inT1 (by decide) wf_X8_129 rfl hq hdg kk
theorem wf_X1_31 : Cond.fieldLink RX1 31 (TX1 6).1 (TX1 6).2.1 (TX1 6).2.2.1 ∈ TT := TT_of (List.mem_of_getElem? (i := 146) (by decide +kernel)) rfl
theorem gf_X1_31 {X : CT} {cc : ByteArray} {ret : Option FieldType} {fr lo : Nat} {pc q : Nat} {lv st : List Value} {σ : ST} (C : Cx X RX1 cc ret fr lo) (hq : pc + 3 = q) (hdg : decode cc pc = .ok (.getfield 31, 3)) (kk : V X q lv (.ref (xad X 16) :: st) σ) : V X pc lv (.ref (xad X 12) :: st) σ := V_get C (k := 12) (i := 6) (by decide) rfl rfl inT1 (by decide) wf_X1_31 rfl hq hdg kk
theorem wf_X8_132 : Cond.fieldLink RX8 132 (TX1 6).1 (TX1 6).2.1 (TX1 6).2.2.1 ∈ TT := TT_of (List.mem_of_getElem? (i := 147) (by decide +kernel)) rfl
theorem gf_X8_132 {X : CT} {cc : ByteArray} {ret : Option FieldType} {fr lo : Nat} {pc q : Nat} {lv st : List Value} {σ : ST} (C : Cx X RX8 cc ret fr lo) (hq : pc + 3 = q) (hdg : decode cc pc = .ok (.getfield 132, 3)) (kk : V X q lv (.ref (xad X 16) :: st) σ) : V X pc lv (.ref (xad X 12) :: st) σ := V_get C (k := 12) (i := 6) (by decide) rfl rfl inT1 (by decide) wf_X8_132 rfl hq hdg kk
theorem wf_X4_120 : Cond.fieldLink RX4 120 (TX1 6).1 (TX1 6).2.1 (TX1 6).2.2.1 ∈ TT := TT_of (List.mem_of_getElem? (i := 148) (by decide +kernel)) rfl
theorem gf_X4_120 {X : CT} {cc : ByteArray} {ret : Option FieldType} {fr lo : Nat} {pc q : Nat} {lv st : List Value} {σ : ST} (C : Cx X RX4 cc ret fr lo) (hq : pc + 3 = q) (hdg : decode cc pc = .ok (.getfield 120, 3)) (kk : V X q lv (.ref (xad X 16) :: st) σ) : V X pc lv (.ref (xad X 12) :: st) σ := V_get C (k := 12) (i := 6) (by decide) rfl rfl inT1 (by decide) wf_X4_120 rfl hq hdg kk
theorem wf_X1_34 : Cond.fieldLink RX1 34 (TX1 7).1 (TX1 7).2.1 (TX1 7).2.2.1 ∈ TT := TT_of (List.mem_of_getElem? (i := 149) (by decide +kernel)) rfl
theorem gf_X1_34 {X : CT} {cc : ByteArray} {ret : Option FieldType} {fr lo : Nat} {pc q : Nat} {lv st : List Value} {σ : ST} (C : Cx X RX1 cc ret fr lo) (hq : pc + 3 = q) (hdg : decode cc pc = .ok (.getfield 34, 3)) (kk : V X q lv (.ref (xad X 17) :: st) σ) : V X pc lv (.ref (xad X 12) :: st) σ := V_get C (k := 12) (i := 7) (by decide) rfl rfl inT1 (by decide) wf_X1_34 rfl hq hdg kk
theorem wf_X4_123 : Cond.fieldLink RX4 123 (TX1 7).1 (TX1 7).2.1 (TX1 7).2.2.1 ∈ TT := TT_of (List.mem_of_getElem? (i := 150) (by decide +kernel)) rfl
theorem gf_X4_123 {X : CT} {cc : ByteArray} {ret : Option FieldType} {fr lo : Nat} {pc q : Nat} {lv st : List Value} {σ : ST} (C : Cx X RX4 cc ret fr lo) (hq : pc + 3 = q) (hdg : decode cc pc = .ok (.getfield 123, 3)) (kk : V X q lv (.ref (xad X 17) :: st) σ) : V X pc lv (.ref (xad X 12) :: st) σ := V_get C (k := 12) (i := 7) (by decide) rfl rfl inT1 (by decide) wf_X4_123 rfl hq hdg kk
theorem wf_X1_37 : Cond.fieldLink RX1 37 (TX1 8).1 (TX1 8).2.1 (TX1 8).2.2.1 ∈ TT := TT_of (List.mem_of_getElem? (i := 151) (by decide +kernel)) rfl
theorem gf_X1_37 {X : CT} {cc : ByteArray} {ret : Option FieldType} {fr lo : Nat} {pc q : Nat} {lv st : List Value} {σ : ST} (C : Cx X RX1 cc ret fr lo) (hq : pc + 3 = q) (hdg : decode cc pc = .ok (.getfield 37, 3)) (kk : V X q lv (.ref (xad X 18) :: st) σ) : V X pc lv (.ref (xad X 12) :: st) σ := V_get C (k := 12) (i := 8) (by decide) rfl rfl inT1 (by decide) wf_X1_37 rfl hq hdg kk
theorem wf_X8_147 : Cond.fieldLink RX8 147 (TX1 8).1 (TX1 8).2.1 (TX1 8).2.2.1 ∈ TT := TT_of (List.mem_of_getElem? (i := 152) (by decide +kernel)) rfl
theorem gf_X8_147 {X : CT} {cc : ByteArray} {ret : Option FieldType} {fr lo : Nat} {pc q : Nat} {lv st : List Value} {σ : ST} (C : Cx X RX8 cc ret fr lo) (hq : pc + 3 = q) (hdg : decode cc pc = .ok (.getfield 147, 3)) (kk : V X q lv (.ref (xad X 18) :: st) σ) : V X pc lv (.ref (xad X 12) :: st) σ := V_get C (k := 12) (i := 8) (by decide) rfl rfl inT1 (by decide) wf_X8_147 rfl hq hdg kk
theorem wf_X1_40 : Cond.fieldLink RX1 40 (TX1 9).1 (TX1 9).2.1 (TX1 9).2.2.1 ∈ TT := TT_of (List.mem_of_getElem? (i := 153) (by decide +kernel)) rfl
theorem gf_X1_40 {X : CT} {cc : ByteArray} {ret : Option FieldType} {fr lo : Nat} {pc q : Nat} {lv st : List Value} {σ : ST} (C : Cx X RX1 cc ret fr lo) (hq : pc + 3 = q) (hdg : decode cc pc = .ok (.getfield 40, 3)) (kk : V X q lv (.ref (xad X 19) :: st) σ) : V X pc lv (.ref (xad X 12) :: st) σ := V_get C (k := 12) (i := 9) (by decide) rfl rfl inT1 (by decide) wf_X1_40 rfl hq hdg kk
theorem wf_X8_150 : Cond.fieldLink RX8 150 (TX1 9).1 (TX1 9).2.1 (TX1 9).2.2.1 ∈ TT := TT_of (List.mem_of_getElem? (i := 154) (by decide +kernel)) rfl
theorem gf_X8_150 {X : CT} {cc : ByteArray} {ret : Option FieldType} {fr lo : Nat} {pc q : Nat} {lv st : List Value} {σ : ST} (C : Cx X RX8 cc ret fr lo) (hq : pc + 3 = q) (hdg : decode cc pc = .ok (.getfield 150, 3)) (kk : V X q lv (.ref (xad X 19) :: st) σ) : V X pc lv (.ref (xad X 12) :: st) σ := V_get C (k := 12) (i := 9) (by decide) rfl rfl inT1 (by decide) wf_X8_150 rfl hq hdg kk
theorem wf_X1_43 : Cond.fieldLink RX1 43 (TX1 10).1 (TX1 10).2.1 (TX1 10).2.2.1 ∈ TT := TT_of (List.mem_of_getElem? (i := 155) (by decide +kernel)) rfl
theorem gf_X1_43 {X : CT} {cc : ByteArray} {ret : Option FieldType} {fr lo : Nat} {pc q : Nat} {lv st : List Value} {σ : ST} (C : Cx X RX1 cc ret fr lo) (hq : pc + 3 = q) (hdg : decode cc pc = .ok (.getfield 43, 3)) (kk : V X q lv (.ref (xad X 20) :: st) σ) : V X pc lv (.ref (xad X 12) :: st) σ := V_get C (k := 12) (i := 10) (by decide) rfl rfl inT1 (by decide) wf_X1_43 rfl hq hdg kk
theorem wf_X4_105 : Cond.fieldLink RX4 105 (TX1 10).1 (TX1 10).2.1 (TX1 10).2.2.1 ∈ TT := TT_of (List.mem_of_getElem? (i := 156) (by decide +kernel)) rfl
theorem gf_X4_105 {X : CT} {cc : ByteArray} {ret : Option FieldType} {fr lo : Nat} {pc q : Nat} {lv st : List Value} {σ : ST} (C : Cx X RX4 cc ret fr lo) (hq : pc + 3 = q) (hdg : decode cc pc = .ok (.getfield 105, 3)) (kk : V X q lv (.ref (xad X 20) :: st) σ) : V X pc lv (.ref (xad X 12) :: st) σ := V_get C (k := 12) (i := 10) (by decide) rfl rfl inT1 (by decide) wf_X4_105 rfl hq hdg kk
theorem wf_X4_40 : Cond.fieldLink RX4 40 (TX4 0).1 (TX4 0).2.1 (TX4 0).2.2.1 ∈ TT := TT_of (List.mem_of_getElem? (i := 186) (by decide +kernel)) rfl
theorem gf_X4_40 {X : CT} {cc : ByteArray} {ret : Option FieldType} {fr lo : Nat} {pc q : Nat} {lv st : List Value} {σ : ST} (C : Cx X RX4 cc ret fr lo) (hq : pc + 3 = q) (hdg : decode cc pc = .ok (.getfield 40, 3)) (kk : V X q lv (.ref (xad X 12) :: st) σ) : V X pc lv (.ref (xad X 30) :: st) σ := V_get C (k := 30) (i := 0) (by decide) rfl rfl inT4 (by decide) wf_X4_40 rfl hq hdg kk
theorem wf_X4_9 : Cond.fieldLink RX4 9 (TX4 1).1 (TX4 1).2.1 (TX4 1).2.2.1 ∈ TT := TT_of (List.mem_of_getElem? (i := 187) (by decide +kernel)) rfl
theorem gf_X4_9 {X : CT} {cc : ByteArray} {ret : Option FieldType} {fr lo : Nat} {pc q : Nat} {lv st : List Value} {σ : ST} (C : Cx X RX4 cc ret fr lo) (hq : pc + 3 = q) (hdg : decode cc pc = .ok (.getfield 9, 3)) (kk : V X q lv (.ref (xad X 31) :: st) σ) : V X pc lv (.ref (xad X 30) :: st) σ := V_get C (k := 30) (i := 1) (by decide) rfl rfl inT4 (by decide) wf_X4_9 rfl hq hdg kk
theorem wf_X4_15 : Cond.fieldLink RX4 15 (TX4 2).1 (TX4 2).2.1 (TX4 2).2.2.1 ∈ TT := TT_of (List.mem_of_getElem? (i := 188) (by decide +kernel)) rfl
theorem gf_X4_15 {X : CT} {cc : ByteArray} {ret : Option FieldType} {fr lo : Nat} {pc q : Nat} {lv st : List Value} {σ : ST} (C : Cx X RX4 cc ret fr lo) (hq : pc + 3 = q) (hdg : decode cc pc = .ok (.getfield 15, 3)) (kk : V X q lv (.ref (xad X 32) :: st) σ) : V X pc lv (.ref (xad X 30) :: st) σ := V_get C (k := 30) (i := 2) (by decide) rfl rfl inT4 (by decide) wf_X4_15 rfl hq hdg kk
theorem wf_X4_18 : Cond.fieldLink RX4 18 (TX4 3).1 (TX4 3).2.1 (TX4 3).2.2.1 ∈ TT := TT_of (List.mem_of_getElem? (i := 189) (by decide +kernel)) rfl
theorem gf_X4_18 {X : CT} {cc : ByteArray} {ret : Option FieldType} {fr lo : Nat} {pc q : Nat} {lv st : List Value} {σ : ST} (C : Cx X RX4 cc ret fr lo) (hq : pc + 3 = q) (hdg : decode cc pc = .ok (.getfield 18, 3)) (kk : V X q lv (.ref (xad X 33) :: st) σ) : V X pc lv (.ref (xad X 30) :: st) σ := V_get C (k := 30) (i := 3) (by decide) rfl rfl inT4 (by decide) wf_X4_18 rfl hq hdg kk
theorem wf_X4_21 : Cond.fieldLink RX4 21 (TX4 4).1 (TX4 4).2.1 (TX4 4).2.2.1 ∈ TT := TT_of (List.mem_of_getElem? (i := 190) (by decide +kernel)) rfl
theorem gf_X4_21 {X : CT} {cc : ByteArray} {ret : Option FieldType} {fr lo : Nat} {pc q : Nat} {lv st : List Value} {σ : ST} (C : Cx X RX4 cc ret fr lo) (hq : pc + 3 = q) (hdg : decode cc pc = .ok (.getfield 21, 3)) (kk : V X q lv (.int (σ 30 4) :: st) σ) : V X pc lv (.ref (xad X 30) :: st) σ := V_get C (k := 30) (i := 4) (by decide) rfl rfl inT4 (by decide) wf_X4_21 rfl hq hdg kk
theorem pf_X4_21 {X : CT} {cc : ByteArray} {ret : Option FieldType} {fr lo : Nat} {pc q : Nat} {lv st : List Value} {σ : ST} (C : Cx X RX4 cc ret fr lo) {x : Int32} (hq : pc + 3 = q) (hdg : decode cc pc = .ok (.putfield 21, 3)) (kk : V X q lv st (setf σ 30 4 x)) : V X pc lv (.int x :: .ref (xad X 30) :: st) σ := V_put C (k := 30) (i := 4) (ty0 := tyX4) (ty := .int) (g := upd (σ 30) 4 x) (by decide) rfl rfl inT4 tyX4_ok nmX4 (by decide) wf_X4_21 rfl rfl rfl rfl (Nat.le_of_ble_eq_true rfl) rfl hq hdg kk
theorem wf_X4_25 : Cond.fieldLink RX4 25 (TX4 5).1 (TX4 5).2.1 (TX4 5).2.2.1 ∈ TT := TT_of (List.mem_of_getElem? (i := 191) (by decide +kernel)) rfl
theorem gf_X4_25 {X : CT} {cc : ByteArray} {ret : Option FieldType} {fr lo : Nat} {pc q : Nat} {lv st : List Value} {σ : ST} (C : Cx X RX4 cc ret fr lo) (hq : pc + 3 = q) (hdg : decode cc pc = .ok (.getfield 25, 3)) (kk : V X q lv (.int (σ 30 5) :: st) σ) : V X pc lv (.ref (xad X 30) :: st) σ := V_get C (k := 30) (i := 5) (by decide) rfl rfl inT4 (by decide) wf_X4_25 rfl hq hdg kk
theorem pf_X4_25 {X : CT} {cc : ByteArray} {ret : Option FieldType} {fr lo : Nat} {pc q : Nat} {lv st : List Value} {σ : ST} (C : Cx X RX4 cc ret fr lo) {x : Int32} (hq : pc + 3 = q) (hdg : decode cc pc = .ok (.putfield 25, 3)) (kk : V X q lv st (setf σ 30 5 x)) : V X pc lv (.int x :: .ref (xad X 30) :: st) σ := V_put C (k := 30) (i := 5) (ty0 := tyX4) (ty := .int) (g := upd (σ 30) 5 x) (by decide) rfl rfl inT4 tyX4_ok nmX4 (by decide) wf_X4_25 rfl rfl rfl rfl (Nat.le_of_ble_eq_true rfl) rfl hq hdg kk
theorem wf_X8_216 : Cond.fieldLink RX8 216 (TX4 5).1 (TX4 5).2.1 (TX4 5).2.2.1 ∈ TT := TT_of (List.mem_of_getElem? (i := 192) (by decide +kernel)) rfl
theorem gf_X8_216 {X : CT} {cc : ByteArray} {ret : Option FieldType} {fr lo : Nat} {pc q : Nat} {lv st : List Value} {σ : ST} (C : Cx X RX8 cc ret fr lo) (hq : pc + 3 = q) (hdg : decode cc pc = .ok (.getfield 216, 3)) (kk : V X q lv (.int (σ 30 5) :: st) σ) : V X pc lv (.ref (xad X 30) :: st) σ := V_get C (k := 30) (i := 5) (by decide) rfl rfl inT4 (by decide) wf_X8_216 rfl hq hdg kk
theorem pf_X8_216 {X : CT} {cc : ByteArray} {ret : Option FieldType} {fr lo : Nat} {pc q : Nat} {lv st : List Value} {σ : ST} (C : Cx X RX8 cc ret fr lo) {x : Int32} (hq : pc + 3 = q) (hdg : decode cc pc = .ok (.putfield 216, 3)) (kk : V X q lv st (setf σ 30 5 x)) : V X pc lv (.int x :: .ref (xad X 30) :: st) σ := V_put C (k := 30) (i := 5) (ty0 := tyX4) (ty := .int) (g := upd (σ 30) 5 x) (by decide) rfl rfl inT4 tyX4_ok nmX4 (by decide) wf_X8_216 rfl rfl rfl rfl (Nat.le_of_ble_eq_true rfl) rfl hq hdg kk
theorem wf_X4_28 : Cond.fieldLink RX4 28 (TX4 6).1 (TX4 6).2.1 (TX4 6).2.2.1 ∈ TT := TT_of (List.mem_of_getElem? (i := 193) (by decide +kernel)) rfl
theorem gf_X4_28 {X : CT} {cc : ByteArray} {ret : Option FieldType} {fr lo : Nat} {pc q : Nat} {lv st : List Value} {σ : ST} (C : Cx X RX4 cc ret fr lo) (hq : pc + 3 = q) (hdg : decode cc pc = .ok (.getfield 28, 3)) (kk : V X q lv (.ref (xad X 34) :: st) σ) : V X pc lv (.ref (xad X 30) :: st) σ := V_get C (k := 30) (i := 6) (by decide) rfl rfl inT4 (by decide) wf_X4_28 rfl hq hdg kk
theorem wf_X8_192 : Cond.fieldLink RX8 192 (TX4 6).1 (TX4 6).2.1 (TX4 6).2.2.1 ∈ TT := TT_of (List.mem_of_getElem? (i := 194) (by decide +kernel)) rfl
theorem gf_X8_192 {X : CT} {cc : ByteArray} {ret : Option FieldType} {fr lo : Nat} {pc q : Nat} {lv st : List Value} {σ : ST} (C : Cx X RX8 cc ret fr lo) (hq : pc + 3 = q) (hdg : decode cc pc = .ok (.getfield 192, 3)) (kk : V X q lv (.ref (xad X 34) :: st) σ) : V X pc lv (.ref (xad X 30) :: st) σ := V_get C (k := 30) (i := 6) (by decide) rfl rfl inT4 (by decide) wf_X8_192 rfl hq hdg kk
theorem wf_X4_31 : Cond.fieldLink RX4 31 (TX4 7).1 (TX4 7).2.1 (TX4 7).2.2.1 ∈ TT := TT_of (List.mem_of_getElem? (i := 195) (by decide +kernel)) rfl
theorem gf_X4_31 {X : CT} {cc : ByteArray} {ret : Option FieldType} {fr lo : Nat} {pc q : Nat} {lv st : List Value} {σ : ST} (C : Cx X RX4 cc ret fr lo) (hq : pc + 3 = q) (hdg : decode cc pc = .ok (.getfield 31, 3)) (kk : V X q lv (.ref (xad X 35) :: st) σ) : V X pc lv (.ref (xad X 30) :: st) σ := V_get C (k := 30) (i := 7) (by decide) rfl rfl inT4 (by decide) wf_X4_31 rfl hq hdg kk
theorem wf_X8_180 : Cond.fieldLink RX8 180 (TX4 7).1 (TX4 7).2.1 (TX4 7).2.2.1 ∈ TT := TT_of (List.mem_of_getElem? (i := 196) (by decide +kernel)) rfl
theorem gf_X8_180 {X : CT} {cc : ByteArray} {ret : Option FieldType} {fr lo : Nat} {pc q : Nat} {lv st : List Value} {σ : ST} (C : Cx X RX8 cc ret fr lo) (hq : pc + 3 = q) (hdg : decode cc pc = .ok (.getfield 180, 3)) (kk : V X q lv (.ref (xad X 35) :: st) σ) : V X pc lv (.ref (xad X 30) :: st) σ := V_get C (k := 30) (i := 7) (by decide) rfl rfl inT4 (by decide) wf_X8_180 rfl hq hdg kk
theorem wf_X4_34 : Cond.fieldLink RX4 34 (TX4 8).1 (TX4 8).2.1 (TX4 8).2.2.1 ∈ TT := TT_of (List.mem_of_getElem? (i := 197) (by decide +kernel)) rfl
theorem gf_X4_34 {X : CT} {cc : ByteArray} {ret : Option FieldType} {fr lo : Nat} {pc q : Nat} {lv st : List Value} {σ : ST} (C : Cx X RX4 cc ret fr lo) (hq : pc + 3 = q) (hdg : decode cc pc = .ok (.getfield 34, 3)) (kk : V X q lv (.ref (xad X 36) :: st) σ) : V X pc lv (.ref (xad X 30) :: st) σ := V_get C (k := 30) (i := 8) (by decide) rfl rfl inT4 (by decide) wf_X4_34 rfl hq hdg kk
theorem wf_X8_183 : Cond.fieldLink RX8 183 (TX4 8).1 (TX4 8).2.1 (TX4 8).2.2.1 ∈ TT := TT_of (List.mem_of_getElem? (i := 198) (by decide +kernel)) rfl
theorem gf_X8_183 {X : CT} {cc : ByteArray} {ret : Option FieldType} {fr lo : Nat} {pc q : Nat} {lv st : List Value} {σ : ST} (C : Cx X RX8 cc ret fr lo) (hq : pc + 3 = q) (hdg : decode cc pc = .ok (.getfield 183, 3)) (kk : V X q lv (.ref (xad X 36) :: st) σ) : V X pc lv (.ref (xad X 30) :: st) σ := V_get C (k := 30) (i := 8) (by decide) rfl rfl inT4 (by decide) wf_X8_183 rfl hq hdg kk
theorem wf_X4_37 : Cond.fieldLink RX4 37 (TX4 9).1 (TX4 9).2.1 (TX4 9).2.2.1 ∈ TT := TT_of (List.mem_of_getElem? (i := 199) (by decide +kernel)) rfl
theorem gf_X4_37 {X : CT} {cc : ByteArray} {ret : Option FieldType} {fr lo : Nat} {pc q : Nat} {lv st : List Value} {σ : ST} (C : Cx X RX4 cc ret fr lo) (hq : pc + 3 = q) (hdg : decode cc pc = .ok (.getfield 37, 3)) (kk : V X q lv (.int (σ 30 9) :: st) σ) : V X pc lv (.ref (xad X 30) :: st) σ := V_get C (k := 30) (i := 9) (by decide) rfl rfl inT4 (by decide) wf_X4_37 rfl hq hdg kk
theorem pf_X4_37 {X : CT} {cc : ByteArray} {ret : Option FieldType} {fr lo : Nat} {pc q : Nat} {lv st : List Value} {σ : ST} (C : Cx X RX4 cc ret fr lo) {x : Int32} (hq : pc + 3 = q) (hdg : decode cc pc = .ok (.putfield 37, 3)) (kk : V X q lv st (setf σ 30 9 x)) : V X pc lv (.int x :: .ref (xad X 30) :: st) σ := V_put C (k := 30) (i := 9) (ty0 := tyX4) (ty := .int) (g := upd (σ 30) 9 x) (by decide) rfl rfl inT4 tyX4_ok nmX4 (by decide) wf_X4_37 rfl rfl rfl rfl (Nat.le_of_ble_eq_true rfl) rfl hq hdg kk
theorem wf_X8_189 : Cond.fieldLink RX8 189 (TX4 9).1 (TX4 9).2.1 (TX4 9).2.2.1 ∈ TT := TT_of (List.mem_of_getElem? (i := 200) (by decide +kernel)) rfl
theorem gf_X8_189 {X : CT} {cc : ByteArray} {ret : Option FieldType} {fr lo : Nat} {pc q : Nat} {lv st : List Value} {σ : ST} (C : Cx X RX8 cc ret fr lo) (hq : pc + 3 = q) (hdg : decode cc pc = .ok (.getfield 189, 3)) (kk : V X q lv (.int (σ 30 9) :: st) σ) : V X pc lv (.ref (xad X 30) :: st) σ := V_get C (k := 30) (i := 9) (by decide) rfl rfl inT4 (by decide) wf_X8_189 rfl hq hdg kk
theorem pf_X8_189 {X : CT} {cc : ByteArray} {ret : Option FieldType} {fr lo : Nat} {pc q : Nat} {lv st : List Value} {σ : ST} (C : Cx X RX8 cc ret fr lo) {x : Int32} (hq : pc + 3 = q) (hdg : decode cc pc = .ok (.putfield 189, 3)) (kk : V X q lv st (setf σ 30 9 x)) : V X pc lv (.int x :: .ref (xad X 30) :: st) σ := V_put C (k := 30) (i := 9) (ty0 := tyX4) (ty := .int) (g := upd (σ 30) 9 x) (by decide) rfl rfl inT4 tyX4_ok nmX4 (by decide) wf_X8_189 rfl rfl rfl rfl (Nat.le_of_ble_eq_true rfl) rfl hq hdg kk
theorem wf_X3_15 : Cond.fieldLink RX3 15 (TX3 0).1 (TX3 0).2.1 (TX3 0).2.2.1 ∈ TT := TT_of (List.mem_of_getElem? (i := 228) (by decide +kernel)) rfl
theorem gf_X3_15 {X : CT} {cc : ByteArray} {ret : Option FieldType} {fr lo : Nat} {pc q : Nat} {lv st : List Value} {σ : ST} (C : Cx X RX3 cc ret fr lo) (hq : pc + 3 = q) (hdg : decode cc pc = .ok (.getfield 15, 3)) (kk : V X q lv (.ref (xad X 12) :: st) σ) : V X pc lv (.ref (xad X 37) :: st) σ := V_get C (k := 37) (i := 0) (by decide) rfl rfl inT3 (by decide) wf_X3_15 rfl hq hdg kk
theorem wf_X3_19 : Cond.fieldLink RX3 19 (TX3 1).1 (TX3 1).2.1 (TX3 1).2.2.1 ∈ TT := TT_of (List.mem_of_getElem? (i := 229) (by decide +kernel)) rfl
theorem gf_X3_19 {X : CT} {cc : ByteArray} {ret : Option FieldType} {fr lo : Nat} {pc q : Nat} {lv st : List Value} {σ : ST} (C : Cx X RX3 cc ret fr lo) (hq : pc + 3 = q) (hdg : decode cc pc = .ok (.getfield 19, 3)) (kk : V X q lv (.ref (xad X 30) :: st) σ) : V X pc lv (.ref (xad X 37) :: st) σ := V_get C (k := 37) (i := 1) (by decide) rfl rfl inT3 (by decide) wf_X3_19 rfl hq hdg kk
theorem wf_X3_9 : Cond.fieldLink RX3 9 (TX3 2).1 (TX3 2).2.1 (TX3 2).2.2.1 ∈ TT := TT_of (List.mem_of_getElem? (i := 230) (by decide +kernel)) rfl
theorem gf_X3_9 {X : CT} {cc : ByteArray} {ret : Option FieldType} {fr lo : Nat} {pc q : Nat} {lv st : List Value} {σ : ST} (C : Cx X RX3 cc ret fr lo) (hq : pc + 3 = q) (hdg : decode cc pc = .ok (.getfield 9, 3)) (kk : V X q lv (.ref (xad X 38) :: st) σ) : V X pc lv (.ref (xad X 37) :: st) σ := V_get C (k := 37) (i := 2) (by decide) rfl rfl inT3 (by decide) wf_X3_9 rfl hq hdg kk
theorem wf_X5_9 : Cond.fieldLink RX5 9 (TX5 0).1 (TX5 0).2.1 (TX5 0).2.2.1 ∈ TT := TT_of (List.mem_of_getElem? (i := 243) (by decide +kernel)) rfl
theorem gf_X5_9 {X : CT} {cc : ByteArray} {ret : Option FieldType} {fr lo : Nat} {pc q : Nat} {lv st : List Value} {σ : ST} (C : Cx X RX5 cc ret fr lo) {j : Nat} (hj : j < 4) (hq : pc + 3 = q) (hdg : decode cc pc = .ok (.getfield 9, 3)) (kk : V X q lv (.ref (xad X (2 + 2 * j + 1)) :: st) σ) : V X pc lv (.ref (xad X (2 + 2 * j)) :: st) σ := V_get C (k := (2 + 2 * j)) (i := 0) (by omega) (sh_at hj) rfl inT5 (by decide) wf_X5_9 rfl hq hdg kk
theorem wf_X6_25 : Cond.fieldLink RX6 25 (TX5 0).1 (TX5 0).2.1 (TX5 0).2.2.1 ∈ TT := TT_of (List.mem_of_getElem? (i := 244) (by decide +kernel)) rfl
theorem gf_X6_25 {X : CT} {cc : ByteArray} {ret : Option FieldType} {fr lo : Nat} {pc q : Nat} {lv st : List Value} {σ : ST} (C : Cx X RX6 cc ret fr lo) {j : Nat} (hj : j < 4) (hq : pc + 3 = q) (hdg : decode cc pc = .ok (.getfield 25, 3)) (kk : V X q lv (.ref (xad X (2 + 2 * j + 1)) :: st) σ) : V X pc lv (.ref (xad X (2 + 2 * j)) :: st) σ := V_get C (k := (2 + 2 * j)) (i := 0) (by omega) (sh_at hj) rfl inT5 (by decide) wf_X6_25 rfl hq hdg kk
theorem wf_X8_252 : Cond.fieldLink RX8 252 (TX5 0).1 (TX5 0).2.1 (TX5 0).2.2.1 ∈ TT := TT_of (List.mem_of_getElem? (i := 245) (by decide +kernel)) rfl
theorem gf_X8_252 {X : CT} {cc : ByteArray} {ret : Option FieldType} {fr lo : Nat} {pc q : Nat} {lv st : List Value} {σ : ST} (C : Cx X RX8 cc ret fr lo) {j : Nat} (hj : j < 4) (hq : pc + 3 = q) (hdg : decode cc pc = .ok (.getfield 252, 3)) (kk : V X q lv (.ref (xad X (2 + 2 * j + 1)) :: st) σ) : V X pc lv (.ref (xad X (2 + 2 * j)) :: st) σ := V_get C (k := (2 + 2 * j)) (i := 0) (by omega) (sh_at hj) rfl inT5 (by decide) wf_X8_252 rfl hq hdg kk
theorem wf_X5_15 : Cond.fieldLink RX5 15 (TX5 1).1 (TX5 1).2.1 (TX5 1).2.2.1 ∈ TT := TT_of (List.mem_of_getElem? (i := 246) (by decide +kernel)) rfl
theorem gf_X5_15 {X : CT} {cc : ByteArray} {ret : Option FieldType} {fr lo : Nat} {pc q : Nat} {lv st : List Value} {σ : ST} (C : Cx X RX5 cc ret fr lo) {j : Nat} (hj : j < 4) (hq : pc + 3 = q) (hdg : decode cc pc = .ok (.getfield 15, 3)) (kk : V X q lv (.int (σ (2 + 2 * j) 1) :: st) σ) : V X pc lv (.ref (xad X (2 + 2 * j)) :: st) σ := V_get C (k := (2 + 2 * j)) (i := 1) (by omega) (sh_at hj) rfl inT5 (by decide) wf_X5_15 rfl hq hdg kk
theorem pf_X5_15 {X : CT} {cc : ByteArray} {ret : Option FieldType} {fr lo : Nat} {pc q : Nat} {lv st : List Value} {σ : ST} (C : Cx X RX5 cc ret fr lo) {j : Nat} (hj : j < 4) {x : Int32} (hz : narrow .boolean (.int x) = .int x) (hz2 : fits .boolean (.int x) = true) (hq : pc + 3 = q) (hdg : decode cc pc = .ok (.putfield 15, 3)) (kk : V X q lv st (setf σ (2 + 2 * j) 1 x)) : V X pc lv (.int x :: .ref (xad X (2 + 2 * j)) :: st) σ := V_put C (k := (2 + 2 * j)) (i := 1) (ty0 := tyX5) (ty := .boolean) (g := upd (σ (2 + 2 * j)) 1 x) (by omega) (sh_at hj) rfl inT5 tyX5_ok nmX5 (by decide) wf_X5_15 rfl rfl hz hz2 (Nat.le_of_ble_eq_true rfl) (by rw [sh_at hj]; rfl) hq hdg kk
theorem wf_X8_90 : Cond.fieldLink RX8 90 (TX5 1).1 (TX5 1).2.1 (TX5 1).2.2.1 ∈ TT := TT_of (List.mem_of_getElem? (i := 247) (by decide +kernel)) rfl
theorem gf_X8_90 {X : CT} {cc : ByteArray} {ret : Option FieldType} {fr lo : Nat} {pc q : Nat} {lv st : List Value} {σ : ST} (C : Cx X RX8 cc ret fr lo) {j : Nat} (hj : j < 4) (hq : pc + 3 = q) (hdg : decode cc pc = .ok (.getfield 90, 3)) (kk : V X q lv (.int (σ (2 + 2 * j) 1) :: st) σ) : V X pc lv (.ref (xad X (2 + 2 * j)) :: st) σ := V_get C (k := (2 + 2 * j)) (i := 1) (by omega) (sh_at hj) rfl inT5 (by decide) wf_X8_90 rfl hq hdg kk
theorem pf_X8_90 {X : CT} {cc : ByteArray} {ret : Option FieldType} {fr lo : Nat} {pc q : Nat} {lv st : List Value} {σ : ST} (C : Cx X RX8 cc ret fr lo) {j : Nat} (hj : j < 4) {x : Int32} (hz : narrow .boolean (.int x) = .int x) (hz2 : fits .boolean (.int x) = true) (hq : pc + 3 = q) (hdg : decode cc pc = .ok (.putfield 90, 3)) (kk : V X q lv st (setf σ (2 + 2 * j) 1 x)) : V X pc lv (.int x :: .ref (xad X (2 + 2 * j)) :: st) σ := V_put C (k := (2 + 2 * j)) (i := 1) (ty0 := tyX5) (ty := .boolean) (g := upd (σ (2 + 2 * j)) 1 x) (by omega) (sh_at hj) rfl inT5 tyX5_ok nmX5 (by decide) wf_X8_90 rfl rfl hz hz2 (Nat.le_of_ble_eq_true rfl) (by rw [sh_at hj]; rfl) hq hdg kk
theorem wf_X5_19 : Cond.fieldLink RX5 19 (TX5 2).1 (TX5 2).2.1 (TX5 2).2.2.1 ∈ TT := TT_of (List.mem_of_getElem? (i := 248) (by decide +kernel)) rfl
theorem gf_X5_19 {X : CT} {cc : ByteArray} {ret : Option FieldType} {fr lo : Nat} {pc q : Nat} {lv st : List Value} {σ : ST} (C : Cx X RX5 cc ret fr lo) {j : Nat} (hj : j < 4) (hq : pc + 3 = q) (hdg : decode cc pc = .ok (.getfield 19, 3)) (kk : V X q lv (.int (σ (2 + 2 * j) 2) :: st) σ) : V X pc lv (.ref (xad X (2 + 2 * j)) :: st) σ := V_get C (k := (2 + 2 * j)) (i := 2) (by omega) (sh_at hj) rfl inT5 (by decide) wf_X5_19 rfl hq hdg kk
theorem pf_X5_19 {X : CT} {cc : ByteArray} {ret : Option FieldType} {fr lo : Nat} {pc q : Nat} {lv st : List Value} {σ : ST} (C : Cx X RX5 cc ret fr lo) {j : Nat} (hj : j < 4) {x : Int32} (hq : pc + 3 = q) (hdg : decode cc pc = .ok (.putfield 19, 3)) (kk : V X q lv st (setf σ (2 + 2 * j) 2 x)) : V X pc lv (.int x :: .ref (xad X (2 + 2 * j)) :: st) σ := V_put C (k := (2 + 2 * j)) (i := 2) (ty0 := tyX5) (ty := .int) (g := upd (σ (2 + 2 * j)) 2 x) (by omega) (sh_at hj) rfl inT5 tyX5_ok nmX5 (by decide) wf_X5_19 rfl rfl rfl rfl (Nat.le_of_ble_eq_true rfl) (by rw [sh_at hj]; rfl) hq hdg kk
theorem wf_X5_23 : Cond.fieldLink RX5 23 (TX5 3).1 (TX5 3).2.1 (TX5 3).2.2.1 ∈ TT := TT_of (List.mem_of_getElem? (i := 249) (by decide +kernel)) rfl
theorem gf_X5_23 {X : CT} {cc : ByteArray} {ret : Option FieldType} {fr lo : Nat} {pc q : Nat} {lv st : List Value} {σ : ST} (C : Cx X RX5 cc ret fr lo) {j : Nat} (hj : j < 4) (hq : pc + 3 = q) (hdg : decode cc pc = .ok (.getfield 23, 3)) (kk : V X q lv (.int (σ (2 + 2 * j) 3) :: st) σ) : V X pc lv (.ref (xad X (2 + 2 * j)) :: st) σ := V_get C (k := (2 + 2 * j)) (i := 3) (by omega) (sh_at hj) rfl inT5 (by decide) wf_X5_23 rfl hq hdg kk
theorem pf_X5_23 {X : CT} {cc : ByteArray} {ret : Option FieldType} {fr lo : Nat} {pc q : Nat} {lv st : List Value} {σ : ST} (C : Cx X RX5 cc ret fr lo) {j : Nat} (hj : j < 4) {x : Int32} (hq : pc + 3 = q) (hdg : decode cc pc = .ok (.putfield 23, 3)) (kk : V X q lv st (setf σ (2 + 2 * j) 3 x)) : V X pc lv (.int x :: .ref (xad X (2 + 2 * j)) :: st) σ := V_put C (k := (2 + 2 * j)) (i := 3) (ty0 := tyX5) (ty := .int) (g := upd (σ (2 + 2 * j)) 3 x) (by omega) (sh_at hj) rfl inT5 tyX5_ok nmX5 (by decide) wf_X5_23 rfl rfl rfl rfl (Nat.le_of_ble_eq_true rfl) (by rw [sh_at hj]; rfl) hq hdg kk
theorem wf_X8_13 : Cond.fieldLink RX8 13 (TX8 0).1 (TX8 0).2.1 (TX8 0).2.2.1 ∈ TT := TT_of (List.mem_of_getElem? (i := 259) (by decide +kernel)) rfl
theorem gf_X8_13 {X : CT} {cc : ByteArray} {ret : Option FieldType} {fr lo : Nat} {pc q : Nat} {lv st : List Value} {σ : ST} (C : Cx X RX8 cc ret fr lo) (hq : pc + 3 = q) (hdg : decode cc pc = .ok (.getfield 13, 3)) (kk : V X q lv (.ref (xad X 1) :: st) σ) : V X pc lv (.ref (xad X 0) :: st) σ := V_get C (k := 0) (i := 0) (by decide) rfl rfl inT8 (by decide) wf_X8_13 rfl hq hdg kk
theorem wf_X8_20 : Cond.fieldLink RX8 20 (TX8 1).1 (TX8 1).2.1 (TX8 1).2.2.1 ∈ TT := TT_of (List.mem_of_getElem? (i := 260) (by decide +kernel)) rfl
theorem gf_X8_20 {X : CT} {cc : ByteArray} {ret : Option FieldType} {fr lo : Nat} {pc q : Nat} {lv st : List Value} {σ : ST} (C : Cx X RX8 cc ret fr lo) (hq : pc + 3 = q) (hdg : decode cc pc = .ok (.getfield 20, 3)) (kk : V X q lv (.ref (xad X 10) :: st) σ) : V X pc lv (.ref (xad X 0) :: st) σ := V_get C (k := 0) (i := 1) (by decide) rfl rfl inT8 (by decide) wf_X8_20 rfl hq hdg kk
theorem wf_X8_57 : Cond.fieldLink RX8 57 (TX8 2).1 (TX8 2).2.1 (TX8 2).2.2.1 ∈ TT := TT_of (List.mem_of_getElem? (i := 261) (by decide +kernel)) rfl
theorem gf_X8_57 {X : CT} {cc : ByteArray} {ret : Option FieldType} {fr lo : Nat} {pc q : Nat} {lv st : List Value} {σ : ST} (C : Cx X RX8 cc ret fr lo) (hq : pc + 3 = q) (hdg : decode cc pc = .ok (.getfield 57, 3)) (kk : V X q lv (.ref (xad X 12) :: st) σ) : V X pc lv (.ref (xad X 0) :: st) σ := V_get C (k := 0) (i := 2) (by decide) rfl rfl inT8 (by decide) wf_X8_57 rfl hq hdg kk
theorem wf_X8_27 : Cond.fieldLink RX8 27 (TX8 3).1 (TX8 3).2.1 (TX8 3).2.2.1 ∈ TT := TT_of (List.mem_of_getElem? (i := 262) (by decide +kernel)) rfl
theorem gf_X8_27 {X : CT} {cc : ByteArray} {ret : Option FieldType} {fr lo : Nat} {pc q : Nat} {lv st : List Value} {σ : ST} (C : Cx X RX8 cc ret fr lo) (hq : pc + 3 = q) (hdg : decode cc pc = .ok (.getfield 27, 3)) (kk : V X q lv (.ref (xad X 21) :: st) σ) : V X pc lv (.ref (xad X 0) :: st) σ := V_get C (k := 0) (i := 3) (by decide) rfl rfl inT8 (by decide) wf_X8_27 rfl hq hdg kk
theorem wf_X8_34 : Cond.fieldLink RX8 34 (TX8 4).1 (TX8 4).2.1 (TX8 4).2.2.1 ∈ TT := TT_of (List.mem_of_getElem? (i := 263) (by decide +kernel)) rfl
theorem gf_X8_34 {X : CT} {cc : ByteArray} {ret : Option FieldType} {fr lo : Nat} {pc q : Nat} {lv st : List Value} {σ : ST} (C : Cx X RX8 cc ret fr lo) (hq : pc + 3 = q) (hdg : decode cc pc = .ok (.getfield 34, 3)) (kk : V X q lv (.ref (xad X 26) :: st) σ) : V X pc lv (.ref (xad X 0) :: st) σ := V_get C (k := 0) (i := 4) (by decide) rfl rfl inT8 (by decide) wf_X8_34 rfl hq hdg kk
theorem wf_X8_61 : Cond.fieldLink RX8 61 (TX8 5).1 (TX8 5).2.1 (TX8 5).2.2.1 ∈ TT := TT_of (List.mem_of_getElem? (i := 264) (by decide +kernel)) rfl
theorem gf_X8_61 {X : CT} {cc : ByteArray} {ret : Option FieldType} {fr lo : Nat} {pc q : Nat} {lv st : List Value} {σ : ST} (C : Cx X RX8 cc ret fr lo) (hq : pc + 3 = q) (hdg : decode cc pc = .ok (.getfield 61, 3)) (kk : V X q lv (.ref (xad X 30) :: st) σ) : V X pc lv (.ref (xad X 0) :: st) σ := V_get C (k := 0) (i := 5) (by decide) rfl rfl inT8 (by decide) wf_X8_61 rfl hq hdg kk
theorem wf_X8_70 : Cond.fieldLink RX8 70 (TX8 6).1 (TX8 6).2.1 (TX8 6).2.2.1 ∈ TT := TT_of (List.mem_of_getElem? (i := 265) (by decide +kernel)) rfl
theorem gf_X8_70 {X : CT} {cc : ByteArray} {ret : Option FieldType} {fr lo : Nat} {pc q : Nat} {lv st : List Value} {σ : ST} (C : Cx X RX8 cc ret fr lo) (hq : pc + 3 = q) (hdg : decode cc pc = .ok (.getfield 70, 3)) (kk : V X q lv (.ref (xad X 37) :: st) σ) : V X pc lv (.ref (xad X 0) :: st) σ := V_get C (k := 0) (i := 6) (by decide) rfl rfl inT8 (by decide) wf_X8_70 rfl hq hdg kk
theorem wf_X8_41 : Cond.fieldLink RX8 41 (TX8 7).1 (TX8 7).2.1 (TX8 7).2.2.1 ∈ TT := TT_of (List.mem_of_getElem? (i := 266) (by decide +kernel)) rfl
theorem gf_X8_41 {X : CT} {cc : ByteArray} {ret : Option FieldType} {fr lo : Nat} {pc q : Nat} {lv st : List Value} {σ : ST} (C : Cx X RX8 cc ret fr lo) (hq : pc + 3 = q) (hdg : decode cc pc = .ok (.getfield 41, 3)) (kk : V X q lv (.ref (xad X 39) :: st) σ) : V X pc lv (.ref (xad X 0) :: st) σ := V_get C (k := 0) (i := 7) (by decide) rfl rfl inT8 (by decide) wf_X8_41 rfl hq hdg kk
theorem wf_X8_45 : Cond.fieldLink RX8 45 (TX8 8).1 (TX8 8).2.1 (TX8 8).2.2.1 ∈ TT := TT_of (List.mem_of_getElem? (i := 267) (by decide +kernel)) rfl
theorem gf_X8_45 {X : CT} {cc : ByteArray} {ret : Option FieldType} {fr lo : Nat} {pc q : Nat} {lv st : List Value} {σ : ST} (C : Cx X RX8 cc ret fr lo) (hq : pc + 3 = q) (hdg : decode cc pc = .ok (.getfield 45, 3)) (kk : V X q lv (.int (σ 0 8) :: st) σ) : V X pc lv (.ref (xad X 0) :: st) σ := V_get C (k := 0) (i := 8) (by decide) rfl rfl inT8 (by decide) wf_X8_45 rfl hq hdg kk
theorem pf_X8_45 {X : CT} {cc : ByteArray} {ret : Option FieldType} {fr lo : Nat} {pc q : Nat} {lv st : List Value} {σ : ST} (C : Cx X RX8 cc ret fr lo) {x : Int32} (hq : pc + 3 = q) (hdg : decode cc pc = .ok (.putfield 45, 3)) (kk : V X q lv st (setf σ 0 8 x)) : V X pc lv (.int x :: .ref (xad X 0) :: st) σ := V_put C (k := 0) (i := 8) (ty0 := tyX8) (ty := .int) (g := upd (σ 0) 8 x) (by decide) rfl rfl inT8 tyX8_ok nmX8 (by decide) wf_X8_45 rfl rfl rfl rfl (Nat.le_of_ble_eq_true rfl) rfl hq hdg kk
theorem wm_L_59 : Cond.methodLink RL 59 yX8_orchard ∈ TT := TT_of (List.mem_of_getElem? (i := 287) (by decide +kernel)) rfl
theorem wm_X8_75 : Cond.methodLink RX8 75 yX8_sheetOf ∈ TT := TT_of (List.mem_of_getElem? (i := 291) (by decide +kernel)) rfl
theorem wm_X8_79 : Cond.methodLink RX8 79 yX8_isLane ∈ TT := TT_of (List.mem_of_getElem? (i := 295) (by decide +kernel)) rfl
theorem wm_X8_83 : Cond.methodLink RX8 83 yX5_isOfOtherLane ∈ TT := TT_of (List.mem_of_getElem? (i := 298) (by decide +kernel)) rfl
theorem wm_X8_86 : Cond.methodLink RX8 86 yX8_faulted ∈ TT := TT_of (List.mem_of_getElem? (i := 302) (by decide +kernel)) rfl
theorem wm_X8_94 : Cond.methodLink RX8 94 yX5_hasCells ∈ TT := TT_of (List.mem_of_getElem? (i := 306) (by decide +kernel)) rfl
theorem wm_X8_98 : Cond.methodLink RX8 98 yX6_take ∈ TT := TT_of (List.mem_of_getElem? (i := 310) (by decide +kernel)) rfl
theorem wm_X6_30 : Cond.methodLink RX6 30 arraycopyName ∈ TT := TT_of (List.mem_of_getElem? (i := 314) (by decide +kernel)) rfl
theorem wn_copyS : Cond.static arraycopyName ∈ TT := TT_of (List.mem_of_getElem? (i := 315) (by decide +kernel)) rfl
theorem wn_copy : Cond.native arraycopyName ∈ TT := TT_of (List.mem_of_getElem? (i := 316) (by decide +kernel)) rfl
theorem wm_X8_102 : Cond.methodLink RX8 102 yX6_firstFault ∈ TT := TT_of (List.mem_of_getElem? (i := 317) (by decide +kernel)) rfl
theorem wm_X6_36 : Cond.methodLink RX6 36 yX6_codeAt ∈ TT := TT_of (List.mem_of_getElem? (i := 321) (by decide +kernel)) rfl
theorem wm_X6_40 : Cond.methodLink RX6 40 yX6_kindAt ∈ TT := TT_of (List.mem_of_getElem? (i := 325) (by decide +kernel)) rfl
theorem wm_X6_43 : Cond.methodLink RX6 43 yX6_isDigit ∈ TT := TT_of (List.mem_of_getElem? (i := 329) (by decide +kernel)) rfl
theorem wm_X6_47 : Cond.methodLink RX6 47 yX6_digitAt ∈ TT := TT_of (List.mem_of_getElem? (i := 333) (by decide +kernel)) rfl
theorem wm_X8_106 : Cond.methodLink RX8 106 yX1_plant ∈ TT := TT_of (List.mem_of_getElem? (i := 337) (by decide +kernel)) rfl
theorem wm_X1_50 : Cond.methodLink RX1 50 yX6_kindAt ∈ TT := TT_of (List.mem_of_getElem? (i := 341) (by decide +kernel)) rfl
theorem wm_X1_54 : Cond.methodLink RX1 54 yX6_digitAt ∈ TT := TT_of (List.mem_of_getElem? (i := 342) (by decide +kernel)) rfl
theorem wm_X1_57 : Cond.methodLink RX1 57 yX1_waterWantedBy ∈ TT := TT_of (List.mem_of_getElem? (i := 343) (by decide +kernel)) rfl
theorem wm_X1_60 : Cond.methodLink RX1 60 yJ7_fill_53178 ∈ TT := TT_of (List.mem_of_getElem? (i := 347) (by decide +kernel)) rfl
theorem wm_X1_66 : Cond.methodLink RX1 66 yX6_termAt ∈ TT := TT_of (List.mem_of_getElem? (i := 350) (by decide +kernel)) rfl
theorem wm_X1_69 : Cond.methodLink RX1 69 yX1_prisonersFitting ∈ TT := TT_of (List.mem_of_getElem? (i := 357) (by decide +kernel)) rfl
theorem wm_X1_72 : Cond.methodLink RX1 72 yX1_locksOpenedBy ∈ TT := TT_of (List.mem_of_getElem? (i := 361) (by decide +kernel)) rfl
theorem wm_X8_110 : Cond.methodLink RX8 110 yX7_clear ∈ TT := TT_of (List.mem_of_getElem? (i := 368) (by decide +kernel)) rfl
theorem wm_X7_31 : Cond.methodLink RX7 31 yJ7_fill_53178 ∈ TT := TT_of (List.mem_of_getElem? (i := 372) (by decide +kernel)) rfl
theorem wm_L_67 : Cond.methodLink RL 67 yX8_ofTree ∈ TT := TT_of (List.mem_of_getElem? (i := 373) (by decide +kernel)) rfl
theorem wm_X8_119 : Cond.methodLink RX8 119 yX1_hasTree ∈ TT := TT_of (List.mem_of_getElem? (i := 377) (by decide +kernel)) rfl
theorem wm_X8_135 : Cond.methodLink RX8 135 yX1_locksOpenedBy ∈ TT := TT_of (List.mem_of_getElem? (i := 381) (by decide +kernel)) rfl
theorem wm_X8_141 : Cond.methodLink RX8 141 yX8_isIn ∈ TT := TT_of (List.mem_of_getElem? (i := 382) (by decide +kernel)) rfl
theorem wm_L_86 : Cond.methodLink RL 86 yX8_ofPrisoner ∈ TT := TT_of (List.mem_of_getElem? (i := 383) (by decide +kernel)) rfl
theorem wm_X8_144 : Cond.methodLink RX8 144 yX1_hasPrisoner ∈ TT := TT_of (List.mem_of_getElem? (i := 387) (by decide +kernel)) rfl
theorem wm_L_28 : Cond.methodLink RL 28 yX8_rain ∈ TT := TT_of (List.mem_of_getElem? (i := 391) (by decide +kernel)) rfl
theorem wm_X8_153 : Cond.methodLink RX8 153 yX8_isDay ∈ TT := TT_of (List.mem_of_getElem? (i := 395) (by decide +kernel)) rfl
theorem wm_X8_156 : Cond.methodLink RX8 156 yX1_isPlanted ∈ TT := TT_of (List.mem_of_getElem? (i := 396) (by decide +kernel)) rfl
theorem wm_L_31 : Cond.methodLink RL 31 yX8_water ∈ TT := TT_of (List.mem_of_getElem? (i := 400) (by decide +kernel)) rfl
theorem wm_L_34 : Cond.methodLink RL 34 yX8_frost ∈ TT := TT_of (List.mem_of_getElem? (i := 404) (by decide +kernel)) rfl
theorem wm_L_42 : Cond.methodLink RL 42 yX8_crow ∈ TT := TT_of (List.mem_of_getElem? (i := 408) (by decide +kernel)) rfl
theorem wm_X8_172 : Cond.methodLink RX8 172 yX7_addCrow ∈ TT := TT_of (List.mem_of_getElem? (i := 412) (by decide +kernel)) rfl
theorem wm_L_38 : Cond.methodLink RL 38 yX8_shoo ∈ TT := TT_of (List.mem_of_getElem? (i := 416) (by decide +kernel)) rfl
theorem wm_L_45 : Cond.methodLink RL 45 yX8_fell ∈ TT := TT_of (List.mem_of_getElem? (i := 420) (by decide +kernel)) rfl
theorem wm_L_80 : Cond.methodLink RL 80 yX8_out ∈ TT := TT_of (List.mem_of_getElem? (i := 424) (by decide +kernel)) rfl
theorem wm_X8_176 : Cond.methodLink RX8 176 yX8_passAsTold ∈ TT := TT_of (List.mem_of_getElem? (i := 428) (by decide +kernel)) rfl
theorem wm_X8_195 : Cond.methodLink RX8 195 yX4_prepare ∈ TT := TT_of (List.mem_of_getElem? (i := 432) (by decide +kernel)) rfl
theorem wm_X4_47 : Cond.methodLink RX4 47 arraycopyName ∈ TT := TT_of (List.mem_of_getElem? (i := 436) (by decide +kernel)) rfl
theorem wm_X4_54 : Cond.methodLink RX4 54 yJ7_fill_53178 ∈ TT := TT_of (List.mem_of_getElem? (i := 437) (by decide +kernel)) rfl
theorem wm_X8_227 : Cond.methodLink RX8 227 yX4_pass ∈ TT := TT_of (List.mem_of_getElem? (i := 438) (by decide +kernel)) rfl
theorem wm_X4_77 : Cond.methodLink RX4 77 yX4_begin ∈ TT := TT_of (List.mem_of_getElem? (i := 442) (by decide +kernel)) rfl
theorem wm_X4_91 : Cond.methodLink RX4 91 yX1_allPrisoners ∈ TT := TT_of (List.mem_of_getElem? (i := 446) (by decide +kernel)) rfl
theorem wm_X4_80 : Cond.methodLink RX4 80 yX4_passDay ∈ TT := TT_of (List.mem_of_getElem? (i := 450) (by decide +kernel)) rfl
theorem wm_X4_95 : Cond.methodLink RX4 95 yX4_giveWater ∈ TT := TT_of (List.mem_of_getElem? (i := 455) (by decide +kernel)) rfl
theorem wm_X4_114 : Cond.methodLink RX4 114 yX1_hasTree ∈ TT := TT_of (List.mem_of_getElem? (i := 459) (by decide +kernel)) rfl
theorem wm_X4_99 : Cond.methodLink RX4 99 yX4_sendCrows ∈ TT := TT_of (List.mem_of_getElem? (i := 460) (by decide +kernel)) rfl
theorem wm_X4_117 : Cond.methodLink RX4 117 yX4_isRipe ∈ TT := TT_of (List.mem_of_getElem? (i := 464) (by decide +kernel)) rfl
theorem wm_X4_102 : Cond.methodLink RX4 102 yX4_turnKeys ∈ TT := TT_of (List.mem_of_getElem? (i := 468) (by decide +kernel)) rfl
theorem wm_X4_126 : Cond.methodLink RX4 126 yX4_leastOf ∈ TT := TT_of (List.mem_of_getElem? (i := 472) (by decide +kernel)) rfl
theorem wm_X4_130 : Cond.methodLink RX4 130 yX4_letOut ∈ TT := TT_of (List.mem_of_getElem? (i := 476) (by decide +kernel)) rfl
theorem wm_X4_108 : Cond.methodLink RX4 108 yX4_endTerms ∈ TT := TT_of (List.mem_of_getElem? (i := 480) (by decide +kernel)) rfl
theorem wm_L_83 : Cond.methodLink RL 83 yX8_by ∈ TT := TT_of (List.mem_of_getElem? (i := 484) (by decide +kernel)) rfl
theorem wm_L_74 : Cond.methodLink RL 74 yX8_free ∈ TT := TT_of (List.mem_of_getElem? (i := 488) (by decide +kernel)) rfl
theorem wm_X8_186 : Cond.methodLink RX8 186 yX1_allPrisoners ∈ TT := TT_of (List.mem_of_getElem? (i := 492) (by decide +kernel)) rfl
theorem wm_L_77 : Cond.methodLink RL 77 yX8_has ∈ TT := TT_of (List.mem_of_getElem? (i := 493) (by decide +kernel)) rfl
theorem wm_L_89 : Cond.methodLink RL 89 yX8_worth ∈ TT := TT_of (List.mem_of_getElem? (i := 497) (by decide +kernel)) rfl
theorem wm_X8_224 : Cond.methodLink RX8 224 yX4_sumOfOutDays ∈ TT := TT_of (List.mem_of_getElem? (i := 501) (by decide +kernel)) rfl
theorem wm_L_9 : Cond.methodLink RL 9 yL_cell ∈ TT := TT_of (List.mem_of_getElem? (i := 505) (by decide +kernel)) rfl
theorem wc_L_7 : Cond.constant RL 7 (747796405) ∈ TT := TT_of (List.mem_of_getElem? (i := 508) (by decide +kernel)) rfl
theorem wm_L_56 : Cond.methodLink RL 56 yL_put ∈ TT := TT_of (List.mem_of_getElem? (i := 509) (by decide +kernel)) rfl
theorem wm_L_15 : Cond.methodLink RL 15 yL_some ∈ TT := TT_of (List.mem_of_getElem? (i := 512) (by decide +kernel)) rfl
theorem wc_L_8 : Cond.constant RL 8 (2147483647) ∈ TT := TT_of (List.mem_of_getElem? (i := 515) (by decide +kernel)) rfl
theorem wm_L_19 : Cond.methodLink RL 19 yX8_sheet ∈ TT := TT_of (List.mem_of_getElem? (i := 516) (by decide +kernel)) rfl
theorem wm_X8_249 : Cond.methodLink RX8 249 yX5_renew ∈ TT := TT_of (List.mem_of_getElem? (i := 520) (by decide +kernel)) rfl
theorem wm_X5_26 : Cond.methodLink RX5 26 yJ7_fill_53178 ∈ TT := TT_of (List.mem_of_getElem? (i := 524) (by decide +kernel)) rfl
theorem wm_L_25 : Cond.methodLink RL 25 yX8_put ∈ TT := TT_of (List.mem_of_getElem? (i := 525) (by decide +kernel)) rfl
theorem wm_X8_255 : Cond.methodLink RX8 255 yX5_cutToLane ∈ TT := TT_of (List.mem_of_getElem? (i := 529) (by decide +kernel)) rfl
theorem wm_L_63 : Cond.methodLink RL 63 yL_change ∈ TT := TT_of (List.mem_of_getElem? (i := 533) (by decide +kernel)) rfl
theorem wm_L_48 : Cond.methodLink RL 48 yL_wants ∈ TT := TT_of (List.mem_of_getElem? (i := 536) (by decide +kernel)) rfl
theorem wm_L_51 : Cond.methodLink RL 51 yL_opens ∈ TT := TT_of (List.mem_of_getElem? (i := 539) (by decide +kernel)) rfl
theorem wm_L_70 : Cond.methodLink RL 70 yL_go ∈ TT := TT_of (List.mem_of_getElem? (i := 542) (by decide +kernel)) rfl
theorem wn_copyI : Cond.initialized "java/lang/System" ∈ TT := TT_of (List.mem_of_getElem? (i := 27) (by decide +kernel)) rfl
theorem cw_X1_plant : Cw yX1_plant cX1_plant 4 (Option.none : Option FieldType) 1 := ⟨TT_of (List.mem_of_getElem? (i := 22) (by decide +kernel)) rfl, TT_of (List.mem_of_getElem? (i := 340) (by decide +kernel)) rfl, ⟨by decide +kernel, by decide +kernel⟩, by decide +kernel⟩
theorem cv_X1_plant : CwV yX1_plant := ⟨TT_of (List.mem_of_getElem? (i := 338) (by decide +kernel)) rfl, TT_of (List.mem_of_getElem? (i := 339) (by decide +kernel)) rfl⟩
theorem cw_X1_waterWantedBy : Cw yX1_waterWantedBy cX1_waterWantedBy 3 (Option.some FieldType.int) 1 := ⟨TT_of (List.mem_of_getElem? (i := 22) (by decide +kernel)) rfl, TT_of (List.mem_of_getElem? (i := 346) (by decide +kernel)) rfl, ⟨by decide +kernel, by decide +kernel⟩, by decide +kernel⟩
theorem cv_X1_waterWantedBy : CwV yX1_waterWantedBy := ⟨TT_of (List.mem_of_getElem? (i := 345) (by decide +kernel)) rfl, TT_of (List.mem_of_getElem? (i := 4) (by decide +kernel)) rfl⟩
theorem cw_X1_locksOpenedBy : Cw yX1_locksOpenedBy cX1_locksOpenedBy 3 (Option.some FieldType.int) 1 := ⟨TT_of (List.mem_of_getElem? (i := 22) (by decide +kernel)) rfl, TT_of (List.mem_of_getElem? (i := 364) (by decide +kernel)) rfl, ⟨by decide +kernel, by decide +kernel⟩, by decide +kernel⟩
theorem cv_X1_locksOpenedBy : CwV yX1_locksOpenedBy := ⟨TT_of (List.mem_of_getElem? (i := 362) (by decide +kernel)) rfl, TT_of (List.mem_of_getElem? (i := 363) (by decide +kernel)) rfl⟩
theorem cw_X1_prisonersFitting : Cw yX1_prisonersFitting cX1_prisonersFitting 5 (Option.some FieldType.int) 1 := ⟨TT_of (List.mem_of_getElem? (i := 22) (by decide +kernel)) rfl, TT_of (List.mem_of_getElem? (i := 360) (by decide +kernel)) rfl, ⟨by decide +kernel, by decide +kernel⟩, by decide +kernel⟩
theorem cv_X1_prisonersFitting : CwV yX1_prisonersFitting := ⟨TT_of (List.mem_of_getElem? (i := 359) (by decide +kernel)) rfl, TT_of (List.mem_of_getElem? (i := 5) (by decide +kernel)) rfl⟩
theorem cw_X1_isPlanted : Cw yX1_isPlanted cX1_isPlanted 1 (Option.some FieldType.boolean) 0 := ⟨TT_of (List.mem_of_getElem? (i := 22) (by decide +kernel)) rfl, TT_of (List.mem_of_getElem? (i := 399) (by decide +kernel)) rfl, ⟨by decide +kernel, by decide +kernel⟩, by decide +kernel⟩
theorem cv_X1_isPlanted : CwV yX1_isPlanted := ⟨TT_of (List.mem_of_getElem? (i := 397) (by decide +kernel)) rfl, TT_of (List.mem_of_getElem? (i := 398) (by decide +kernel)) rfl⟩
theorem cw_X1_hasTree : Cw yX1_hasTree cX1_hasTree 2 (Option.some FieldType.boolean) 1 := ⟨TT_of (List.mem_of_getElem? (i := 22) (by decide +kernel)) rfl, TT_of (List.mem_of_getElem? (i := 380) (by decide +kernel)) rfl, ⟨by decide +kernel, by decide +kernel⟩, by decide +kernel⟩
theorem cv_X1_hasTree : CwV yX1_hasTree := ⟨TT_of (List.mem_of_getElem? (i := 378) (by decide +kernel)) rfl, TT_of (List.mem_of_getElem? (i := 379) (by decide +kernel)) rfl⟩
theorem cw_X1_hasPrisoner : Cw yX1_hasPrisoner cX1_hasPrisoner 2 (Option.some FieldType.boolean) 1 := ⟨TT_of (List.mem_of_getElem? (i := 22) (by decide +kernel)) rfl, TT_of (List.mem_of_getElem? (i := 390) (by decide +kernel)) rfl, ⟨by decide +kernel, by decide +kernel⟩, by decide +kernel⟩
theorem cv_X1_hasPrisoner : CwV yX1_hasPrisoner := ⟨TT_of (List.mem_of_getElem? (i := 388) (by decide +kernel)) rfl, TT_of (List.mem_of_getElem? (i := 389) (by decide +kernel)) rfl⟩
theorem cw_X1_allPrisoners : Cw yX1_allPrisoners cX1_allPrisoners 1 (Option.some FieldType.int) 0 := ⟨TT_of (List.mem_of_getElem? (i := 22) (by decide +kernel)) rfl, TT_of (List.mem_of_getElem? (i := 449) (by decide +kernel)) rfl, ⟨by decide +kernel, by decide +kernel⟩, by decide +kernel⟩
theorem cv_X1_allPrisoners : CwV yX1_allPrisoners := ⟨TT_of (List.mem_of_getElem? (i := 447) (by decide +kernel)) rfl, TT_of (List.mem_of_getElem? (i := 448) (by decide +kernel)) rfl⟩
theorem cw_X4_prepare : Cw yX4_prepare cX4_prepare 3 (Option.none : Option FieldType) 1 := ⟨TT_of (List.mem_of_getElem? (i := 23) (by decide +kernel)) rfl, TT_of (List.mem_of_getElem? (i := 435) (by decide +kernel)) rfl, ⟨by decide +kernel, by decide +kernel⟩, by decide +kernel⟩
theorem cv_X4_prepare : CwV yX4_prepare := ⟨TT_of (List.mem_of_getElem? (i := 433) (by decide +kernel)) rfl, TT_of (List.mem_of_getElem? (i := 434) (by decide +kernel)) rfl⟩
theorem cw_X4_pass : Cw yX4_pass cX4_pass 3 (Option.none : Option FieldType) 1 := ⟨TT_of (List.mem_of_getElem? (i := 23) (by decide +kernel)) rfl, TT_of (List.mem_of_getElem? (i := 441) (by decide +kernel)) rfl, ⟨by decide +kernel, by decide +kernel⟩, by decide +kernel⟩
theorem cv_X4_pass : CwV yX4_pass := ⟨TT_of (List.mem_of_getElem? (i := 439) (by decide +kernel)) rfl, TT_of (List.mem_of_getElem? (i := 440) (by decide +kernel)) rfl⟩
theorem cw_X4_sumOfOutDays : Cw yX4_sumOfOutDays cX4_sumOfOutDays 3 (Option.some FieldType.int) 0 := ⟨TT_of (List.mem_of_getElem? (i := 23) (by decide +kernel)) rfl, TT_of (List.mem_of_getElem? (i := 504) (by decide +kernel)) rfl, ⟨by decide +kernel, by decide +kernel⟩, by decide +kernel⟩
theorem cv_X4_sumOfOutDays : CwV yX4_sumOfOutDays := ⟨TT_of (List.mem_of_getElem? (i := 502) (by decide +kernel)) rfl, TT_of (List.mem_of_getElem? (i := 503) (by decide +kernel)) rfl⟩
theorem cw_X4_begin : Cw yX4_begin cX4_begin 1 (Option.none : Option FieldType) 0 := ⟨TT_of (List.mem_of_getElem? (i := 23) (by decide +kernel)) rfl, TT_of (List.mem_of_getElem? (i := 445) (by decide +kernel)) rfl, ⟨by decide +kernel, by decide +kernel⟩, by decide +kernel⟩
theorem cv_X4_begin : CwV yX4_begin := ⟨TT_of (List.mem_of_getElem? (i := 444) (by decide +kernel)) rfl, TT_of (List.mem_of_getElem? (i := 7) (by decide +kernel)) rfl⟩
theorem cw_X4_passDay : Cw yX4_passDay cX4_passDay 4 (Option.none : Option FieldType) 1 := ⟨TT_of (List.mem_of_getElem? (i := 23) (by decide +kernel)) rfl, TT_of (List.mem_of_getElem? (i := 453) (by decide +kernel)) rfl, ⟨by decide +kernel, by decide +kernel⟩, by decide +kernel⟩
theorem cv_X4_passDay : CwV yX4_passDay := ⟨TT_of (List.mem_of_getElem? (i := 452) (by decide +kernel)) rfl, TT_of (List.mem_of_getElem? (i := 8) (by decide +kernel)) rfl⟩
theorem cw_X4_giveWater : Cw yX4_giveWater cX4_giveWater 4 (Option.none : Option FieldType) 2 := ⟨TT_of (List.mem_of_getElem? (i := 23) (by decide +kernel)) rfl, TT_of (List.mem_of_getElem? (i := 458) (by decide +kernel)) rfl, ⟨by decide +kernel, by decide +kernel⟩, by decide +kernel⟩
theorem cv_X4_giveWater : CwV yX4_giveWater := ⟨TT_of (List.mem_of_getElem? (i := 457) (by decide +kernel)) rfl, TT_of (List.mem_of_getElem? (i := 9) (by decide +kernel)) rfl⟩
theorem cw_X4_sendCrows : Cw yX4_sendCrows cX4_sendCrows 3 (Option.none : Option FieldType) 1 := ⟨TT_of (List.mem_of_getElem? (i := 23) (by decide +kernel)) rfl, TT_of (List.mem_of_getElem? (i := 463) (by decide +kernel)) rfl, ⟨by decide +kernel, by decide +kernel⟩, by decide +kernel⟩
theorem cv_X4_sendCrows : CwV yX4_sendCrows := ⟨TT_of (List.mem_of_getElem? (i := 462) (by decide +kernel)) rfl, TT_of (List.mem_of_getElem? (i := 10) (by decide +kernel)) rfl⟩
theorem cw_X4_isRipe : Cw yX4_isRipe cX4_isRipe 2 (Option.some FieldType.boolean) 1 := ⟨TT_of (List.mem_of_getElem? (i := 23) (by decide +kernel)) rfl, TT_of (List.mem_of_getElem? (i := 467) (by decide +kernel)) rfl, ⟨by decide +kernel, by decide +kernel⟩, by decide +kernel⟩
theorem cv_X4_isRipe : CwV yX4_isRipe := ⟨TT_of (List.mem_of_getElem? (i := 466) (by decide +kernel)) rfl, TT_of (List.mem_of_getElem? (i := 11) (by decide +kernel)) rfl⟩
theorem cw_X4_turnKeys : Cw yX4_turnKeys cX4_turnKeys 4 (Option.none : Option FieldType) 1 := ⟨TT_of (List.mem_of_getElem? (i := 23) (by decide +kernel)) rfl, TT_of (List.mem_of_getElem? (i := 471) (by decide +kernel)) rfl, ⟨by decide +kernel, by decide +kernel⟩, by decide +kernel⟩
theorem cv_X4_turnKeys : CwV yX4_turnKeys := ⟨TT_of (List.mem_of_getElem? (i := 470) (by decide +kernel)) rfl, TT_of (List.mem_of_getElem? (i := 12) (by decide +kernel)) rfl⟩
theorem cw_X4_leastOf : Cw yX4_leastOf cX4_leastOf 3 (Option.some FieldType.int) 1 := ⟨TT_of (List.mem_of_getElem? (i := 23) (by decide +kernel)) rfl, TT_of (List.mem_of_getElem? (i := 475) (by decide +kernel)) rfl, ⟨by decide +kernel, by decide +kernel⟩, by decide +kernel⟩
theorem cv_X4_leastOf : CwV yX4_leastOf := ⟨TT_of (List.mem_of_getElem? (i := 474) (by decide +kernel)) rfl, TT_of (List.mem_of_getElem? (i := 13) (by decide +kernel)) rfl⟩
theorem cw_X4_endTerms : Cw yX4_endTerms cX4_endTerms 4 (Option.none : Option FieldType) 2 := ⟨TT_of (List.mem_of_getElem? (i := 23) (by decide +kernel)) rfl, TT_of (List.mem_of_getElem? (i := 483) (by decide +kernel)) rfl, ⟨by decide +kernel, by decide +kernel⟩, by decide +kernel⟩
theorem cv_X4_endTerms : CwV yX4_endTerms := ⟨TT_of (List.mem_of_getElem? (i := 482) (by decide +kernel)) rfl, TT_of (List.mem_of_getElem? (i := 15) (by decide +kernel)) rfl⟩
theorem cw_X4_letOut : Cw yX4_letOut cX4_letOut 4 (Option.none : Option FieldType) 3 := ⟨TT_of (List.mem_of_getElem? (i := 23) (by decide +kernel)) rfl, TT_of (List.mem_of_getElem? (i := 479) (by decide +kernel)) rfl, ⟨by decide +kernel, by decide +kernel⟩, by decide +kernel⟩
theorem cv_X4_letOut : CwV yX4_letOut := ⟨TT_of (List.mem_of_getElem? (i := 478) (by decide +kernel)) rfl, TT_of (List.mem_of_getElem? (i := 14) (by decide +kernel)) rfl⟩
theorem cw_X5_renew : Cw yX5_renew cX5_renew 3 (Option.none : Option FieldType) 2 := ⟨TT_of (List.mem_of_getElem? (i := 25) (by decide +kernel)) rfl, TT_of (List.mem_of_getElem? (i := 523) (by decide +kernel)) rfl, ⟨by decide +kernel, by decide +kernel⟩, by decide +kernel⟩
theorem cv_X5_renew : CwV yX5_renew := ⟨TT_of (List.mem_of_getElem? (i := 521) (by decide +kernel)) rfl, TT_of (List.mem_of_getElem? (i := 522) (by decide +kernel)) rfl⟩
theorem cw_X5_isOfOtherLane : Cw yX5_isOfOtherLane cX5_isOfOtherLane 2 (Option.some FieldType.boolean) 1 := ⟨TT_of (List.mem_of_getElem? (i := 25) (by decide +kernel)) rfl, TT_of (List.mem_of_getElem? (i := 301) (by decide +kernel)) rfl, ⟨by decide +kernel, by decide +kernel⟩, by decide +kernel⟩
theorem cv_X5_isOfOtherLane : CwV yX5_isOfOtherLane := ⟨TT_of (List.mem_of_getElem? (i := 299) (by decide +kernel)) rfl, TT_of (List.mem_of_getElem? (i := 300) (by decide +kernel)) rfl⟩
theorem cw_X5_hasCells : Cw yX5_hasCells cX5_hasCells 3 (Option.some FieldType.boolean) 2 := ⟨TT_of (List.mem_of_getElem? (i := 25) (by decide +kernel)) rfl, TT_of (List.mem_of_getElem? (i := 309) (by decide +kernel)) rfl, ⟨by decide +kernel, by decide +kernel⟩, by decide +kernel⟩
theorem cv_X5_hasCells : CwV yX5_hasCells := ⟨TT_of (List.mem_of_getElem? (i := 307) (by decide +kernel)) rfl, TT_of (List.mem_of_getElem? (i := 308) (by decide +kernel)) rfl⟩
theorem cw_X5_cutToLane : Cw yX5_cutToLane cX5_cutToLane 2 (Option.some FieldType.int) 1 := ⟨TT_of (List.mem_of_getElem? (i := 25) (by decide +kernel)) rfl, TT_of (List.mem_of_getElem? (i := 532) (by decide +kernel)) rfl, ⟨by decide +kernel, by decide +kernel⟩, by decide +kernel⟩
theorem cv_X5_cutToLane : CwV yX5_cutToLane := ⟨TT_of (List.mem_of_getElem? (i := 530) (by decide +kernel)) rfl, TT_of (List.mem_of_getElem? (i := 531) (by decide +kernel)) rfl⟩
theorem cw_X6_take : Cw yX6_take cX6_take 4 (Option.none : Option FieldType) 3 := ⟨TT_of (List.mem_of_getElem? (i := 18) (by decide +kernel)) rfl, TT_of (List.mem_of_getElem? (i := 313) (by decide +kernel)) rfl, ⟨by decide +kernel, by decide +kernel⟩, by decide +kernel⟩
theorem cv_X6_take : CwV yX6_take := ⟨TT_of (List.mem_of_getElem? (i := 311) (by decide +kernel)) rfl, TT_of (List.mem_of_getElem? (i := 312) (by decide +kernel)) rfl⟩
theorem cw_X6_firstFault : Cw yX6_firstFault cX6_firstFault 2 (Option.some FieldType.int) 0 := ⟨TT_of (List.mem_of_getElem? (i := 18) (by decide +kernel)) rfl, TT_of (List.mem_of_getElem? (i := 320) (by decide +kernel)) rfl, ⟨by decide +kernel, by decide +kernel⟩, by decide +kernel⟩
theorem cv_X6_firstFault : CwV yX6_firstFault := ⟨TT_of (List.mem_of_getElem? (i := 318) (by decide +kernel)) rfl, TT_of (List.mem_of_getElem? (i := 319) (by decide +kernel)) rfl⟩
theorem cw_X6_codeAt : Cw yX6_codeAt cX6_codeAt 2 (Option.some FieldType.int) 1 := ⟨TT_of (List.mem_of_getElem? (i := 18) (by decide +kernel)) rfl, TT_of (List.mem_of_getElem? (i := 324) (by decide +kernel)) rfl, ⟨by decide +kernel, by decide +kernel⟩, by decide +kernel⟩
theorem cv_X6_codeAt : CwV yX6_codeAt := ⟨TT_of (List.mem_of_getElem? (i := 323) (by decide +kernel)) rfl, TT_of (List.mem_of_getElem? (i := 2) (by decide +kernel)) rfl⟩
theorem cw_X6_kindAt : Cw yX6_kindAt cX6_kindAt 2 (Option.some FieldType.int) 1 := ⟨TT_of (List.mem_of_getElem? (i := 18) (by decide +kernel)) rfl, TT_of (List.mem_of_getElem? (i := 328) (by decide +kernel)) rfl, ⟨by decide +kernel, by decide +kernel⟩, by decide +kernel⟩
theorem cv_X6_kindAt : CwV yX6_kindAt := ⟨TT_of (List.mem_of_getElem? (i := 326) (by decide +kernel)) rfl, TT_of (List.mem_of_getElem? (i := 327) (by decide +kernel)) rfl⟩
theorem cw_X6_digitAt : Cw yX6_digitAt cX6_digitAt 2 (Option.some FieldType.int) 1 := ⟨TT_of (List.mem_of_getElem? (i := 18) (by decide +kernel)) rfl, TT_of (List.mem_of_getElem? (i := 336) (by decide +kernel)) rfl, ⟨by decide +kernel, by decide +kernel⟩, by decide +kernel⟩
theorem cv_X6_digitAt : CwV yX6_digitAt := ⟨TT_of (List.mem_of_getElem? (i := 334) (by decide +kernel)) rfl, TT_of (List.mem_of_getElem? (i := 335) (by decide +kernel)) rfl⟩
theorem cw_X6_termAt : Cw yX6_termAt cX6_termAt 3 (Option.some FieldType.int) 1 := ⟨TT_of (List.mem_of_getElem? (i := 18) (by decide +kernel)) rfl, TT_of (List.mem_of_getElem? (i := 353) (by decide +kernel)) rfl, ⟨by decide +kernel, by decide +kernel⟩, by decide +kernel⟩
theorem cv_X6_termAt : CwV yX6_termAt := ⟨TT_of (List.mem_of_getElem? (i := 351) (by decide +kernel)) rfl, TT_of (List.mem_of_getElem? (i := 352) (by decide +kernel)) rfl⟩
theorem cw_X6_isDigit : Cw yX6_isDigit cX6_isDigit 4 (Option.some FieldType.boolean) 3 := ⟨TT_of (List.mem_of_getElem? (i := 18) (by decide +kernel)) rfl, TT_of (List.mem_of_getElem? (i := 332) (by decide +kernel)) rfl, ⟨by decide +kernel, by decide +kernel⟩, by decide +kernel⟩
theorem cv_X6_isDigit : CwV yX6_isDigit := ⟨TT_of (List.mem_of_getElem? (i := 331) (by decide +kernel)) rfl, TT_of (List.mem_of_getElem? (i := 3) (by decide +kernel)) rfl⟩
theorem cw_X7_clear : Cw yX7_clear cX7_clear 1 (Option.none : Option FieldType) 0 := ⟨TT_of (List.mem_of_getElem? (i := 19) (by decide +kernel)) rfl, TT_of (List.mem_of_getElem? (i := 371) (by decide +kernel)) rfl, ⟨by decide +kernel, by decide +kernel⟩, by decide +kernel⟩
theorem cv_X7_clear : CwV yX7_clear := ⟨TT_of (List.mem_of_getElem? (i := 369) (by decide +kernel)) rfl, TT_of (List.mem_of_getElem? (i := 370) (by decide +kernel)) rfl⟩
theorem cw_X7_addCrow : Cw yX7_addCrow cX7_addCrow 3 (Option.some FieldType.int) 2 := ⟨TT_of (List.mem_of_getElem? (i := 19) (by decide +kernel)) rfl, TT_of (List.mem_of_getElem? (i := 415) (by decide +kernel)) rfl, ⟨by decide +kernel, by decide +kernel⟩, by decide +kernel⟩
theorem cv_X7_addCrow : CwV yX7_addCrow := ⟨TT_of (List.mem_of_getElem? (i := 413) (by decide +kernel)) rfl, TT_of (List.mem_of_getElem? (i := 414) (by decide +kernel)) rfl⟩
theorem cw_X8_orchard : Cw yX8_orchard cX8_orchard 7 (Option.some FieldType.int) 4 := ⟨TT_of (List.mem_of_getElem? (i := 17) (by decide +kernel)) rfl, TT_of (List.mem_of_getElem? (i := 290) (by decide +kernel)) rfl, ⟨by decide +kernel, by decide +kernel⟩, by decide +kernel⟩
theorem cv_X8_orchard : CwV yX8_orchard := ⟨TT_of (List.mem_of_getElem? (i := 288) (by decide +kernel)) rfl, TT_of (List.mem_of_getElem? (i := 289) (by decide +kernel)) rfl⟩
theorem cw_X8_ofTree : Cw yX8_ofTree cX8_ofTree 3 (Option.some FieldType.int) 2 := ⟨TT_of (List.mem_of_getElem? (i := 17) (by decide +kernel)) rfl, TT_of (List.mem_of_getElem? (i := 376) (by decide +kernel)) rfl, ⟨by decide +kernel, by decide +kernel⟩, by decide +kernel⟩
theorem cv_X8_ofTree : CwV yX8_ofTree := ⟨TT_of (List.mem_of_getElem? (i := 374) (by decide +kernel)) rfl, TT_of (List.mem_of_getElem? (i := 375) (by decide +kernel)) rfl⟩
theorem cw_X8_ofPrisoner : Cw yX8_ofPrisoner cX8_ofPrisoner 3 (Option.some FieldType.int) 2 := ⟨TT_of (List.mem_of_getElem? (i := 17) (by decide +kernel)) rfl, TT_of (List.mem_of_getElem? (i := 386) (by decide +kernel)) rfl, ⟨by decide +kernel, by decide +kernel⟩, by decide +kernel⟩
theorem cv_X8_ofPrisoner : CwV yX8_ofPrisoner := ⟨TT_of (List.mem_of_getElem? (i := 384) (by decide +kernel)) rfl, TT_of (List.mem_of_getElem? (i := 385) (by decide +kernel)) rfl⟩
theorem cw_X8_rain : Cw yX8_rain cX8_rain 4 (Option.some FieldType.int) 2 := ⟨TT_of (List.mem_of_getElem? (i := 17) (by decide +kernel)) rfl, TT_of (List.mem_of_getElem? (i := 394) (by decide +kernel)) rfl, ⟨by decide +kernel, by decide +kernel⟩, by decide +kernel⟩
theorem cv_X8_rain : CwV yX8_rain := ⟨TT_of (List.mem_of_getElem? (i := 392) (by decide +kernel)) rfl, TT_of (List.mem_of_getElem? (i := 393) (by decide +kernel)) rfl⟩
theorem cw_X8_water : Cw yX8_water cX8_water 4 (Option.some FieldType.int) 2 := ⟨TT_of (List.mem_of_getElem? (i := 17) (by decide +kernel)) rfl, TT_of (List.mem_of_getElem? (i := 403) (by decide +kernel)) rfl, ⟨by decide +kernel, by decide +kernel⟩, by decide +kernel⟩
theorem cv_X8_water : CwV yX8_water := ⟨TT_of (List.mem_of_getElem? (i := 401) (by decide +kernel)) rfl, TT_of (List.mem_of_getElem? (i := 402) (by decide +kernel)) rfl⟩
theorem cw_X8_frost : Cw yX8_frost cX8_frost 3 (Option.some FieldType.int) 2 := ⟨TT_of (List.mem_of_getElem? (i := 17) (by decide +kernel)) rfl, TT_of (List.mem_of_getElem? (i := 407) (by decide +kernel)) rfl, ⟨by decide +kernel, by decide +kernel⟩, by decide +kernel⟩
theorem cv_X8_frost : CwV yX8_frost := ⟨TT_of (List.mem_of_getElem? (i := 405) (by decide +kernel)) rfl, TT_of (List.mem_of_getElem? (i := 406) (by decide +kernel)) rfl⟩
theorem cw_X8_crow : Cw yX8_crow cX8_crow 3 (Option.some FieldType.int) 2 := ⟨TT_of (List.mem_of_getElem? (i := 17) (by decide +kernel)) rfl, TT_of (List.mem_of_getElem? (i := 411) (by decide +kernel)) rfl, ⟨by decide +kernel, by decide +kernel⟩, by decide +kernel⟩
theorem cv_X8_crow : CwV yX8_crow := ⟨TT_of (List.mem_of_getElem? (i := 409) (by decide +kernel)) rfl, TT_of (List.mem_of_getElem? (i := 410) (by decide +kernel)) rfl⟩
theorem cw_X8_shoo : Cw yX8_shoo cX8_shoo 2 (Option.some FieldType.int) 1 := ⟨TT_of (List.mem_of_getElem? (i := 17) (by decide +kernel)) rfl, TT_of (List.mem_of_getElem? (i := 419) (by decide +kernel)) rfl, ⟨by decide +kernel, by decide +kernel⟩, by decide +kernel⟩
theorem cv_X8_shoo : CwV yX8_shoo := ⟨TT_of (List.mem_of_getElem? (i := 417) (by decide +kernel)) rfl, TT_of (List.mem_of_getElem? (i := 418) (by decide +kernel)) rfl⟩
theorem cw_X8_fell : Cw yX8_fell cX8_fell 3 (Option.some FieldType.int) 2 := ⟨TT_of (List.mem_of_getElem? (i := 17) (by decide +kernel)) rfl, TT_of (List.mem_of_getElem? (i := 423) (by decide +kernel)) rfl, ⟨by decide +kernel, by decide +kernel⟩, by decide +kernel⟩
theorem cv_X8_fell : CwV yX8_fell := ⟨TT_of (List.mem_of_getElem? (i := 421) (by decide +kernel)) rfl, TT_of (List.mem_of_getElem? (i := 422) (by decide +kernel)) rfl⟩
theorem cw_X8_out : Cw yX8_out cX8_out 2 (Option.some FieldType.int) 1 := ⟨TT_of (List.mem_of_getElem? (i := 17) (by decide +kernel)) rfl, TT_of (List.mem_of_getElem? (i := 427) (by decide +kernel)) rfl, ⟨by decide +kernel, by decide +kernel⟩, by decide +kernel⟩
theorem cv_X8_out : CwV yX8_out := ⟨TT_of (List.mem_of_getElem? (i := 425) (by decide +kernel)) rfl, TT_of (List.mem_of_getElem? (i := 426) (by decide +kernel)) rfl⟩
theorem cw_X8_by : Cw yX8_by cX8_by 2 (Option.some FieldType.int) 1 := ⟨TT_of (List.mem_of_getElem? (i := 17) (by decide +kernel)) rfl, TT_of (List.mem_of_getElem? (i := 487) (by decide +kernel)) rfl, ⟨by decide +kernel, by decide +kernel⟩, by decide +kernel⟩
theorem cv_X8_by : CwV yX8_by := ⟨TT_of (List.mem_of_getElem? (i := 485) (by decide +kernel)) rfl, TT_of (List.mem_of_getElem? (i := 486) (by decide +kernel)) rfl⟩
theorem cw_X8_free : Cw yX8_free cX8_free 2 (Option.some FieldType.int) 1 := ⟨TT_of (List.mem_of_getElem? (i := 17) (by decide +kernel)) rfl, TT_of (List.mem_of_getElem? (i := 491) (by decide +kernel)) rfl, ⟨by decide +kernel, by decide +kernel⟩, by decide +kernel⟩
theorem cv_X8_free : CwV yX8_free := ⟨TT_of (List.mem_of_getElem? (i := 489) (by decide +kernel)) rfl, TT_of (List.mem_of_getElem? (i := 490) (by decide +kernel)) rfl⟩
theorem cw_X8_has : Cw yX8_has cX8_has 3 (Option.some FieldType.int) 2 := ⟨TT_of (List.mem_of_getElem? (i := 17) (by decide +kernel)) rfl, TT_of (List.mem_of_getElem? (i := 496) (by decide +kernel)) rfl, ⟨by decide +kernel, by decide +kernel⟩, by decide +kernel⟩
theorem cv_X8_has : CwV yX8_has := ⟨TT_of (List.mem_of_getElem? (i := 494) (by decide +kernel)) rfl, TT_of (List.mem_of_getElem? (i := 495) (by decide +kernel)) rfl⟩
theorem cw_X8_worth : Cw yX8_worth cX8_worth 3 (Option.some FieldType.int) 1 := ⟨TT_of (List.mem_of_getElem? (i := 17) (by decide +kernel)) rfl, TT_of (List.mem_of_getElem? (i := 500) (by decide +kernel)) rfl, ⟨by decide +kernel, by decide +kernel⟩, by decide +kernel⟩
theorem cv_X8_worth : CwV yX8_worth := ⟨TT_of (List.mem_of_getElem? (i := 498) (by decide +kernel)) rfl, TT_of (List.mem_of_getElem? (i := 499) (by decide +kernel)) rfl⟩
theorem cw_X8_sheet : Cw yX8_sheet cX8_sheet 5 (Option.some FieldType.int) 3 := ⟨TT_of (List.mem_of_getElem? (i := 17) (by decide +kernel)) rfl, TT_of (List.mem_of_getElem? (i := 519) (by decide +kernel)) rfl, ⟨by decide +kernel, by decide +kernel⟩, by decide +kernel⟩
theorem cv_X8_sheet : CwV yX8_sheet := ⟨TT_of (List.mem_of_getElem? (i := 517) (by decide +kernel)) rfl, TT_of (List.mem_of_getElem? (i := 518) (by decide +kernel)) rfl⟩
theorem cw_X8_put : Cw yX8_put cX8_put 5 (Option.some FieldType.int) 3 := ⟨TT_of (List.mem_of_getElem? (i := 17) (by decide +kernel)) rfl, TT_of (List.mem_of_getElem? (i := 528) (by decide +kernel)) rfl, ⟨by decide +kernel, by decide +kernel⟩, by decide +kernel⟩
theorem cv_X8_put : CwV yX8_put := ⟨TT_of (List.mem_of_getElem? (i := 526) (by decide +kernel)) rfl, TT_of (List.mem_of_getElem? (i := 527) (by decide +kernel)) rfl⟩
theorem cw_X8_sheetOf : Cw yX8_sheetOf cX8_sheetOf 2 (Option.some (FieldType.object "KeyOrchard$Sheet")) 1 := ⟨TT_of (List.mem_of_getElem? (i := 17) (by decide +kernel)) rfl, TT_of (List.mem_of_getElem? (i := 294) (by decide +kernel)) rfl, ⟨by decide +kernel, by decide +kernel⟩, by decide +kernel⟩
theorem cv_X8_sheetOf : CwV yX8_sheetOf := ⟨TT_of (List.mem_of_getElem? (i := 293) (by decide +kernel)) rfl, TT_of (List.mem_of_getElem? (i := 0) (by decide +kernel)) rfl⟩
theorem cw_X8_faulted : Cw yX8_faulted cX8_faulted 2 (Option.some FieldType.int) 1 := ⟨TT_of (List.mem_of_getElem? (i := 17) (by decide +kernel)) rfl, TT_of (List.mem_of_getElem? (i := 305) (by decide +kernel)) rfl, ⟨by decide +kernel, by decide +kernel⟩, by decide +kernel⟩
theorem cv_X8_faulted : CwV yX8_faulted := ⟨TT_of (List.mem_of_getElem? (i := 304) (by decide +kernel)) rfl, TT_of (List.mem_of_getElem? (i := 1) (by decide +kernel)) rfl⟩
theorem cw_X8_passAsTold : Cw yX8_passAsTold cX8_passAsTold 2 (Option.none : Option FieldType) 1 := ⟨TT_of (List.mem_of_getElem? (i := 17) (by decide +kernel)) rfl, TT_of (List.mem_of_getElem? (i := 431) (by decide +kernel)) rfl, ⟨by decide +kernel, by decide +kernel⟩, by decide +kernel⟩
theorem cv_X8_passAsTold : CwV yX8_passAsTold := ⟨TT_of (List.mem_of_getElem? (i := 430) (by decide +kernel)) rfl, TT_of (List.mem_of_getElem? (i := 6) (by decide +kernel)) rfl⟩
theorem cw_X8_isDay : Cw yX8_isDay cX8_isDay 1 (Option.some FieldType.boolean) 1 := ⟨TT_of (List.mem_of_getElem? (i := 17) (by decide +kernel)) rfl, TT_of (List.mem_of_getElem? (i := 356) (by decide +kernel)) rfl, ⟨by decide +kernel, by decide +kernel⟩, by decide +kernel⟩
theorem cs_X8_isDay : Cond.static yX8_isDay ∈ TT := TT_of (List.mem_of_getElem? (i := 355) (by decide +kernel)) rfl
theorem cw_X8_isLane : Cw yX8_isLane cX8_isLane 1 (Option.some FieldType.boolean) 1 := ⟨TT_of (List.mem_of_getElem? (i := 17) (by decide +kernel)) rfl, TT_of (List.mem_of_getElem? (i := 297) (by decide +kernel)) rfl, ⟨by decide +kernel, by decide +kernel⟩, by decide +kernel⟩
theorem cs_X8_isLane : Cond.static yX8_isLane ∈ TT := TT_of (List.mem_of_getElem? (i := 296) (by decide +kernel)) rfl
theorem cw_X8_isIn : Cw yX8_isIn cX8_isIn 2 (Option.some FieldType.boolean) 2 := ⟨TT_of (List.mem_of_getElem? (i := 17) (by decide +kernel)) rfl, TT_of (List.mem_of_getElem? (i := 367) (by decide +kernel)) rfl, ⟨by decide +kernel, by decide +kernel⟩, by decide +kernel⟩
theorem cs_X8_isIn : Cond.static yX8_isIn ∈ TT := TT_of (List.mem_of_getElem? (i := 366) (by decide +kernel)) rfl
theorem cw_J7_fill_53178 : Cw yJ7_fill_53178 cJ7_fill_53178 4 (Option.none : Option FieldType) 2 := ⟨TT_of (List.mem_of_getElem? (i := 26) (by decide +kernel)) rfl, TT_of (List.mem_of_getElem? (i := 349) (by decide +kernel)) rfl, ⟨by decide +kernel, by decide +kernel⟩, by decide +kernel⟩
theorem cs_J7_fill_53178 : Cond.static yJ7_fill_53178 ∈ TT := TT_of (List.mem_of_getElem? (i := 348) (by decide +kernel)) rfl
theorem cw_L_cell : Cw yL_cell cL_cell 2 (Option.some FieldType.int) 2 := ⟨TT_of (List.mem_of_getElem? (i := 16) (by decide +kernel)) rfl, TT_of (List.mem_of_getElem? (i := 507) (by decide +kernel)) rfl, ⟨by decide +kernel, by decide +kernel⟩, by decide +kernel⟩
theorem cs_L_cell : Cond.static yL_cell ∈ TT := TT_of (List.mem_of_getElem? (i := 506) (by decide +kernel)) rfl
theorem cw_L_some : Cw yL_some cL_some 2 (Option.some FieldType.int) 2 := ⟨TT_of (List.mem_of_getElem? (i := 16) (by decide +kernel)) rfl, TT_of (List.mem_of_getElem? (i := 514) (by decide +kernel)) rfl, ⟨by decide +kernel, by decide +kernel⟩, by decide +kernel⟩
theorem cs_L_some : Cond.static yL_some ∈ TT := TT_of (List.mem_of_getElem? (i := 513) (by decide +kernel)) rfl
theorem cw_L_put : Cw yL_put cL_put 12 (Option.some FieldType.int) 8 := ⟨TT_of (List.mem_of_getElem? (i := 16) (by decide +kernel)) rfl, TT_of (List.mem_of_getElem? (i := 511) (by decide +kernel)) rfl, ⟨by decide +kernel, by decide +kernel⟩, by decide +kernel⟩
theorem cs_L_put : Cond.static yL_put ∈ TT := TT_of (List.mem_of_getElem? (i := 510) (by decide +kernel)) rfl
theorem cw_L_change : Cw yL_change cL_change 11 (Option.some FieldType.boolean) 7 := ⟨TT_of (List.mem_of_getElem? (i := 16) (by decide +kernel)) rfl, TT_of (List.mem_of_getElem? (i := 535) (by decide +kernel)) rfl, ⟨by decide +kernel, by decide +kernel⟩, by decide +kernel⟩
theorem cs_L_change : Cond.static yL_change ∈ TT := TT_of (List.mem_of_getElem? (i := 534) (by decide +kernel)) rfl
theorem cw_L_wants : Cw yL_wants cL_wants 3 (Option.some FieldType.int) 2 := ⟨TT_of (List.mem_of_getElem? (i := 16) (by decide +kernel)) rfl, TT_of (List.mem_of_getElem? (i := 538) (by decide +kernel)) rfl, ⟨by decide +kernel, by decide +kernel⟩, by decide +kernel⟩
theorem cs_L_wants : Cond.static yL_wants ∈ TT := TT_of (List.mem_of_getElem? (i := 537) (by decide +kernel)) rfl
theorem cw_L_opens : Cw yL_opens cL_opens 3 (Option.some FieldType.boolean) 3 := ⟨TT_of (List.mem_of_getElem? (i := 16) (by decide +kernel)) rfl, TT_of (List.mem_of_getElem? (i := 541) (by decide +kernel)) rfl, ⟨by decide +kernel, by decide +kernel⟩, by decide +kernel⟩
theorem cs_L_opens : Cond.static yL_opens ∈ TT := TT_of (List.mem_of_getElem? (i := 540) (by decide +kernel)) rfl
theorem cw_L_go : Cw yL_go cL_go 9 (Option.none : Option FieldType) 6 := ⟨TT_of (List.mem_of_getElem? (i := 16) (by decide +kernel)) rfl, TT_of (List.mem_of_getElem? (i := 544) (by decide +kernel)) rfl, ⟨by decide +kernel, by decide +kernel⟩, by decide +kernel⟩
theorem cs_L_go : Cond.static yL_go ∈ TT := TT_of (List.mem_of_getElem? (i := 543) (by decide +kernel)) rfl
theorem ob_X8 {X : CT} {σ : ST} : ∃ (ci : Nat) (fs : List Value) (z : vw_C), cellF (xD X) (xad X) 0 (σ 0) = .inr (ci, fs) ∧ vwCl[ci]? = some z ∧ z.1 = RX8 := ⟨_, _, _, rfl, rfl, rfl⟩
theorem ob_X6 {X : CT} {σ : ST} : ∃ (ci : Nat) (fs : List Value) (z : vw_C), cellF (xD X) (xad X) 10 (σ 10) = .inr (ci, fs) ∧ vwCl[ci]? = some z ∧ z.1 = RX6 := ⟨_, _, _, rfl, rfl, rfl⟩
theorem ob_X1 {X : CT} {σ : ST} : ∃ (ci : Nat) (fs : List Value) (z : vw_C), cellF (xD X) (xad X) 12 (σ 12) = .inr (ci, fs) ∧ vwCl[ci]? = some z ∧ z.1 = RX1 := ⟨_, _, _, rfl, rfl, rfl⟩
theorem ob_X7 {X : CT} {σ : ST} : ∃ (ci : Nat) (fs : List Value) (z : vw_C), cellF (xD X) (xad X) 21 (σ 21) = .inr (ci, fs) ∧ vwCl[ci]? = some z ∧ z.1 = RX7 := ⟨_, _, _, rfl, rfl, rfl⟩
theorem ob_X2 {X : CT} {σ : ST} : ∃ (ci : Nat) (fs : List Value) (z : vw_C), cellF (xD X) (xad X) 26 (σ 26) = .inr (ci, fs) ∧ vwCl[ci]? = some z ∧ z.1 = RX2 := ⟨_, _, _, rfl, rfl, rfl⟩
theorem ob_X4 {X : CT} {σ : ST} : ∃ (ci : Nat) (fs : List Value) (z : vw_C), cellF (xD X) (xad X) 30 (σ 30) = .inr (ci, fs) ∧ vwCl[ci]? = some z ∧ z.1 = RX4 := ⟨_, _, _, rfl, rfl, rfl⟩
theorem ob_X3 {X : CT} {σ : ST} : ∃ (ci : Nat) (fs : List Value) (z : vw_C), cellF (xD X) (xad X) 37 (σ 37) = .inr (ci, fs) ∧ vwCl[ci]? = some z ∧ z.1 = RX3 := ⟨_, _, _, rfl, rfl, rfl⟩
theorem ob_X0 {X : CT} {σ : ST} : ∃ (ci : Nat) (fs : List Value) (z : vw_C), cellF (xD X) (xad X) 39 (σ 39) = .inr (ci, fs) ∧ vwCl[ci]? = some z ∧ z.1 = RX0 := ⟨_, _, _, rfl, rfl, rfl⟩
theorem ob_X5 {X : CT} {σ : ST} {j : Nat} (hj : j < 4) : ∃ (ci : Nat) (fs : List Value) (z : vw_C), cellF (xD X) (xad X) (2 + 2 * j) (σ (2 + 2 * j)) = .inr (ci, fs) ∧ vwCl[ci]? = some z ∧ z.1 = RX5 := ⟨_, _, _, sh_at hj, rfl, rfl⟩
theorem V_cV0r {X : CT} {own : String} {cc : ByteArray} {ret : Option FieldType} {fr lo : Nat} {pc q : Nat} {lv rest : List Value} {σ τ : ST} (C : Cx X own cc ret fr lo) {y : MethodName} {yc : ByteArray} {n idx k fr2 lo2 : Nat} {yret : Option FieldType} {r : Value} (hM : Ct (xl X) y yc n yret fr2 lo2 (xD X) (xad X) (.ref (xad X k) :: []) σ (ex (some r) τ)) (hw : Cw y yc n yret 0) (hv : CwV y) (hlink : Cond.methodLink own idx y ∈ TT) (hk : k < 44) (hobj : ∃ (ci : Nat) (fs : List Value) (z : vw_C), cellF (xD X) (xad X) k (σ k) = .inr (ci, fs) ∧ vwCl[ci]? = some z ∧ z.1 = y.cls) (hroom : fr2 + 1 ≤ fr ∧ 8 + (n + 11) + lo2 ≤ lo) (hcat : (rest.map fun v => v.category).sum ≤ 8) (hq : pc + 3 = q) (hdg : decode cc pc = .ok (.invokevirtual idx, 3)) (kk : V X q lv (r :: rest) τ) : V X pc lv (.ref (xad X k) :: rest) σ := V_callV C (As := []) hM hw hv hlink hk hobj hroom rfl rfl hcat hq hdg (fun v σ2 h => by obtain ⟨rfl, rfl⟩ := h; exact kk)
theorem V_cS0r {X : CT} {own : String} {cc : ByteArray} {ret : Option FieldType} {fr lo : Nat} {pc q : Nat} {lv rest : List Value} {σ τ : ST} (C : Cx X own cc ret fr lo) {y : MethodName} {yc : ByteArray} {n idx fr2 lo2 : Nat} {yret : Option FieldType} {r : Value} (hM : Ct (xl X) y yc n yret fr2 lo2 (xD X) (xad X) [] σ (ex (some r) τ)) (hw : Cw y yc n yret 0) (hv : Cond.static y ∈ TT) (hlink : Cond.methodLink own idx y ∈ TT) (hroom : fr2 + 1 ≤ fr ∧ 8 + (n + 11) + lo2 ≤ lo) (hcat : (rest.map fun v => v.category).sum ≤ 8) (hq : pc + 3 = q) (hdg : decode cc pc = .ok (.invokestatic idx, 3)) (kk : V X q lv (r :: rest) τ) : V X pc lv (rest) σ := V_callS C (As := []) hM hw hv hlink hroom rfl rfl hcat hq hdg (fun v σ2 h => by obtain ⟨rfl, rfl⟩ := h; exact kk)
theorem V_cN0r {X : CT} {own : String} {cc : ByteArray} {ret : Option FieldType} {fr lo : Nat} {pc q : Nat} {lv rest : List Value} {σ τ : ST} (C : Cx X own cc ret fr lo) {y : MethodName} {yc : ByteArray} {n idx fr2 lo2 : Nat} {yret : Option FieldType} {r : Value} (hM : Ct (xl X) y yc n yret fr2 lo2 (xD X) (xad X) [] σ (ex (some r) τ)) (hw : Cw y yc n yret 0) (hv : Cond.static y ∈ TT) {host : String} (hlink : va_Nw (.methodLinkNest own idx y host) (xs X)) (hroom : fr2 + 1 ≤ fr ∧ 8 + (n + 11) + lo2 ≤ lo) (hcat : (rest.map fun v => v.category).sum ≤ 8) (hq : pc + 3 = q) (hdg : decode cc pc = .ok (.invokestatic idx, 3)) (kk : V X q lv (r :: rest) τ) : V X pc lv (rest) σ := V_callN C (As := []) hM hw hv hlink hroom rfl rfl hcat hq hdg (fun v σ2 h => by obtain ⟨rfl, rfl⟩ := h; exact kk)
theorem V_cV0v {X : CT} {own : String} {cc : ByteArray} {ret : Option FieldType} {fr lo : Nat} {pc q : Nat} {lv rest : List Value} {σ τ : ST} (C : Cx X own cc ret fr lo) {y : MethodName} {yc : ByteArray} {n idx k fr2 lo2 : Nat} {yret : Option FieldType} (hM : Ct (xl X) y yc n yret fr2 lo2 (xD X) (xad X) (.ref (xad X k) :: []) σ (ex none τ)) (hw : Cw y yc n yret 0) (hv : CwV y) (hlink : Cond.methodLink own idx y ∈ TT) (hk : k < 44) (hobj : ∃ (ci : Nat) (fs : List Value) (z : vw_C), cellF (xD X) (xad X) k (σ k) = .inr (ci, fs) ∧ vwCl[ci]? = some z ∧ z.1 = y.cls) (hroom : fr2 + 1 ≤ fr ∧ 8 + (n + 11) + lo2 ≤ lo) (hcat : (rest.map fun v => v.category).sum ≤ 8) (hq : pc + 3 = q) (hdg : decode cc pc = .ok (.invokevirtual idx, 3)) (kk : V X q lv (rest) τ) : V X pc lv (.ref (xad X k) :: rest) σ := V_callV C (As := []) hM hw hv hlink hk hobj hroom rfl rfl hcat hq hdg (fun v σ2 h => by obtain ⟨rfl, rfl⟩ := h; exact kk)
theorem V_cS0v {X : CT} {own : String} {cc : ByteArray} {ret : Option FieldType} {fr lo : Nat} {pc q : Nat} {lv rest : List Value} {σ τ : ST} (C : Cx X own cc ret fr lo) {y : MethodName} {yc : ByteArray} {n idx fr2 lo2 : Nat} {yret : Option FieldType} (hM : Ct (xl X) y yc n yret fr2 lo2 (xD X) (xad X) [] σ (ex none τ)) (hw : Cw y yc n yret 0) (hv : Cond.static y ∈ TT) (hlink : Cond.methodLink own idx y ∈ TT) (hroom : fr2 + 1 ≤ fr ∧ 8 + (n + 11) + lo2 ≤ lo) (hcat : (rest.map fun v => v.category).sum ≤ 8) (hq : pc + 3 = q) (hdg : decode cc pc = .ok (.invokestatic idx, 3)) (kk : V X q lv (rest) τ) : V X pc lv (rest) σ := V_callS C (As := []) hM hw hv hlink hroom rfl rfl hcat hq hdg (fun v σ2 h => by obtain ⟨rfl, rfl⟩ := h; exact kk)
theorem V_cN0v {X : CT} {own : String} {cc : ByteArray} {ret : Option FieldType} {fr lo : Nat} {pc q : Nat} {lv rest : List Value} {σ τ : ST} (C : Cx X own cc ret fr lo) {y : MethodName} {yc : ByteArray} {n idx fr2 lo2 : Nat} {yret : Option FieldType} (hM : Ct (xl X) y yc n yret fr2 lo2 (xD X) (xad X) [] σ (ex none τ)) (hw : Cw y yc n yret 0) (hv : Cond.static y ∈ TT) {host : String} (hlink : va_Nw (.methodLinkNest own idx y host) (xs X)) (hroom : fr2 + 1 ≤ fr ∧ 8 + (n + 11) + lo2 ≤ lo) (hcat : (rest.map fun v => v.category).sum ≤ 8) (hq : pc + 3 = q) (hdg : decode cc pc = .ok (.invokestatic idx, 3)) (kk : V X q lv (rest) τ) : V X pc lv (rest) σ := V_callN C (As := []) hM hw hv hlink hroom rfl rfl hcat hq hdg (fun v σ2 h => by obtain ⟨rfl, rfl⟩ := h; exact kk)
theorem V_cV1r {X : CT} {own : String} {cc : ByteArray} {ret : Option FieldType} {fr lo : Nat} {pc q : Nat} {lv rest : List Value} {σ τ : ST} (C : Cx X own cc ret fr lo) {y : MethodName} {yc : ByteArray} {n idx k fr2 lo2 : Nat} {yret : Option FieldType} {a0 : Value} {r : Value} (hM : Ct (xl X) y yc n yret fr2 lo2 (xD X) (xad X) (.ref (xad X k) :: [a0]) σ (ex (some r) τ)) (hw : Cw y yc n yret 1) (hv : CwV y) (hlink : Cond.methodLink own idx y ∈ TT) (hk : k < 44) (hobj : ∃ (ci : Nat) (fs : List Value) (z : vw_C), cellF (xD X) (xad X) k (σ k) = .inr (ci, fs) ∧ vwCl[ci]? = some z ∧ z.1 = y.cls) (hroom : fr2 + 1 ≤ fr ∧ 8 + (n + 11) + lo2 ≤ lo) (hcat : (rest.map fun v => v.category).sum ≤ 8) (hq : pc + 3 = q) (hdg : decode cc pc = .ok (.invokevirtual idx, 3)) (kk : V X q lv (r :: rest) τ) : V X pc lv (a0 :: .ref (xad X k) :: rest) σ := V_callV C (As := [a0]) hM hw hv hlink hk hobj hroom rfl rfl hcat hq hdg (fun v σ2 h => by obtain ⟨rfl, rfl⟩ := h; exact kk)
theorem V_cS1r {X : CT} {own : String} {cc : ByteArray} {ret : Option FieldType} {fr lo : Nat} {pc q : Nat} {lv rest : List Value} {σ τ : ST} (C : Cx X own cc ret fr lo) {y : MethodName} {yc : ByteArray} {n idx fr2 lo2 : Nat} {yret : Option FieldType} {a0 : Value} {r : Value} (hM : Ct (xl X) y yc n yret fr2 lo2 (xD X) (xad X) [a0] σ (ex (some r) τ)) (hw : Cw y yc n yret 1) (hv : Cond.static y ∈ TT) (hlink : Cond.methodLink own idx y ∈ TT) (hroom : fr2 + 1 ≤ fr ∧ 8 + (n + 11) + lo2 ≤ lo) (hcat : (rest.map fun v => v.category).sum ≤ 8) (hq : pc + 3 = q) (hdg : decode cc pc = .ok (.invokestatic idx, 3)) (kk : V X q lv (r :: rest) τ) : V X pc lv (a0 :: rest) σ := V_callS C (As := [a0]) hM hw hv hlink hroom rfl rfl hcat hq hdg (fun v σ2 h => by obtain ⟨rfl, rfl⟩ := h; exact kk)
theorem V_cN1r {X : CT} {own : String} {cc : ByteArray} {ret : Option FieldType} {fr lo : Nat} {pc q : Nat} {lv rest : List Value} {σ τ : ST} (C : Cx X own cc ret fr lo) {y : MethodName} {yc : ByteArray} {n idx fr2 lo2 : Nat} {yret : Option FieldType} {a0 : Value} {r : Value} (hM : Ct (xl X) y yc n yret fr2 lo2 (xD X) (xad X) [a0] σ (ex (some r) τ)) (hw : Cw y yc n yret 1) (hv : Cond.static y ∈ TT) {host : String} (hlink : va_Nw (.methodLinkNest own idx y host) (xs X)) (hroom : fr2 + 1 ≤ fr ∧ 8 + (n + 11) + lo2 ≤ lo) (hcat : (rest.map fun v => v.category).sum ≤ 8) (hq : pc + 3 = q) (hdg : decode cc pc = .ok (.invokestatic idx, 3)) (kk : V X q lv (r :: rest) τ) : V X pc lv (a0 :: rest) σ := V_callN C (As := [a0]) hM hw hv hlink hroom rfl rfl hcat hq hdg (fun v σ2 h => by obtain ⟨rfl, rfl⟩ := h; exact kk)
theorem V_cV1v {X : CT} {own : String} {cc : ByteArray} {ret : Option FieldType} {fr lo : Nat} {pc q : Nat} {lv rest : List Value} {σ τ : ST} (C : Cx X own cc ret fr lo) {y : MethodName} {yc : ByteArray} {n idx k fr2 lo2 : Nat} {yret : Option FieldType} {a0 : Value} (hM : Ct (xl X) y yc n yret fr2 lo2 (xD X) (xad X) (.ref (xad X k) :: [a0]) σ (ex none τ)) (hw : Cw y yc n yret 1) (hv : CwV y) (hlink : Cond.methodLink own idx y ∈ TT) (hk : k < 44) (hobj : ∃ (ci : Nat) (fs : List Value) (z : vw_C), cellF (xD X) (xad X) k (σ k) = .inr (ci, fs) ∧ vwCl[ci]? = some z ∧ z.1 = y.cls) (hroom : fr2 + 1 ≤ fr ∧ 8 + (n + 11) + lo2 ≤ lo) (hcat : (rest.map fun v => v.category).sum ≤ 8) (hq : pc + 3 = q) (hdg : decode cc pc = .ok (.invokevirtual idx, 3)) (kk : V X q lv (rest) τ) : V X pc lv (a0 :: .ref (xad X k) :: rest) σ := V_callV C (As := [a0]) hM hw hv hlink hk hobj hroom rfl rfl hcat hq hdg (fun v σ2 h => by obtain ⟨rfl, rfl⟩ := h; exact kk)
theorem V_cS1v {X : CT} {own : String} {cc : ByteArray} {ret : Option FieldType} {fr lo : Nat} {pc q : Nat} {lv rest : List Value} {σ τ : ST} (C : Cx X own cc ret fr lo) {y : MethodName} {yc : ByteArray} {n idx fr2 lo2 : Nat} {yret : Option FieldType} {a0 : Value} (hM : Ct (xl X) y yc n yret fr2 lo2 (xD X) (xad X) [a0] σ (ex none τ)) (hw : Cw y yc n yret 1) (hv : Cond.static y ∈ TT) (hlink : Cond.methodLink own idx y ∈ TT) (hroom : fr2 + 1 ≤ fr ∧ 8 + (n + 11) + lo2 ≤ lo) (hcat : (rest.map fun v => v.category).sum ≤ 8) (hq : pc + 3 = q) (hdg : decode cc pc = .ok (.invokestatic idx, 3)) (kk : V X q lv (rest) τ) : V X pc lv (a0 :: rest) σ := V_callS C (As := [a0]) hM hw hv hlink hroom rfl rfl hcat hq hdg (fun v σ2 h => by obtain ⟨rfl, rfl⟩ := h; exact kk)
theorem V_cN1v {X : CT} {own : String} {cc : ByteArray} {ret : Option FieldType} {fr lo : Nat} {pc q : Nat} {lv rest : List Value} {σ τ : ST} (C : Cx X own cc ret fr lo) {y : MethodName} {yc : ByteArray} {n idx fr2 lo2 : Nat} {yret : Option FieldType} {a0 : Value} (hM : Ct (xl X) y yc n yret fr2 lo2 (xD X) (xad X) [a0] σ (ex none τ)) (hw : Cw y yc n yret 1) (hv : Cond.static y ∈ TT) {host : String} (hlink : va_Nw (.methodLinkNest own idx y host) (xs X)) (hroom : fr2 + 1 ≤ fr ∧ 8 + (n + 11) + lo2 ≤ lo) (hcat : (rest.map fun v => v.category).sum ≤ 8) (hq : pc + 3 = q) (hdg : decode cc pc = .ok (.invokestatic idx, 3)) (kk : V X q lv (rest) τ) : V X pc lv (a0 :: rest) σ := V_callN C (As := [a0]) hM hw hv hlink hroom rfl rfl hcat hq hdg (fun v σ2 h => by obtain ⟨rfl, rfl⟩ := h; exact kk)
theorem V_cV2r {X : CT} {own : String} {cc : ByteArray} {ret : Option FieldType} {fr lo : Nat} {pc q : Nat} {lv rest : List Value} {σ τ : ST} (C : Cx X own cc ret fr lo) {y : MethodName} {yc : ByteArray} {n idx k fr2 lo2 : Nat} {yret : Option FieldType} {a0 a1 : Value} {r : Value} (hM : Ct (xl X) y yc n yret fr2 lo2 (xD X) (xad X) (.ref (xad X k) :: [a0, a1]) σ (ex (some r) τ)) (hw : Cw y yc n yret 2) (hv : CwV y) (hlink : Cond.methodLink own idx y ∈ TT) (hk : k < 44) (hobj : ∃ (ci : Nat) (fs : List Value) (z : vw_C), cellF (xD X) (xad X) k (σ k) = .inr (ci, fs) ∧ vwCl[ci]? = some z ∧ z.1 = y.cls) (hroom : fr2 + 1 ≤ fr ∧ 8 + (n + 11) + lo2 ≤ lo) (hcat : (rest.map fun v => v.category).sum ≤ 8) (hq : pc + 3 = q) (hdg : decode cc pc = .ok (.invokevirtual idx, 3)) (kk : V X q lv (r :: rest) τ) : V X pc lv (a1 :: a0 :: .ref (xad X k) :: rest) σ := V_callV C (As := [a0, a1]) hM hw hv hlink hk hobj hroom rfl rfl hcat hq hdg (fun v σ2 h => by obtain ⟨rfl, rfl⟩ := h; exact kk)
theorem V_cS2r {X : CT} {own : String} {cc : ByteArray} {ret : Option FieldType} {fr lo : Nat} {pc q : Nat} {lv rest : List Value} {σ τ : ST} (C : Cx X own cc ret fr lo) {y : MethodName} {yc : ByteArray} {n idx fr2 lo2 : Nat} {yret : Option FieldType} {a0 a1 : Value} {r : Value} (hM : Ct (xl X) y yc n yret fr2 lo2 (xD X) (xad X) [a0, a1] σ (ex (some r) τ)) (hw : Cw y yc n yret 2) (hv : Cond.static y ∈ TT) (hlink : Cond.methodLink own idx y ∈ TT) (hroom : fr2 + 1 ≤ fr ∧ 8 + (n + 11) + lo2 ≤ lo) (hcat : (rest.map fun v => v.category).sum ≤ 8) (hq : pc + 3 = q) (hdg : decode cc pc = .ok (.invokestatic idx, 3)) (kk : V X q lv (r :: rest) τ) : V X pc lv (a1 :: a0 :: rest) σ := V_callS C (As := [a0, a1]) hM hw hv hlink hroom rfl rfl hcat hq hdg (fun v σ2 h => by obtain ⟨rfl, rfl⟩ := h; exact kk)
theorem V_cN2r {X : CT} {own : String} {cc : ByteArray} {ret : Option FieldType} {fr lo : Nat} {pc q : Nat} {lv rest : List Value} {σ τ : ST} (C : Cx X own cc ret fr lo) {y : MethodName} {yc : ByteArray} {n idx fr2 lo2 : Nat} {yret : Option FieldType} {a0 a1 : Value} {r : Value} (hM : Ct (xl X) y yc n yret fr2 lo2 (xD X) (xad X) [a0, a1] σ (ex (some r) τ)) (hw : Cw y yc n yret 2) (hv : Cond.static y ∈ TT) {host : String} (hlink : va_Nw (.methodLinkNest own idx y host) (xs X)) (hroom : fr2 + 1 ≤ fr ∧ 8 + (n + 11) + lo2 ≤ lo) (hcat : (rest.map fun v => v.category).sum ≤ 8) (hq : pc + 3 = q) (hdg : decode cc pc = .ok (.invokestatic idx, 3)) (kk : V X q lv (r :: rest) τ) : V X pc lv (a1 :: a0 :: rest) σ := V_callN C (As := [a0, a1]) hM hw hv hlink hroom rfl rfl hcat hq hdg (fun v σ2 h => by obtain ⟨rfl, rfl⟩ := h; exact kk)
theorem V_cV2v {X : CT} {own : String} {cc : ByteArray} {ret : Option FieldType} {fr lo : Nat} {pc q : Nat} {lv rest : List Value} {σ τ : ST} (C : Cx X own cc ret fr lo) {y : MethodName} {yc : ByteArray} {n idx k fr2 lo2 : Nat} {yret : Option FieldType} {a0 a1 : Value} (hM : Ct (xl X) y yc n yret fr2 lo2 (xD X) (xad X) (.ref (xad X k) :: [a0, a1]) σ (ex none τ)) (hw : Cw y yc n yret 2) (hv : CwV y) (hlink : Cond.methodLink own idx y ∈ TT) (hk : k < 44) (hobj : ∃ (ci : Nat) (fs : List Value) (z : vw_C), cellF (xD X) (xad X) k (σ k) = .inr (ci, fs) ∧ vwCl[ci]? = some z ∧ z.1 = y.cls) (hroom : fr2 + 1 ≤ fr ∧ 8 + (n + 11) + lo2 ≤ lo) (hcat : (rest.map fun v => v.category).sum ≤ 8) (hq : pc + 3 = q) (hdg : decode cc pc = .ok (.invokevirtual idx, 3)) (kk : V X q lv (rest) τ) : V X pc lv (a1 :: a0 :: .ref (xad X k) :: rest) σ := V_callV C (As := [a0, a1]) hM hw hv hlink hk hobj hroom rfl rfl hcat hq hdg (fun v σ2 h => by obtain ⟨rfl, rfl⟩ := h; exact kk)
theorem V_cS2v {X : CT} {own : String} {cc : ByteArray} {ret : Option FieldType} {fr lo : Nat} {pc q : Nat} {lv rest : List Value} {σ τ : ST} (C : Cx X own cc ret fr lo) {y : MethodName} {yc : ByteArray} {n idx fr2 lo2 : Nat} {yret : Option FieldType} {a0 a1 : Value} (hM : Ct (xl X) y yc n yret fr2 lo2 (xD X) (xad X) [a0, a1] σ (ex none τ)) (hw : Cw y yc n yret 2) (hv : Cond.static y ∈ TT) (hlink : Cond.methodLink own idx y ∈ TT) (hroom : fr2 + 1 ≤ fr ∧ 8 + (n + 11) + lo2 ≤ lo) (hcat : (rest.map fun v => v.category).sum ≤ 8) (hq : pc + 3 = q) (hdg : decode cc pc = .ok (.invokestatic idx, 3)) (kk : V X q lv (rest) τ) : V X pc lv (a1 :: a0 :: rest) σ := V_callS C (As := [a0, a1]) hM hw hv hlink hroom rfl rfl hcat hq hdg (fun v σ2 h => by obtain ⟨rfl, rfl⟩ := h; exact kk)
theorem V_cN2v {X : CT} {own : String} {cc : ByteArray} {ret : Option FieldType} {fr lo : Nat} {pc q : Nat} {lv rest : List Value} {σ τ : ST} (C : Cx X own cc ret fr lo) {y : MethodName} {yc : ByteArray} {n idx fr2 lo2 : Nat} {yret : Option FieldType} {a0 a1 : Value} (hM : Ct (xl X) y yc n yret fr2 lo2 (xD X) (xad X) [a0, a1] σ (ex none τ)) (hw : Cw y yc n yret 2) (hv : Cond.static y ∈ TT) {host : String} (hlink : va_Nw (.methodLinkNest own idx y host) (xs X)) (hroom : fr2 + 1 ≤ fr ∧ 8 + (n + 11) + lo2 ≤ lo) (hcat : (rest.map fun v => v.category).sum ≤ 8) (hq : pc + 3 = q) (hdg : decode cc pc = .ok (.invokestatic idx, 3)) (kk : V X q lv (rest) τ) : V X pc lv (a1 :: a0 :: rest) σ := V_callN C (As := [a0, a1]) hM hw hv hlink hroom rfl rfl hcat hq hdg (fun v σ2 h => by obtain ⟨rfl, rfl⟩ := h; exact kk)
theorem V_cV3r {X : CT} {own : String} {cc : ByteArray} {ret : Option FieldType} {fr lo : Nat} {pc q : Nat} {lv rest : List Value} {σ τ : ST} (C : Cx X own cc ret fr lo) {y : MethodName} {yc : ByteArray} {n idx k fr2 lo2 : Nat} {yret : Option FieldType} {a0 a1 a2 : Value} {r : Value} (hM : Ct (xl X) y yc n yret fr2 lo2 (xD X) (xad X) (.ref (xad X k) :: [a0, a1, a2]) σ (ex (some r) τ)) (hw : Cw y yc n yret 3) (hv : CwV y) (hlink : Cond.methodLink own idx y ∈ TT) (hk : k < 44) (hobj : ∃ (ci : Nat) (fs : List Value) (z : vw_C), cellF (xD X) (xad X) k (σ k) = .inr (ci, fs) ∧ vwCl[ci]? = some z ∧ z.1 = y.cls) (hroom : fr2 + 1 ≤ fr ∧ 8 + (n + 11) + lo2 ≤ lo) (hcat : (rest.map fun v => v.category).sum ≤ 8) (hq : pc + 3 = q) (hdg : decode cc pc = .ok (.invokevirtual idx, 3)) (kk : V X q lv (r :: rest) τ) : V X pc lv (a2 :: a1 :: a0 :: .ref (xad X k) :: rest) σ := V_callV C (As := [a0, a1, a2]) hM hw hv hlink hk hobj hroom rfl rfl hcat hq hdg (fun v σ2 h => by obtain ⟨rfl, rfl⟩ := h; exact kk)
theorem V_cS3r {X : CT} {own : String} {cc : ByteArray} {ret : Option FieldType} {fr lo : Nat} {pc q : Nat} {lv rest : List Value} {σ τ : ST} (C : Cx X own cc ret fr lo) {y : MethodName} {yc : ByteArray} {n idx fr2 lo2 : Nat} {yret : Option FieldType} {a0 a1 a2 : Value} {r : Value} (hM : Ct (xl X) y yc n yret fr2 lo2 (xD X) (xad X) [a0, a1, a2] σ (ex (some r) τ)) (hw : Cw y yc n yret 3) (hv : Cond.static y ∈ TT) (hlink : Cond.methodLink own idx y ∈ TT) (hroom : fr2 + 1 ≤ fr ∧ 8 + (n + 11) + lo2 ≤ lo) (hcat : (rest.map fun v => v.category).sum ≤ 8) (hq : pc + 3 = q) (hdg : decode cc pc = .ok (.invokestatic idx, 3)) (kk : V X q lv (r :: rest) τ) : V X pc lv (a2 :: a1 :: a0 :: rest) σ := V_callS C (As := [a0, a1, a2]) hM hw hv hlink hroom rfl rfl hcat hq hdg (fun v σ2 h => by obtain ⟨rfl, rfl⟩ := h; exact kk)
theorem V_cN3r {X : CT} {own : String} {cc : ByteArray} {ret : Option FieldType} {fr lo : Nat} {pc q : Nat} {lv rest : List Value} {σ τ : ST} (C : Cx X own cc ret fr lo) {y : MethodName} {yc : ByteArray} {n idx fr2 lo2 : Nat} {yret : Option FieldType} {a0 a1 a2 : Value} {r : Value} (hM : Ct (xl X) y yc n yret fr2 lo2 (xD X) (xad X) [a0, a1, a2] σ (ex (some r) τ)) (hw : Cw y yc n yret 3) (hv : Cond.static y ∈ TT) {host : String} (hlink : va_Nw (.methodLinkNest own idx y host) (xs X)) (hroom : fr2 + 1 ≤ fr ∧ 8 + (n + 11) + lo2 ≤ lo) (hcat : (rest.map fun v => v.category).sum ≤ 8) (hq : pc + 3 = q) (hdg : decode cc pc = .ok (.invokestatic idx, 3)) (kk : V X q lv (r :: rest) τ) : V X pc lv (a2 :: a1 :: a0 :: rest) σ := V_callN C (As := [a0, a1, a2]) hM hw hv hlink hroom rfl rfl hcat hq hdg (fun v σ2 h => by obtain ⟨rfl, rfl⟩ := h; exact kk)
theorem V_cV3v {X : CT} {own : String} {cc : ByteArray} {ret : Option FieldType} {fr lo : Nat} {pc q : Nat} {lv rest : List Value} {σ τ : ST} (C : Cx X own cc ret fr lo) {y : MethodName} {yc : ByteArray} {n idx k fr2 lo2 : Nat} {yret : Option FieldType} {a0 a1 a2 : Value} (hM : Ct (xl X) y yc n yret fr2 lo2 (xD X) (xad X) (.ref (xad X k) :: [a0, a1, a2]) σ (ex none τ)) (hw : Cw y yc n yret 3) (hv : CwV y) (hlink : Cond.methodLink own idx y ∈ TT) (hk : k < 44) (hobj : ∃ (ci : Nat) (fs : List Value) (z : vw_C), cellF (xD X) (xad X) k (σ k) = .inr (ci, fs) ∧ vwCl[ci]? = some z ∧ z.1 = y.cls) (hroom : fr2 + 1 ≤ fr ∧ 8 + (n + 11) + lo2 ≤ lo) (hcat : (rest.map fun v => v.category).sum ≤ 8) (hq : pc + 3 = q) (hdg : decode cc pc = .ok (.invokevirtual idx, 3)) (kk : V X q lv (rest) τ) : V X pc lv (a2 :: a1 :: a0 :: .ref (xad X k) :: rest) σ := V_callV C (As := [a0, a1, a2]) hM hw hv hlink hk hobj hroom rfl rfl hcat hq hdg (fun v σ2 h => by obtain ⟨rfl, rfl⟩ := h; exact kk)
theorem V_cS3v {X : CT} {own : String} {cc : ByteArray} {ret : Option FieldType} {fr lo : Nat} {pc q : Nat} {lv rest : List Value} {σ τ : ST} (C : Cx X own cc ret fr lo) {y : MethodName} {yc : ByteArray} {n idx fr2 lo2 : Nat} {yret : Option FieldType} {a0 a1 a2 : Value} (hM : Ct (xl X) y yc n yret fr2 lo2 (xD X) (xad X) [a0, a1, a2] σ (ex none τ)) (hw : Cw y yc n yret 3) (hv : Cond.static y ∈ TT) (hlink : Cond.methodLink own idx y ∈ TT) (hroom : fr2 + 1 ≤ fr ∧ 8 + (n + 11) + lo2 ≤ lo) (hcat : (rest.map fun v => v.category).sum ≤ 8) (hq : pc + 3 = q) (hdg : decode cc pc = .ok (.invokestatic idx, 3)) (kk : V X q lv (rest) τ) : V X pc lv (a2 :: a1 :: a0 :: rest) σ := V_callS C (As := [a0, a1, a2]) hM hw hv hlink hroom rfl rfl hcat hq hdg (fun v σ2 h => by obtain ⟨rfl, rfl⟩ := h; exact kk)
theorem V_cN3v {X : CT} {own : String} {cc : ByteArray} {ret : Option FieldType} {fr lo : Nat} {pc q : Nat} {lv rest : List Value} {σ τ : ST} (C : Cx X own cc ret fr lo) {y : MethodName} {yc : ByteArray} {n idx fr2 lo2 : Nat} {yret : Option FieldType} {a0 a1 a2 : Value} (hM : Ct (xl X) y yc n yret fr2 lo2 (xD X) (xad X) [a0, a1, a2] σ (ex none τ)) (hw : Cw y yc n yret 3) (hv : Cond.static y ∈ TT) {host : String} (hlink : va_Nw (.methodLinkNest own idx y host) (xs X)) (hroom : fr2 + 1 ≤ fr ∧ 8 + (n + 11) + lo2 ≤ lo) (hcat : (rest.map fun v => v.category).sum ≤ 8) (hq : pc + 3 = q) (hdg : decode cc pc = .ok (.invokestatic idx, 3)) (kk : V X q lv (rest) τ) : V X pc lv (a2 :: a1 :: a0 :: rest) σ := V_callN C (As := [a0, a1, a2]) hM hw hv hlink hroom rfl rfl hcat hq hdg (fun v σ2 h => by obtain ⟨rfl, rfl⟩ := h; exact kk)
theorem V_cV4r {X : CT} {own : String} {cc : ByteArray} {ret : Option FieldType} {fr lo : Nat} {pc q : Nat} {lv rest : List Value} {σ τ : ST} (C : Cx X own cc ret fr lo) {y : MethodName} {yc : ByteArray} {n idx k fr2 lo2 : Nat} {yret : Option FieldType} {a0 a1 a2 a3 : Value} {r : Value} (hM : Ct (xl X) y yc n yret fr2 lo2 (xD X) (xad X) (.ref (xad X k) :: [a0, a1, a2, a3]) σ (ex (some r) τ)) (hw : Cw y yc n yret 4) (hv : CwV y) (hlink : Cond.methodLink own idx y ∈ TT) (hk : k < 44) (hobj : ∃ (ci : Nat) (fs : List Value) (z : vw_C), cellF (xD X) (xad X) k (σ k) = .inr (ci, fs) ∧ vwCl[ci]? = some z ∧ z.1 = y.cls) (hroom : fr2 + 1 ≤ fr ∧ 8 + (n + 11) + lo2 ≤ lo) (hcat : (rest.map fun v => v.category).sum ≤ 8) (hq : pc + 3 = q) (hdg : decode cc pc = .ok (.invokevirtual idx, 3)) (kk : V X q lv (r :: rest) τ) : V X pc lv (a3 :: a2 :: a1 :: a0 :: .ref (xad X k) :: rest) σ := V_callV C (As := [a0, a1, a2, a3]) hM hw hv hlink hk hobj hroom rfl rfl hcat hq hdg (fun v σ2 h => by obtain ⟨rfl, rfl⟩ := h; exact kk)
theorem V_cS4r {X : CT} {own : String} {cc : ByteArray} {ret : Option FieldType} {fr lo : Nat} {pc q : Nat} {lv rest : List Value} {σ τ : ST} (C : Cx X own cc ret fr lo) {y : MethodName} {yc : ByteArray} {n idx fr2 lo2 : Nat} {yret : Option FieldType} {a0 a1 a2 a3 : Value} {r : Value} (hM : Ct (xl X) y yc n yret fr2 lo2 (xD X) (xad X) [a0, a1, a2, a3] σ (ex (some r) τ)) (hw : Cw y yc n yret 4) (hv : Cond.static y ∈ TT) (hlink : Cond.methodLink own idx y ∈ TT) (hroom : fr2 + 1 ≤ fr ∧ 8 + (n + 11) + lo2 ≤ lo) (hcat : (rest.map fun v => v.category).sum ≤ 8) (hq : pc + 3 = q) (hdg : decode cc pc = .ok (.invokestatic idx, 3)) (kk : V X q lv (r :: rest) τ) : V X pc lv (a3 :: a2 :: a1 :: a0 :: rest) σ := V_callS C (As := [a0, a1, a2, a3]) hM hw hv hlink hroom rfl rfl hcat hq hdg (fun v σ2 h => by obtain ⟨rfl, rfl⟩ := h; exact kk)
theorem V_cN4r {X : CT} {own : String} {cc : ByteArray} {ret : Option FieldType} {fr lo : Nat} {pc q : Nat} {lv rest : List Value} {σ τ : ST} (C : Cx X own cc ret fr lo) {y : MethodName} {yc : ByteArray} {n idx fr2 lo2 : Nat} {yret : Option FieldType} {a0 a1 a2 a3 : Value} {r : Value} (hM : Ct (xl X) y yc n yret fr2 lo2 (xD X) (xad X) [a0, a1, a2, a3] σ (ex (some r) τ)) (hw : Cw y yc n yret 4) (hv : Cond.static y ∈ TT) {host : String} (hlink : va_Nw (.methodLinkNest own idx y host) (xs X)) (hroom : fr2 + 1 ≤ fr ∧ 8 + (n + 11) + lo2 ≤ lo) (hcat : (rest.map fun v => v.category).sum ≤ 8) (hq : pc + 3 = q) (hdg : decode cc pc = .ok (.invokestatic idx, 3)) (kk : V X q lv (r :: rest) τ) : V X pc lv (a3 :: a2 :: a1 :: a0 :: rest) σ := V_callN C (As := [a0, a1, a2, a3]) hM hw hv hlink hroom rfl rfl hcat hq hdg (fun v σ2 h => by obtain ⟨rfl, rfl⟩ := h; exact kk)
theorem V_cV4v {X : CT} {own : String} {cc : ByteArray} {ret : Option FieldType} {fr lo : Nat} {pc q : Nat} {lv rest : List Value} {σ τ : ST} (C : Cx X own cc ret fr lo) {y : MethodName} {yc : ByteArray} {n idx k fr2 lo2 : Nat} {yret : Option FieldType} {a0 a1 a2 a3 : Value} (hM : Ct (xl X) y yc n yret fr2 lo2 (xD X) (xad X) (.ref (xad X k) :: [a0, a1, a2, a3]) σ (ex none τ)) (hw : Cw y yc n yret 4) (hv : CwV y) (hlink : Cond.methodLink own idx y ∈ TT) (hk : k < 44) (hobj : ∃ (ci : Nat) (fs : List Value) (z : vw_C), cellF (xD X) (xad X) k (σ k) = .inr (ci, fs) ∧ vwCl[ci]? = some z ∧ z.1 = y.cls) (hroom : fr2 + 1 ≤ fr ∧ 8 + (n + 11) + lo2 ≤ lo) (hcat : (rest.map fun v => v.category).sum ≤ 8) (hq : pc + 3 = q) (hdg : decode cc pc = .ok (.invokevirtual idx, 3)) (kk : V X q lv (rest) τ) : V X pc lv (a3 :: a2 :: a1 :: a0 :: .ref (xad X k) :: rest) σ := V_callV C (As := [a0, a1, a2, a3]) hM hw hv hlink hk hobj hroom rfl rfl hcat hq hdg (fun v σ2 h => by obtain ⟨rfl, rfl⟩ := h; exact kk)
theorem V_cS4v {X : CT} {own : String} {cc : ByteArray} {ret : Option FieldType} {fr lo : Nat} {pc q : Nat} {lv rest : List Value} {σ τ : ST} (C : Cx X own cc ret fr lo) {y : MethodName} {yc : ByteArray} {n idx fr2 lo2 : Nat} {yret : Option FieldType} {a0 a1 a2 a3 : Value} (hM : Ct (xl X) y yc n yret fr2 lo2 (xD X) (xad X) [a0, a1, a2, a3] σ (ex none τ)) (hw : Cw y yc n yret 4) (hv : Cond.static y ∈ TT) (hlink : Cond.methodLink own idx y ∈ TT) (hroom : fr2 + 1 ≤ fr ∧ 8 + (n + 11) + lo2 ≤ lo) (hcat : (rest.map fun v => v.category).sum ≤ 8) (hq : pc + 3 = q) (hdg : decode cc pc = .ok (.invokestatic idx, 3)) (kk : V X q lv (rest) τ) : V X pc lv (a3 :: a2 :: a1 :: a0 :: rest) σ := V_callS C (As := [a0, a1, a2, a3]) hM hw hv hlink hroom rfl rfl hcat hq hdg (fun v σ2 h => by obtain ⟨rfl, rfl⟩ := h; exact kk)
theorem V_cN4v {X : CT} {own : String} {cc : ByteArray} {ret : Option FieldType} {fr lo : Nat} {pc q : Nat} {lv rest : List Value} {σ τ : ST} (C : Cx X own cc ret fr lo) {y : MethodName} {yc : ByteArray} {n idx fr2 lo2 : Nat} {yret : Option FieldType} {a0 a1 a2 a3 : Value} (hM : Ct (xl X) y yc n yret fr2 lo2 (xD X) (xad X) [a0, a1, a2, a3] σ (ex none τ)) (hw : Cw y yc n yret 4) (hv : Cond.static y ∈ TT) {host : String} (hlink : va_Nw (.methodLinkNest own idx y host) (xs X)) (hroom : fr2 + 1 ≤ fr ∧ 8 + (n + 11) + lo2 ≤ lo) (hcat : (rest.map fun v => v.category).sum ≤ 8) (hq : pc + 3 = q) (hdg : decode cc pc = .ok (.invokestatic idx, 3)) (kk : V X q lv (rest) τ) : V X pc lv (a3 :: a2 :: a1 :: a0 :: rest) σ := V_callN C (As := [a0, a1, a2, a3]) hM hw hv hlink hroom rfl rfl hcat hq hdg (fun v σ2 h => by obtain ⟨rfl, rfl⟩ := h; exact kk)
theorem V_cV5r {X : CT} {own : String} {cc : ByteArray} {ret : Option FieldType} {fr lo : Nat} {pc q : Nat} {lv rest : List Value} {σ τ : ST} (C : Cx X own cc ret fr lo) {y : MethodName} {yc : ByteArray} {n idx k fr2 lo2 : Nat} {yret : Option FieldType} {a0 a1 a2 a3 a4 : Value} {r : Value} (hM : Ct (xl X) y yc n yret fr2 lo2 (xD X) (xad X) (.ref (xad X k) :: [a0, a1, a2, a3, a4]) σ (ex (some r) τ)) (hw : Cw y yc n yret 5) (hv : CwV y) (hlink : Cond.methodLink own idx y ∈ TT) (hk : k < 44) (hobj : ∃ (ci : Nat) (fs : List Value) (z : vw_C), cellF (xD X) (xad X) k (σ k) = .inr (ci, fs) ∧ vwCl[ci]? = some z ∧ z.1 = y.cls) (hroom : fr2 + 1 ≤ fr ∧ 8 + (n + 11) + lo2 ≤ lo) (hcat : (rest.map fun v => v.category).sum ≤ 8) (hq : pc + 3 = q) (hdg : decode cc pc = .ok (.invokevirtual idx, 3)) (kk : V X q lv (r :: rest) τ) : V X pc lv (a4 :: a3 :: a2 :: a1 :: a0 :: .ref (xad X k) :: rest) σ := V_callV C (As := [a0, a1, a2, a3, a4]) hM hw hv hlink hk hobj hroom rfl rfl hcat hq hdg (fun v σ2 h => by obtain ⟨rfl, rfl⟩ := h; exact kk)
theorem V_cS5r {X : CT} {own : String} {cc : ByteArray} {ret : Option FieldType} {fr lo : Nat} {pc q : Nat} {lv rest : List Value} {σ τ : ST} (C : Cx X own cc ret fr lo) {y : MethodName} {yc : ByteArray} {n idx fr2 lo2 : Nat} {yret : Option FieldType} {a0 a1 a2 a3 a4 : Value} {r : Value} (hM : Ct (xl X) y yc n yret fr2 lo2 (xD X) (xad X) [a0, a1, a2, a3, a4] σ (ex (some r) τ)) (hw : Cw y yc n yret 5) (hv : Cond.static y ∈ TT) (hlink : Cond.methodLink own idx y ∈ TT) (hroom : fr2 + 1 ≤ fr ∧ 8 + (n + 11) + lo2 ≤ lo) (hcat : (rest.map fun v => v.category).sum ≤ 8) (hq : pc + 3 = q) (hdg : decode cc pc = .ok (.invokestatic idx, 3)) (kk : V X q lv (r :: rest) τ) : V X pc lv (a4 :: a3 :: a2 :: a1 :: a0 :: rest) σ := V_callS C (As := [a0, a1, a2, a3, a4]) hM hw hv hlink hroom rfl rfl hcat hq hdg (fun v σ2 h => by obtain ⟨rfl, rfl⟩ := h; exact kk)
theorem V_cN5r {X : CT} {own : String} {cc : ByteArray} {ret : Option FieldType} {fr lo : Nat} {pc q : Nat} {lv rest : List Value} {σ τ : ST} (C : Cx X own cc ret fr lo) {y : MethodName} {yc : ByteArray} {n idx fr2 lo2 : Nat} {yret : Option FieldType} {a0 a1 a2 a3 a4 : Value} {r : Value} (hM : Ct (xl X) y yc n yret fr2 lo2 (xD X) (xad X) [a0, a1, a2, a3, a4] σ (ex (some r) τ)) (hw : Cw y yc n yret 5) (hv : Cond.static y ∈ TT) {host : String} (hlink : va_Nw (.methodLinkNest own idx y host) (xs X)) (hroom : fr2 + 1 ≤ fr ∧ 8 + (n + 11) + lo2 ≤ lo) (hcat : (rest.map fun v => v.category).sum ≤ 8) (hq : pc + 3 = q) (hdg : decode cc pc = .ok (.invokestatic idx, 3)) (kk : V X q lv (r :: rest) τ) : V X pc lv (a4 :: a3 :: a2 :: a1 :: a0 :: rest) σ := V_callN C (As := [a0, a1, a2, a3, a4]) hM hw hv hlink hroom rfl rfl hcat hq hdg (fun v σ2 h => by obtain ⟨rfl, rfl⟩ := h; exact kk)
theorem V_cV5v {X : CT} {own : String} {cc : ByteArray} {ret : Option FieldType} {fr lo : Nat} {pc q : Nat} {lv rest : List Value} {σ τ : ST} (C : Cx X own cc ret fr lo) {y : MethodName} {yc : ByteArray} {n idx k fr2 lo2 : Nat} {yret : Option FieldType} {a0 a1 a2 a3 a4 : Value} (hM : Ct (xl X) y yc n yret fr2 lo2 (xD X) (xad X) (.ref (xad X k) :: [a0, a1, a2, a3, a4]) σ (ex none τ)) (hw : Cw y yc n yret 5) (hv : CwV y) (hlink : Cond.methodLink own idx y ∈ TT) (hk : k < 44) (hobj : ∃ (ci : Nat) (fs : List Value) (z : vw_C), cellF (xD X) (xad X) k (σ k) = .inr (ci, fs) ∧ vwCl[ci]? = some z ∧ z.1 = y.cls) (hroom : fr2 + 1 ≤ fr ∧ 8 + (n + 11) + lo2 ≤ lo) (hcat : (rest.map fun v => v.category).sum ≤ 8) (hq : pc + 3 = q) (hdg : decode cc pc = .ok (.invokevirtual idx, 3)) (kk : V X q lv (rest) τ) : V X pc lv (a4 :: a3 :: a2 :: a1 :: a0 :: .ref (xad X k) :: rest) σ := V_callV C (As := [a0, a1, a2, a3, a4]) hM hw hv hlink hk hobj hroom rfl rfl hcat hq hdg (fun v σ2 h => by obtain ⟨rfl, rfl⟩ := h; exact kk)
theorem V_cS5v {X : CT} {own : String} {cc : ByteArray} {ret : Option FieldType} {fr lo : Nat} {pc q : Nat} {lv rest : List Value} {σ τ : ST} (C : Cx X own cc ret fr lo) {y : MethodName} {yc : ByteArray} {n idx fr2 lo2 : Nat} {yret : Option FieldType} {a0 a1 a2 a3 a4 : Value} (hM : Ct (xl X) y yc n yret fr2 lo2 (xD X) (xad X) [a0, a1, a2, a3, a4] σ (ex none τ)) (hw : Cw y yc n yret 5) (hv : Cond.static y ∈ TT) (hlink : Cond.methodLink own idx y ∈ TT) (hroom : fr2 + 1 ≤ fr ∧ 8 + (n + 11) + lo2 ≤ lo) (hcat : (rest.map fun v => v.category).sum ≤ 8) (hq : pc + 3 = q) (hdg : decode cc pc = .ok (.invokestatic idx, 3)) (kk : V X q lv (rest) τ) : V X pc lv (a4 :: a3 :: a2 :: a1 :: a0 :: rest) σ := V_callS C (As := [a0, a1, a2, a3, a4]) hM hw hv hlink hroom rfl rfl hcat hq hdg (fun v σ2 h => by obtain ⟨rfl, rfl⟩ := h; exact kk)
theorem V_cN5v {X : CT} {own : String} {cc : ByteArray} {ret : Option FieldType} {fr lo : Nat} {pc q : Nat} {lv rest : List Value} {σ τ : ST} (C : Cx X own cc ret fr lo) {y : MethodName} {yc : ByteArray} {n idx fr2 lo2 : Nat} {yret : Option FieldType} {a0 a1 a2 a3 a4 : Value} (hM : Ct (xl X) y yc n yret fr2 lo2 (xD X) (xad X) [a0, a1, a2, a3, a4] σ (ex none τ)) (hw : Cw y yc n yret 5) (hv : Cond.static y ∈ TT) {host : String} (hlink : va_Nw (.methodLinkNest own idx y host) (xs X)) (hroom : fr2 + 1 ≤ fr ∧ 8 + (n + 11) + lo2 ≤ lo) (hcat : (rest.map fun v => v.category).sum ≤ 8) (hq : pc + 3 = q) (hdg : decode cc pc = .ok (.invokestatic idx, 3)) (kk : V X q lv (rest) τ) : V X pc lv (a4 :: a3 :: a2 :: a1 :: a0 :: rest) σ := V_callN C (As := [a0, a1, a2, a3, a4]) hM hw hv hlink hroom rfl rfl hcat hq hdg (fun v σ2 h => by obtain ⟨rfl, rfl⟩ := h; exact kk)
theorem V_cV6r {X : CT} {own : String} {cc : ByteArray} {ret : Option FieldType} {fr lo : Nat} {pc q : Nat} {lv rest : List Value} {σ τ : ST} (C : Cx X own cc ret fr lo) {y : MethodName} {yc : ByteArray} {n idx k fr2 lo2 : Nat} {yret : Option FieldType} {a0 a1 a2 a3 a4 a5 : Value} {r : Value} (hM : Ct (xl X) y yc n yret fr2 lo2 (xD X) (xad X) (.ref (xad X k) :: [a0, a1, a2, a3, a4, a5]) σ (ex (some r) τ)) (hw : Cw y yc n yret 6) (hv : CwV y) (hlink : Cond.methodLink own idx y ∈ TT) (hk : k < 44) (hobj : ∃ (ci : Nat) (fs : List Value) (z : vw_C), cellF (xD X) (xad X) k (σ k) = .inr (ci, fs) ∧ vwCl[ci]? = some z ∧ z.1 = y.cls) (hroom : fr2 + 1 ≤ fr ∧ 8 + (n + 11) + lo2 ≤ lo) (hcat : (rest.map fun v => v.category).sum ≤ 8) (hq : pc + 3 = q) (hdg : decode cc pc = .ok (.invokevirtual idx, 3)) (kk : V X q lv (r :: rest) τ) : V X pc lv (a5 :: a4 :: a3 :: a2 :: a1 :: a0 :: .ref (xad X k) :: rest) σ := V_callV C (As := [a0, a1, a2, a3, a4, a5]) hM hw hv hlink hk hobj hroom rfl rfl hcat hq hdg (fun v σ2 h => by obtain ⟨rfl, rfl⟩ := h; exact kk)
theorem V_cS6r {X : CT} {own : String} {cc : ByteArray} {ret : Option FieldType} {fr lo : Nat} {pc q : Nat} {lv rest : List Value} {σ τ : ST} (C : Cx X own cc ret fr lo) {y : MethodName} {yc : ByteArray} {n idx fr2 lo2 : Nat} {yret : Option FieldType} {a0 a1 a2 a3 a4 a5 : Value} {r : Value} (hM : Ct (xl X) y yc n yret fr2 lo2 (xD X) (xad X) [a0, a1, a2, a3, a4, a5] σ (ex (some r) τ)) (hw : Cw y yc n yret 6) (hv : Cond.static y ∈ TT) (hlink : Cond.methodLink own idx y ∈ TT) (hroom : fr2 + 1 ≤ fr ∧ 8 + (n + 11) + lo2 ≤ lo) (hcat : (rest.map fun v => v.category).sum ≤ 8) (hq : pc + 3 = q) (hdg : decode cc pc = .ok (.invokestatic idx, 3)) (kk : V X q lv (r :: rest) τ) : V X pc lv (a5 :: a4 :: a3 :: a2 :: a1 :: a0 :: rest) σ := V_callS C (As := [a0, a1, a2, a3, a4, a5]) hM hw hv hlink hroom rfl rfl hcat hq hdg (fun v σ2 h => by obtain ⟨rfl, rfl⟩ := h; exact kk)
theorem V_cN6r {X : CT} {own : String} {cc : ByteArray} {ret : Option FieldType} {fr lo : Nat} {pc q : Nat} {lv rest : List Value} {σ τ : ST} (C : Cx X own cc ret fr lo) {y : MethodName} {yc : ByteArray} {n idx fr2 lo2 : Nat} {yret : Option FieldType} {a0 a1 a2 a3 a4 a5 : Value} {r : Value} (hM : Ct (xl X) y yc n yret fr2 lo2 (xD X) (xad X) [a0, a1, a2, a3, a4, a5] σ (ex (some r) τ)) (hw : Cw y yc n yret 6) (hv : Cond.static y ∈ TT) {host : String} (hlink : va_Nw (.methodLinkNest own idx y host) (xs X)) (hroom : fr2 + 1 ≤ fr ∧ 8 + (n + 11) + lo2 ≤ lo) (hcat : (rest.map fun v => v.category).sum ≤ 8) (hq : pc + 3 = q) (hdg : decode cc pc = .ok (.invokestatic idx, 3)) (kk : V X q lv (r :: rest) τ) : V X pc lv (a5 :: a4 :: a3 :: a2 :: a1 :: a0 :: rest) σ := V_callN C (As := [a0, a1, a2, a3, a4, a5]) hM hw hv hlink hroom rfl rfl hcat hq hdg (fun v σ2 h => by obtain ⟨rfl, rfl⟩ := h; exact kk)
theorem V_cV6v {X : CT} {own : String} {cc : ByteArray} {ret : Option FieldType} {fr lo : Nat} {pc q : Nat} {lv rest : List Value} {σ τ : ST} (C : Cx X own cc ret fr lo) {y : MethodName} {yc : ByteArray} {n idx k fr2 lo2 : Nat} {yret : Option FieldType} {a0 a1 a2 a3 a4 a5 : Value} (hM : Ct (xl X) y yc n yret fr2 lo2 (xD X) (xad X) (.ref (xad X k) :: [a0, a1, a2, a3, a4, a5]) σ (ex none τ)) (hw : Cw y yc n yret 6) (hv : CwV y) (hlink : Cond.methodLink own idx y ∈ TT) (hk : k < 44) (hobj : ∃ (ci : Nat) (fs : List Value) (z : vw_C), cellF (xD X) (xad X) k (σ k) = .inr (ci, fs) ∧ vwCl[ci]? = some z ∧ z.1 = y.cls) (hroom : fr2 + 1 ≤ fr ∧ 8 + (n + 11) + lo2 ≤ lo) (hcat : (rest.map fun v => v.category).sum ≤ 8) (hq : pc + 3 = q) (hdg : decode cc pc = .ok (.invokevirtual idx, 3)) (kk : V X q lv (rest) τ) : V X pc lv (a5 :: a4 :: a3 :: a2 :: a1 :: a0 :: .ref (xad X k) :: rest) σ := V_callV C (As := [a0, a1, a2, a3, a4, a5]) hM hw hv hlink hk hobj hroom rfl rfl hcat hq hdg (fun v σ2 h => by obtain ⟨rfl, rfl⟩ := h; exact kk)
theorem V_cS6v {X : CT} {own : String} {cc : ByteArray} {ret : Option FieldType} {fr lo : Nat} {pc q : Nat} {lv rest : List Value} {σ τ : ST} (C : Cx X own cc ret fr lo) {y : MethodName} {yc : ByteArray} {n idx fr2 lo2 : Nat} {yret : Option FieldType} {a0 a1 a2 a3 a4 a5 : Value} (hM : Ct (xl X) y yc n yret fr2 lo2 (xD X) (xad X) [a0, a1, a2, a3, a4, a5] σ (ex none τ)) (hw : Cw y yc n yret 6) (hv : Cond.static y ∈ TT) (hlink : Cond.methodLink own idx y ∈ TT) (hroom : fr2 + 1 ≤ fr ∧ 8 + (n + 11) + lo2 ≤ lo) (hcat : (rest.map fun v => v.category).sum ≤ 8) (hq : pc + 3 = q) (hdg : decode cc pc = .ok (.invokestatic idx, 3)) (kk : V X q lv (rest) τ) : V X pc lv (a5 :: a4 :: a3 :: a2 :: a1 :: a0 :: rest) σ := V_callS C (As := [a0, a1, a2, a3, a4, a5]) hM hw hv hlink hroom rfl rfl hcat hq hdg (fun v σ2 h => by obtain ⟨rfl, rfl⟩ := h; exact kk)
theorem V_cN6v {X : CT} {own : String} {cc : ByteArray} {ret : Option FieldType} {fr lo : Nat} {pc q : Nat} {lv rest : List Value} {σ τ : ST} (C : Cx X own cc ret fr lo) {y : MethodName} {yc : ByteArray} {n idx fr2 lo2 : Nat} {yret : Option FieldType} {a0 a1 a2 a3 a4 a5 : Value} (hM : Ct (xl X) y yc n yret fr2 lo2 (xD X) (xad X) [a0, a1, a2, a3, a4, a5] σ (ex none τ)) (hw : Cw y yc n yret 6) (hv : Cond.static y ∈ TT) {host : String} (hlink : va_Nw (.methodLinkNest own idx y host) (xs X)) (hroom : fr2 + 1 ≤ fr ∧ 8 + (n + 11) + lo2 ≤ lo) (hcat : (rest.map fun v => v.category).sum ≤ 8) (hq : pc + 3 = q) (hdg : decode cc pc = .ok (.invokestatic idx, 3)) (kk : V X q lv (rest) τ) : V X pc lv (a5 :: a4 :: a3 :: a2 :: a1 :: a0 :: rest) σ := V_callN C (As := [a0, a1, a2, a3, a4, a5]) hM hw hv hlink hroom rfl rfl hcat hq hdg (fun v σ2 h => by obtain ⟨rfl, rfl⟩ := h; exact kk)
theorem V_cV7r {X : CT} {own : String} {cc : ByteArray} {ret : Option FieldType} {fr lo : Nat} {pc q : Nat} {lv rest : List Value} {σ τ : ST} (C : Cx X own cc ret fr lo) {y : MethodName} {yc : ByteArray} {n idx k fr2 lo2 : Nat} {yret : Option FieldType} {a0 a1 a2 a3 a4 a5 a6 : Value} {r : Value} (hM : Ct (xl X) y yc n yret fr2 lo2 (xD X) (xad X) (.ref (xad X k) :: [a0, a1, a2, a3, a4, a5, a6]) σ (ex (some r) τ)) (hw : Cw y yc n yret 7) (hv : CwV y) (hlink : Cond.methodLink own idx y ∈ TT) (hk : k < 44) (hobj : ∃ (ci : Nat) (fs : List Value) (z : vw_C), cellF (xD X) (xad X) k (σ k) = .inr (ci, fs) ∧ vwCl[ci]? = some z ∧ z.1 = y.cls) (hroom : fr2 + 1 ≤ fr ∧ 8 + (n + 11) + lo2 ≤ lo) (hcat : (rest.map fun v => v.category).sum ≤ 8) (hq : pc + 3 = q) (hdg : decode cc pc = .ok (.invokevirtual idx, 3)) (kk : V X q lv (r :: rest) τ) : V X pc lv (a6 :: a5 :: a4 :: a3 :: a2 :: a1 :: a0 :: .ref (xad X k) :: rest) σ := V_callV C (As := [a0, a1, a2, a3, a4, a5, a6]) hM hw hv hlink hk hobj hroom rfl rfl hcat hq hdg (fun v σ2 h => by obtain ⟨rfl, rfl⟩ := h; exact kk)
theorem V_cS7r {X : CT} {own : String} {cc : ByteArray} {ret : Option FieldType} {fr lo : Nat} {pc q : Nat} {lv rest : List Value} {σ τ : ST} (C : Cx X own cc ret fr lo) {y : MethodName} {yc : ByteArray} {n idx fr2 lo2 : Nat} {yret : Option FieldType} {a0 a1 a2 a3 a4 a5 a6 : Value} {r : Value} (hM : Ct (xl X) y yc n yret fr2 lo2 (xD X) (xad X) [a0, a1, a2, a3, a4, a5, a6] σ (ex (some r) τ)) (hw : Cw y yc n yret 7) (hv : Cond.static y ∈ TT) (hlink : Cond.methodLink own idx y ∈ TT) (hroom : fr2 + 1 ≤ fr ∧ 8 + (n + 11) + lo2 ≤ lo) (hcat : (rest.map fun v => v.category).sum ≤ 8) (hq : pc + 3 = q) (hdg : decode cc pc = .ok (.invokestatic idx, 3)) (kk : V X q lv (r :: rest) τ) : V X pc lv (a6 :: a5 :: a4 :: a3 :: a2 :: a1 :: a0 :: rest) σ := V_callS C (As := [a0, a1, a2, a3, a4, a5, a6]) hM hw hv hlink hroom rfl rfl hcat hq hdg (fun v σ2 h => by obtain ⟨rfl, rfl⟩ := h; exact kk)
theorem V_cN7r {X : CT} {own : String} {cc : ByteArray} {ret : Option FieldType} {fr lo : Nat} {pc q : Nat} {lv rest : List Value} {σ τ : ST} (C : Cx X own cc ret fr lo) {y : MethodName} {yc : ByteArray} {n idx fr2 lo2 : Nat} {yret : Option FieldType} {a0 a1 a2 a3 a4 a5 a6 : Value} {r : Value} (hM : Ct (xl X) y yc n yret fr2 lo2 (xD X) (xad X) [a0, a1, a2, a3, a4, a5, a6] σ (ex (some r) τ)) (hw : Cw y yc n yret 7) (hv : Cond.static y ∈ TT) {host : String} (hlink : va_Nw (.methodLinkNest own idx y host) (xs X)) (hroom : fr2 + 1 ≤ fr ∧ 8 + (n + 11) + lo2 ≤ lo) (hcat : (rest.map fun v => v.category).sum ≤ 8) (hq : pc + 3 = q) (hdg : decode cc pc = .ok (.invokestatic idx, 3)) (kk : V X q lv (r :: rest) τ) : V X pc lv (a6 :: a5 :: a4 :: a3 :: a2 :: a1 :: a0 :: rest) σ := V_callN C (As := [a0, a1, a2, a3, a4, a5, a6]) hM hw hv hlink hroom rfl rfl hcat hq hdg (fun v σ2 h => by obtain ⟨rfl, rfl⟩ := h; exact kk)
theorem V_cV7v {X : CT} {own : String} {cc : ByteArray} {ret : Option FieldType} {fr lo : Nat} {pc q : Nat} {lv rest : List Value} {σ τ : ST} (C : Cx X own cc ret fr lo) {y : MethodName} {yc : ByteArray} {n idx k fr2 lo2 : Nat} {yret : Option FieldType} {a0 a1 a2 a3 a4 a5 a6 : Value} (hM : Ct (xl X) y yc n yret fr2 lo2 (xD X) (xad X) (.ref (xad X k) :: [a0, a1, a2, a3, a4, a5, a6]) σ (ex none τ)) (hw : Cw y yc n yret 7) (hv : CwV y) (hlink : Cond.methodLink own idx y ∈ TT) (hk : k < 44) (hobj : ∃ (ci : Nat) (fs : List Value) (z : vw_C), cellF (xD X) (xad X) k (σ k) = .inr (ci, fs) ∧ vwCl[ci]? = some z ∧ z.1 = y.cls) (hroom : fr2 + 1 ≤ fr ∧ 8 + (n + 11) + lo2 ≤ lo) (hcat : (rest.map fun v => v.category).sum ≤ 8) (hq : pc + 3 = q) (hdg : decode cc pc = .ok (.invokevirtual idx, 3)) (kk : V X q lv (rest) τ) : V X pc lv (a6 :: a5 :: a4 :: a3 :: a2 :: a1 :: a0 :: .ref (xad X k) :: rest) σ := V_callV C (As := [a0, a1, a2, a3, a4, a5, a6]) hM hw hv hlink hk hobj hroom rfl rfl hcat hq hdg (fun v σ2 h => by obtain ⟨rfl, rfl⟩ := h; exact kk)
theorem V_cS7v {X : CT} {own : String} {cc : ByteArray} {ret : Option FieldType} {fr lo : Nat} {pc q : Nat} {lv rest : List Value} {σ τ : ST} (C : Cx X own cc ret fr lo) {y : MethodName} {yc : ByteArray} {n idx fr2 lo2 : Nat} {yret : Option FieldType} {a0 a1 a2 a3 a4 a5 a6 : Value} (hM : Ct (xl X) y yc n yret fr2 lo2 (xD X) (xad X) [a0, a1, a2, a3, a4, a5, a6] σ (ex none τ)) (hw : Cw y yc n yret 7) (hv : Cond.static y ∈ TT) (hlink : Cond.methodLink own idx y ∈ TT) (hroom : fr2 + 1 ≤ fr ∧ 8 + (n + 11) + lo2 ≤ lo) (hcat : (rest.map fun v => v.category).sum ≤ 8) (hq : pc + 3 = q) (hdg : decode cc pc = .ok (.invokestatic idx, 3)) (kk : V X q lv (rest) τ) : V X pc lv (a6 :: a5 :: a4 :: a3 :: a2 :: a1 :: a0 :: rest) σ := V_callS C (As := [a0, a1, a2, a3, a4, a5, a6]) hM hw hv hlink hroom rfl rfl hcat hq hdg (fun v σ2 h => by obtain ⟨rfl, rfl⟩ := h; exact kk)
theorem V_cN7v {X : CT} {own : String} {cc : ByteArray} {ret : Option FieldType} {fr lo : Nat} {pc q : Nat} {lv rest : List Value} {σ τ : ST} (C : Cx X own cc ret fr lo) {y : MethodName} {yc : ByteArray} {n idx fr2 lo2 : Nat} {yret : Option FieldType} {a0 a1 a2 a3 a4 a5 a6 : Value} (hM : Ct (xl X) y yc n yret fr2 lo2 (xD X) (xad X) [a0, a1, a2, a3, a4, a5, a6] σ (ex none τ)) (hw : Cw y yc n yret 7) (hv : Cond.static y ∈ TT) {host : String} (hlink : va_Nw (.methodLinkNest own idx y host) (xs X)) (hroom : fr2 + 1 ≤ fr ∧ 8 + (n + 11) + lo2 ≤ lo) (hcat : (rest.map fun v => v.category).sum ≤ 8) (hq : pc + 3 = q) (hdg : decode cc pc = .ok (.invokestatic idx, 3)) (kk : V X q lv (rest) τ) : V X pc lv (a6 :: a5 :: a4 :: a3 :: a2 :: a1 :: a0 :: rest) σ := V_callN C (As := [a0, a1, a2, a3, a4, a5, a6]) hM hw hv hlink hroom rfl rfl hcat hq hdg (fun v σ2 h => by obtain ⟨rfl, rfl⟩ := h; exact kk)
theorem V_cV8r {X : CT} {own : String} {cc : ByteArray} {ret : Option FieldType} {fr lo : Nat} {pc q : Nat} {lv rest : List Value} {σ τ : ST} (C : Cx X own cc ret fr lo) {y : MethodName} {yc : ByteArray} {n idx k fr2 lo2 : Nat} {yret : Option FieldType} {a0 a1 a2 a3 a4 a5 a6 a7 : Value} {r : Value} (hM : Ct (xl X) y yc n yret fr2 lo2 (xD X) (xad X) (.ref (xad X k) :: [a0, a1, a2, a3, a4, a5, a6, a7]) σ (ex (some r) τ)) (hw : Cw y yc n yret 8) (hv : CwV y) (hlink : Cond.methodLink own idx y ∈ TT) (hk : k < 44) (hobj : ∃ (ci : Nat) (fs : List Value) (z : vw_C), cellF (xD X) (xad X) k (σ k) = .inr (ci, fs) ∧ vwCl[ci]? = some z ∧ z.1 = y.cls) (hroom : fr2 + 1 ≤ fr ∧ 8 + (n + 11) + lo2 ≤ lo) (hcat : (rest.map fun v => v.category).sum ≤ 8) (hq : pc + 3 = q) (hdg : decode cc pc = .ok (.invokevirtual idx, 3)) (kk : V X q lv (r :: rest) τ) : V X pc lv (a7 :: a6 :: a5 :: a4 :: a3 :: a2 :: a1 :: a0 :: .ref (xad X k) :: rest) σ := V_callV C (As := [a0, a1, a2, a3, a4, a5, a6, a7]) hM hw hv hlink hk hobj hroom rfl rfl hcat hq hdg (fun v σ2 h => by obtain ⟨rfl, rfl⟩ := h; exact kk)
theorem V_cS8r {X : CT} {own : String} {cc : ByteArray} {ret : Option FieldType} {fr lo : Nat} {pc q : Nat} {lv rest : List Value} {σ τ : ST} (C : Cx X own cc ret fr lo) {y : MethodName} {yc : ByteArray} {n idx fr2 lo2 : Nat} {yret : Option FieldType} {a0 a1 a2 a3 a4 a5 a6 a7 : Value} {r : Value} (hM : Ct (xl X) y yc n yret fr2 lo2 (xD X) (xad X) [a0, a1, a2, a3, a4, a5, a6, a7] σ (ex (some r) τ)) (hw : Cw y yc n yret 8) (hv : Cond.static y ∈ TT) (hlink : Cond.methodLink own idx y ∈ TT) (hroom : fr2 + 1 ≤ fr ∧ 8 + (n + 11) + lo2 ≤ lo) (hcat : (rest.map fun v => v.category).sum ≤ 8) (hq : pc + 3 = q) (hdg : decode cc pc = .ok (.invokestatic idx, 3)) (kk : V X q lv (r :: rest) τ) : V X pc lv (a7 :: a6 :: a5 :: a4 :: a3 :: a2 :: a1 :: a0 :: rest) σ := V_callS C (As := [a0, a1, a2, a3, a4, a5, a6, a7]) hM hw hv hlink hroom rfl rfl hcat hq hdg (fun v σ2 h => by obtain ⟨rfl, rfl⟩ := h; exact kk)
theorem V_cN8r {X : CT} {own : String} {cc : ByteArray} {ret : Option FieldType} {fr lo : Nat} {pc q : Nat} {lv rest : List Value} {σ τ : ST} (C : Cx X own cc ret fr lo) {y : MethodName} {yc : ByteArray} {n idx fr2 lo2 : Nat} {yret : Option FieldType} {a0 a1 a2 a3 a4 a5 a6 a7 : Value} {r : Value} (hM : Ct (xl X) y yc n yret fr2 lo2 (xD X) (xad X) [a0, a1, a2, a3, a4, a5, a6, a7] σ (ex (some r) τ)) (hw : Cw y yc n yret 8) (hv : Cond.static y ∈ TT) {host : String} (hlink : va_Nw (.methodLinkNest own idx y host) (xs X)) (hroom : fr2 + 1 ≤ fr ∧ 8 + (n + 11) + lo2 ≤ lo) (hcat : (rest.map fun v => v.category).sum ≤ 8) (hq : pc + 3 = q) (hdg : decode cc pc = .ok (.invokestatic idx, 3)) (kk : V X q lv (r :: rest) τ) : V X pc lv (a7 :: a6 :: a5 :: a4 :: a3 :: a2 :: a1 :: a0 :: rest) σ := V_callN C (As := [a0, a1, a2, a3, a4, a5, a6, a7]) hM hw hv hlink hroom rfl rfl hcat hq hdg (fun v σ2 h => by obtain ⟨rfl, rfl⟩ := h; exact kk)
theorem V_cV8v {X : CT} {own : String} {cc : ByteArray} {ret : Option FieldType} {fr lo : Nat} {pc q : Nat} {lv rest : List Value} {σ τ : ST} (C : Cx X own cc ret fr lo) {y : MethodName} {yc : ByteArray} {n idx k fr2 lo2 : Nat} {yret : Option FieldType} {a0 a1 a2 a3 a4 a5 a6 a7 : Value} (hM : Ct (xl X) y yc n yret fr2 lo2 (xD X) (xad X) (.ref (xad X k) :: [a0, a1, a2, a3, a4, a5, a6, a7]) σ (ex none τ)) (hw : Cw y yc n yret 8) (hv : CwV y) (hlink : Cond.methodLink own idx y ∈ TT) (hk : k < 44) (hobj : ∃ (ci : Nat) (fs : List Value) (z : vw_C), cellF (xD X) (xad X) k (σ k) = .inr (ci, fs) ∧ vwCl[ci]? = some z ∧ z.1 = y.cls) (hroom : fr2 + 1 ≤ fr ∧ 8 + (n + 11) + lo2 ≤ lo) (hcat : (rest.map fun v => v.category).sum ≤ 8) (hq : pc + 3 = q) (hdg : decode cc pc = .ok (.invokevirtual idx, 3)) (kk : V X q lv (rest) τ) : V X pc lv (a7 :: a6 :: a5 :: a4 :: a3 :: a2 :: a1 :: a0 :: .ref (xad X k) :: rest) σ := V_callV C (As := [a0, a1, a2, a3, a4, a5, a6, a7]) hM hw hv hlink hk hobj hroom rfl rfl hcat hq hdg (fun v σ2 h => by obtain ⟨rfl, rfl⟩ := h; exact kk)
theorem V_cS8v {X : CT} {own : String} {cc : ByteArray} {ret : Option FieldType} {fr lo : Nat} {pc q : Nat} {lv rest : List Value} {σ τ : ST} (C : Cx X own cc ret fr lo) {y : MethodName} {yc : ByteArray} {n idx fr2 lo2 : Nat} {yret : Option FieldType} {a0 a1 a2 a3 a4 a5 a6 a7 : Value} (hM : Ct (xl X) y yc n yret fr2 lo2 (xD X) (xad X) [a0, a1, a2, a3, a4, a5, a6, a7] σ (ex none τ)) (hw : Cw y yc n yret 8) (hv : Cond.static y ∈ TT) (hlink : Cond.methodLink own idx y ∈ TT) (hroom : fr2 + 1 ≤ fr ∧ 8 + (n + 11) + lo2 ≤ lo) (hcat : (rest.map fun v => v.category).sum ≤ 8) (hq : pc + 3 = q) (hdg : decode cc pc = .ok (.invokestatic idx, 3)) (kk : V X q lv (rest) τ) : V X pc lv (a7 :: a6 :: a5 :: a4 :: a3 :: a2 :: a1 :: a0 :: rest) σ := V_callS C (As := [a0, a1, a2, a3, a4, a5, a6, a7]) hM hw hv hlink hroom rfl rfl hcat hq hdg (fun v σ2 h => by obtain ⟨rfl, rfl⟩ := h; exact kk)
theorem V_cN8v {X : CT} {own : String} {cc : ByteArray} {ret : Option FieldType} {fr lo : Nat} {pc q : Nat} {lv rest : List Value} {σ τ : ST} (C : Cx X own cc ret fr lo) {y : MethodName} {yc : ByteArray} {n idx fr2 lo2 : Nat} {yret : Option FieldType} {a0 a1 a2 a3 a4 a5 a6 a7 : Value} (hM : Ct (xl X) y yc n yret fr2 lo2 (xD X) (xad X) [a0, a1, a2, a3, a4, a5, a6, a7] σ (ex none τ)) (hw : Cw y yc n yret 8) (hv : Cond.static y ∈ TT) {host : String} (hlink : va_Nw (.methodLinkNest own idx y host) (xs X)) (hroom : fr2 + 1 ≤ fr ∧ 8 + (n + 11) + lo2 ≤ lo) (hcat : (rest.map fun v => v.category).sum ≤ 8) (hq : pc + 3 = q) (hdg : decode cc pc = .ok (.invokestatic idx, 3)) (kk : V X q lv (rest) τ) : V X pc lv (a7 :: a6 :: a5 :: a4 :: a3 :: a2 :: a1 :: a0 :: rest) σ := V_callN C (As := [a0, a1, a2, a3, a4, a5, a6, a7]) hM hw hv hlink hroom rfl rfl hcat hq hdg (fun v σ2 h => by obtain ⟨rfl, rfl⟩ := h; exact kk)
end
section
/-! more of the layer: a method's entry, rows of arrays that agree, truth as a number, loops -/
theorem Ct.of2 {l : Launch} {y : MethodName} {cc : ByteArray} {n : Nat} {ret : Option FieldType} {fr lo : Nat} {D : DD} {ad : Nat → Nat} {av : List Value} {σ : ST} {post : Option Value → ST → Prop} (lv : List Value) (hy : plainName y.cls = true) (hn : (lg_sl av).length ≤ n) (hlv : al lv = lv_args 0 av)
    (body : ∀ X : CT, Cx X y.cls cc ret fr lo → D = xD X → ad = xad X → l = xl X → n = xn X → Rt X post → V X 0 lv [] σ) : Ct l y cc n ret fr lo D ad av σ post := by
  intro sz
  refine Met.ofW (cc := cc) (maxL := n) (ret := ret) hy rfl ?_
  intro p e s m args below meth c s₁ B hml hv
  obtain ⟨rfl, hsz, hP, hK, hI, hSS⟩ := hv
  subst hsz
  have hts := atoms_spec (ws := (.code y cc n ret :: TT)) B.pre
  have hl := lv_entry av (n := n) hn
  rw [lg_entry_eq]
  exact body ((p, l, e, (headSpec (.code y cc n ret :: TT) (rmOf fr lo)).room), (s, m, av.toArray, below), (meth, c, 0, 0, MQ below (Qm D ad (Aof D ad s.heap.size) post) av.toArray s 0 0 (Aof D ad s.heap.size)), (D, ad, Aof D ad s.heap.size, n))
    ⟨B.exec, B.bytes, hml, B.returns, B.notSynchronized, findClass_of_methodNamed B.named, fun w hw => hts w (List.mem_cons_of_mem _ hw), hK, ⟨hI, hSS.1, hSS.2.1, hSS.out⟩, fun q h => Or.inr h, fun k hk => Or.inl ⟨k, hk, rfl⟩, Nat.le_refl _, Nat.le_refl _, Nat.le_refl _, Nat.le_refl _⟩
    rfl rfl rfl rfl rfl s.heap [] _ hP va_S.rf ⟨hl.1, hl.2.1, by rw [hlv]; exact hl.2.2⟩
section VMORE
variable {X : CT} {own : String} {cc : ByteArray} {ret : Option FieldType} {fr lo : Nat} {pc q : Nat} {lv st : List Value} {σ τ : ST}
theorem V_eq (h : σ = τ) (k : V X pc lv st τ) : V X pc lv st σ := h ▸ k
theorem arrV_congr {cA : ClassId} {n : Nat} {f g : Nat → Value} (h : ∀ i, i < n → f i = g i) : arrV cA n f = arrV cA n g := by
  unfold arrV
  congr 2
  funext j
  exact h j.val j.isLt
theorem V_arr_congr {k : Nat} {f g : Nat → Int32} (ha : akind k = 1 ∨ akind k = 2) (h : ∀ i, i < alen k → f i = g i) (kk : V X pc lv st (setc σ k g)) : V X pc lv st (setc σ k f) := by
  intro H locs ls hP hS hl
  refine kk H locs ls ?_ hS hl
  intro i q hq
  have hi : i < 44 + fl (xD X) := by have := (List.getElem?_eq_some_iff.mp hq).1; rwa [wAll_len] at this
  have h1 := hP i _ (wAll_at hi)
  rw [wAll_at hi] at hq
  rw [← Option.some.inj hq]
  by_cases hik : i = k
  · subst hik
    rw [setc_s] at h1 ⊢
    rcases ha with ha | ha
    · rw [cellF_i ha] at h1 ⊢
      refine Eq.trans h1 (congrArg some ?_)
      show vp_cell _ _ = vp_cell _ _
      rw [vp_cell_i, vp_cell_i]
      exact arrV_congr (fun j hj => by rw [h j hj])
    · rw [cellF_z ha] at h1 ⊢
      refine Eq.trans h1 (congrArg some ?_)
      show vp_cell _ _ = vp_cell _ _
      rw [vp_cell_i, vp_cell_i]
      exact arrV_congr (fun j hj => by rw [h j hj])
  · rw [setc_n hik] at h1 ⊢
    exact h1
end VMORE
def pI (P : Prop) [Decidable P] : Int32 := if P then 1 else 0
theorem pI_t {P : Prop} [Decidable P] (h : P) : pI P = 1 := if_pos h
theorem pI_f {P : Prop} [Decidable P] (h : ¬ P) : pI P = 0 := if_neg h
theorem pI_nar {P : Prop} [Decidable P] : narrow .boolean (.int (pI P)) = .int (pI P) := by
  by_cases h : P
  · rw [pI_t h]; rfl
  · rw [pI_f h]; rfl
theorem pI_vp {P : Prop} [Decidable P] : vp_nar .boolean (pI P) = pI P := by
  by_cases h : P
  · rw [pI_t h]; rfl
  · rw [pI_f h]; rfl
theorem pI_0 {P : Prop} [Decidable P] : pI P = 0 ↔ ¬ P := by
  by_cases h : P
  · rw [pI_t h]; exact ⟨fun q => absurd q (by decide), fun q => absurd h q⟩
  · rw [pI_f h]; exact ⟨fun _ => h, fun _ => rfl⟩
theorem pI_1 {P : Prop} [Decidable P] : pI P = 1 ↔ P := by
  by_cases h : P
  · rw [pI_t h]; exact ⟨fun _ => h, fun _ => rfl⟩
  · rw [pI_f h]; exact ⟨fun q => absurd q (by decide), fun q => absurd q h⟩
theorem pI_congr {P Q : Prop} [Decidable P] [Decidable Q] (h : P ↔ Q) : pI P = pI Q := by
  by_cases hp : P
  · rw [pI_t hp, pI_t (h.mp hp)]
  · rw [pI_f hp, pI_f (fun q => hp (h.mpr q))]
abbrev bit (x i : Int32) : Prop := ¬ ((x >>> (i &&& 31)) &&& 1 = 0)
abbrev isT (n t : Int32) : Prop := ¬ t < 0 ∧ ¬ n ≤ t
section VIFP
variable {X : CT} {own : String} {cc : ByteArray} {ret : Option FieldType} {fr lo : Nat} {pc q : Nat} {lv st : List Value} {σ τ : ST}
theorem V_ifp_eq (C : Cx X own cc ret fr lo) {P : Prop} [Decidable P] {off : Int} {tgt : Nat} (hq : pc + 3 = q) (ht : (pc : Int) + off = (tgt : Int)) (hdg : decode cc pc = .ok (.ifCond .eq off, 3)) (kt : ¬ P → V X tgt lv st σ) (kf : P → V X q lv st σ) : V X pc lv (.int (pI P) :: st) σ := V_if_eq C hq ht hdg (fun h => kt (pI_0.mp h)) (fun h => kf (Decidable.of_not_not (fun n => h (pI_0.mpr n))))
theorem V_ifp_ne (C : Cx X own cc ret fr lo) {P : Prop} [Decidable P] {off : Int} {tgt : Nat} (hq : pc + 3 = q) (ht : (pc : Int) + off = (tgt : Int)) (hdg : decode cc pc = .ok (.ifCond .ne off, 3)) (kt : P → V X tgt lv st σ) (kf : ¬ P → V X q lv st σ) : V X pc lv (.int (pI P) :: st) σ := V_if_ne C hq ht hdg (fun h => kt (Decidable.of_not_not (fun n => h (pI_0.mpr n)))) (fun h => kf (pI_0.mp h))
theorem V_ifp_eq_t (C : Cx X own cc ret fr lo) {P : Prop} [Decidable P] {off : Int} {tgt : Nat} (h : ¬ P) (ht : (pc : Int) + off = (tgt : Int)) (hdg : decode cc pc = .ok (.ifCond .eq off, 3)) (kt : V X tgt lv st σ) : V X pc lv (.int (pI P) :: st) σ := V_ifp_eq C rfl ht hdg (fun _ => kt) (fun n => absurd n h)
theorem V_ifp_eq_f (C : Cx X own cc ret fr lo) {P : Prop} [Decidable P] {off : Int} {tgt : Nat} (h : P) (hq : pc + 3 = q) (ht : (pc : Int) + off = (tgt : Int)) (hdg : decode cc pc = .ok (.ifCond .eq off, 3)) (kf : V X q lv st σ) : V X pc lv (.int (pI P) :: st) σ := V_ifp_eq C hq ht hdg (fun n => absurd h n) (fun _ => kf)
theorem V_ifp_ne_t (C : Cx X own cc ret fr lo) {P : Prop} [Decidable P] {off : Int} {tgt : Nat} (h : P) (ht : (pc : Int) + off = (tgt : Int)) (hdg : decode cc pc = .ok (.ifCond .ne off, 3)) (kt : V X tgt lv st σ) : V X pc lv (.int (pI P) :: st) σ := V_ifp_ne C rfl ht hdg (fun _ => kt) (fun n => absurd h n)
theorem V_ifp_ne_f (C : Cx X own cc ret fr lo) {P : Prop} [Decidable P] {off : Int} {tgt : Nat} (h : ¬ P) (hq : pc + 3 = q) (ht : (pc : Int) + off = (tgt : Int)) (hdg : decode cc pc = .ok (.ifCond .ne off, 3)) (kf : V X q lv st σ) : V X pc lv (.int (pI P) :: st) σ := V_ifp_ne C hq ht hdg (fun n => absurd n h) (fun _ => kf)
end VIFP
/-- a loop that is gone through n times: from its end to its beginning -/
theorem loopN {P : Nat → Prop} (n : Nat) (hx : P n) (hs : ∀ i, i < n → P (i + 1) → P i) : ∀ j, j ≤ n → P j := by
  intro j hj
  obtain ⟨d, rfl⟩ : ∃ d, n = j + d := ⟨n - j, by omega⟩
  clear hj
  induction d generalizing j with
  | zero => exact hx
  | succ d ih =>
    have h1 : P (j + 1) := ih (j + 1) (by rw [show j + 1 + d = j + (d + 1) by omega]; exact hx) (fun i hi => hs i (by omega))
    exact hs j (by omega) h1
theorem nI_inc {a : Nat} : nI a + Int32.ofInt 1 = nI (a + 1) := nI_1 a
theorem isT_of {n t : Int32} {N : Nat} (h : isT n t) (hn : n = nI N) (hN : N < 2 ^ 31) : ∃ j : Nat, j < N ∧ t = nI j := by
  obtain ⟨j, hj, rfl⟩ := nI_of h.1
  refine ⟨j, ?_, rfl⟩
  have := h.2
  rw [hn, nI_leI hN hj] at this
  omega
theorem isT_nI {j N : Nat} (h : j < N) (hN : N < 2 ^ 31) : isT (nI N) (nI j) := ⟨nI_pos (by omega), nI_ge h hN⟩
theorem V_topi {X : CT} {pc : Nat} {lv st : List Value} {σ : ST} {x : Int32} (k : ∀ y : Int32, y = x → V X pc lv (.int y :: st) σ) : V X pc lv (.int x :: st) σ := k x rfl
def ush (x y : Int32) : Int32 := (x.toUInt32 >>> (y.toUInt32 &&& Int32.toUInt32 31)).toInt32
def pc1 (x : Int32) : Int32 := x - (ush x 1 &&& 1431655765)
def pc2 (x : Int32) : Int32 := (x &&& 858993459) + (ush x 2 &&& 858993459)
def pc3 (x : Int32) : Int32 := (x + ush x 4) &&& 252645135
def pc4 (x : Int32) : Int32 := x + ush x 8
def pc5 (x : Int32) : Int32 := (x + ush x 16) &&& 63
def popc (x : Int32) : Int32 := pc5 (pc4 (pc3 (pc2 (pc1 x))))
theorem setc_id {σ : ST} {k : Nat} : setc σ k (σ k) = σ := funext fun j => by
  by_cases h : j = k
  · rw [h, setc_s]
  · rw [setc_n h]
theorem setc_setc {σ : ST} {k : Nat} {f g : Nat → Int32} : setc (setc σ k f) k g = setc σ k g := funext fun j => by
  by_cases h : j = k
  · rw [h, setc_s, setc_s]
  · rw [setc_n h, setc_n h, setc_n h]
theorem setc_comm {σ : ST} {k j : Nat} {f g : Nat → Int32} (h : k ≠ j) : setc (setc σ k f) j g = setc (setc σ j g) k f := funext fun t => by
  by_cases h1 : t = k
  · subst h1; rw [setc_n h, setc_s, setc_s]
  · by_cases h2 : t = j
    · subst h2; rw [setc_s, setc_n h1, setc_s]
    · rw [setc_n h2, setc_n h1, setc_n h1, setc_n h2]
/-- the first i places by f, the others by g -/
def pre (i : Nat) (f g : Nat → Int32) : Nat → Int32 := fun t => if t < i then f t else g t
theorem pre_lt {i t : Nat} {f g : Nat → Int32} (h : t < i) : pre i f g t = f t := if_pos h
theorem pre_ge {i t : Nat} {f g : Nat → Int32} (h : ¬ t < i) : pre i f g t = g t := if_neg h
theorem pre_0 {f g : Nat → Int32} : pre 0 f g = g := funext fun t => if_neg (Nat.not_lt_zero t)
theorem pre_step {i : Nat} {f g : Nat → Int32} {x : Int32} (h : x = f i) : upd (pre i f g) i x = pre (i + 1) f g := funext fun t => by
  unfold upd
  by_cases h1 : t = i
  · subst h1
    rw [if_pos rfl, pre_lt (Nat.lt_succ_self t), h]
  · rw [if_neg h1]
    by_cases h2 : t < i
    · rw [pre_lt h2, pre_lt (by omega)]
    · rw [pre_ge h2, pre_ge (by omega)]
theorem pre_keep {i : Nat} {f g : Nat → Int32} (h : f i = g i) : pre i f g = pre (i + 1) f g := funext fun t => by
  by_cases h1 : t = i
  · subst h1
    rw [pre_ge (Nat.lt_irrefl t), pre_lt (Nat.lt_succ_self t), h]
  · by_cases h2 : t < i
    · rw [pre_lt h2, pre_lt (by omega)]
    · rw [pre_ge h2, pre_ge (by omega)]
section VSW
variable {X : CT} {own : String} {cc : ByteArray} {ret : Option FieldType} {fr lo : Nat} {pc q : Nat} {lv st : List Value} {σ : ST}
theorem V_look2 (C : Cx X own cc ret fr lo) {dflt a oa b ob : Int} {len ta tb td : Nat} {x va vb : Int32} (hva : va.toInt = a) (hvb : vb.toInt = b) (hp : (([(a, oa), (b, ob)] : List (Int × Int)).zip [(b, ob)]).all (fun (a, next) => a.1 < next.1) = true) (h1 : (pc : Int) + oa = (ta : Int)) (h2 : (pc : Int) + ob = (tb : Int)) (h3 : (pc : Int) + dflt = (td : Int)) (hdg : decode cc pc = .ok (.lookupswitch dflt #[(a, oa), (b, ob)], len)) (k1 : x = va → V X ta lv st σ) (k2 : x = vb → V X tb lv st σ) (k3 : ¬ x = va → ¬ x = vb → V X td lv st σ) : V X pc lv (.int x :: st) σ := by
  by_cases e1 : x = va
  · refine V_lookup C (off := oa) hp ?_ h1 hdg (k1 e1)
    rw [e1, hva]
    simp [Op.lookupswitch.offset]
  · by_cases e2 : x = vb
    · refine V_lookup C (off := ob) hp ?_ h2 hdg (k2 e2)
      show Op.lookupswitch.offset [(a, oa), (b, ob)] dflt x.toInt = ob
      rw [lv_osw e1 hva, e2, hvb]
      simp [Op.lookupswitch.offset]
    · refine V_lookup C (off := dflt) hp ?_ h3 hdg (k3 e1 e2)
      show Op.lookupswitch.offset [(a, oa), (b, ob)] dflt x.toInt = dflt
      rw [lv_osw e1 hva, lv_osw e2 hvb]
      simp [Op.lookupswitch.offset]
theorem V_tab (C : Cx X own cc ret fr lo) {dflt hi : Int} {offs : Array Int} {len n td : Nat} {x : Int32} (tg : Nat → Nat) (hn : hi + 1 = (n : Int)) (hn2 : n < 2 ^ 31) (htg : ∀ j, j < n → ∃ o, offs[j]? = some o ∧ (pc : Int) + o = (tg j : Int)) (h3 : (pc : Int) + dflt = (td : Int)) (hdg : decode cc pc = .ok (.tableswitch dflt 0 hi offs, len)) (k : ∀ j : Nat, j < n → x = nI j → V X (tg j) lv st σ) (kd : (∀ j : Nat, j < n → ¬ x = nI j) → V X td lv st σ) : V X pc lv (.int x :: st) σ := by
  by_cases h : ∃ j : Nat, j < n ∧ x = nI j
  · obtain ⟨j, hj, rfl⟩ := h
    obtain ⟨o, ho, ht⟩ := htg j hj
    have e : (nI j).toInt = (j : Int) := nI_toInt (by omega)
    refine V_tableIn C (off := o) (by rw [e]; omega) (by rw [e]; omega) ?_ ht hdg (k j hj rfl)
    rw [e, show ((j : Int) - 0).toNat = j by omega]
    exact ho
  · refine V_tableOut C ?_ h3 hdg (kd fun j hj e => h ⟨j, hj, e⟩)
    by_cases h0 : x.toInt < 0
    · exact Or.inl h0
    · refine Or.inr ?_
      rcases Int.lt_or_le hi x.toInt with h2 | h2
      · exact h2
      · exfalso
        refine h ⟨x.toInt.toNat, by omega, ?_⟩
        refine Int32.toInt_inj.mp ?_
        rw [nI_toInt (by omega)]
        omega
end VSW
section VSW3
variable {X : CT} {own : String} {cc : ByteArray} {ret : Option FieldType} {fr lo : Nat} {pc q : Nat} {lv st : List Value} {σ : ST}
theorem V_look3 (C : Cx X own cc ret fr lo) {dflt a oa b ob d od : Int} {len ta tb tc td : Nat} {x va vb vd : Int32} (hva : va.toInt = a) (hvb : vb.toInt = b) (hvd : vd.toInt = d) (hp : (([(a, oa), (b, ob), (d, od)] : List (Int × Int)).zip [(b, ob), (d, od)]).all (fun (a, next) => a.1 < next.1) = true) (h1 : (pc : Int) + oa = (ta : Int)) (h2 : (pc : Int) + ob = (tb : Int)) (h4 : (pc : Int) + od = (tc : Int)) (h3 : (pc : Int) + dflt = (td : Int)) (hdg : decode cc pc = .ok (.lookupswitch dflt #[(a, oa), (b, ob), (d, od)], len)) (k1 : x = va → V X ta lv st σ) (k2 : x = vb → V X tb lv st σ) (k4 : x = vd → V X tc lv st σ) (k3 : ¬ x = va → ¬ x = vb → ¬ x = vd → V X td lv st σ) : V X pc lv (.int x :: st) σ := by
  by_cases e1 : x = va
  · refine V_lookup C (off := oa) hp ?_ h1 hdg (k1 e1)
    rw [e1, hva]
    simp [Op.lookupswitch.offset]
  · by_cases e2 : x = vb
    · refine V_lookup C (off := ob) hp ?_ h2 hdg (k2 e2)
      show Op.lookupswitch.offset [(a, oa), (b, ob), (d, od)] dflt x.toInt = ob
      rw [lv_osw e1 hva, e2, hvb]
      simp [Op.lookupswitch.offset]
    · by_cases e4 : x = vd
      · refine V_lookup C (off := od) hp ?_ h4 hdg (k4 e4)
        show Op.lookupswitch.offset [(a, oa), (b, ob), (d, od)] dflt x.toInt = od
        rw [lv_osw e1 hva, lv_osw e2 hvb, e4, hvd]
        simp [Op.lookupswitch.offset]
      · refine V_lookup C (off := dflt) hp ?_ h3 hdg (k3 e1 e2 e4)
        show Op.lookupswitch.offset [(a, oa), (b, ob), (d, od)] dflt x.toInt = dflt
        rw [lv_osw e1 hva, lv_osw e2 hvb, lv_osw e4 hvd]
        simp [Op.lookupswitch.offset]
end VSW3
theorem V_weak4 {X : CT} {pc : Nat} {a0 a1 a2 a3 : Value} {st : List Value} {σ : ST} (k : V X pc [a0, a1, a2, .float 0] st σ) : V X pc [a0, a1, a2, a3] st σ := fun H locs ls hP hS hl => k H locs ls hP hS (LV.of hl fun i v hi hd => mem_al.mpr ⟨by
  have : i < 4 := (List.getElem?_eq_some_iff.mp hi).1
  have h2 : i = 0 ∨ i = 1 ∨ i = 2 ∨ i = 3 := by omega
  rcases h2 with rfl | rfl | rfl | rfl
  · exact hi
  · exact hi
  · exact hi
  · cases hi; exact absurd hd (by decide), hd⟩)
end
section
/-! leaves: JDK, ranges, bits -/
set_option maxHeartbeats 4000000 in
set_option maxRecDepth 100000 in
theorem c_J7_fill_53178 {l : Launch} {D : DD} {ad : Nat → Nat} (σ : ST) (k : Nat) (v : Int32) (ha : akind k = 1) (hk : k < 44) (hb : alen k < 2 ^ 31) : Ct l yJ7_fill_53178 cJ7_fill_53178 4 (Option.none : Option FieldType) 0 0 D ad [.ref (ad k), .int v] σ (ex none (setc σ k (fun _ => v))) := by
  refine Ct.of2 [.ref (ad k), .int v, .float 0, .float 0] rfl (Nat.le_of_ble_eq_true rfl) rfl ?_
  rintro X C rfl rfl rfl hxn hR
  have hn2 : 2 < xn X := by rw [← hxn]; decide
  have hn3 : 3 < xn X := by rw [← hxn]; decide
  refine V_iconst (q := 1) (v := (nI 0)) C rfl rfl dJ7_fill_53178_0 ?_
  refine V_istore_n_2 (q := 2) C hn2 rfl rfl dJ7_fill_53178_1 ?_
  refine V_aload_n_0 (q := 3) C rfl dJ7_fill_53178_2 ?_
  refine V_alen (q := 4) C ha hk rfl rfl dJ7_fill_53178_3 ?_
  refine V_istore_n_3 (q := 5) C hn3 rfl rfl dJ7_fill_53178_4 ?_
  have hx5 : V X 5 [.ref (xad X k), .int v, .int (nI (alen k)), .int (nI (alen k))] [] (setc σ k (pre (alen k) (fun _ => v) (σ k))) := by
    refine V_iload_n_2 (q := 6) C rfl dJ7_fill_53178_5 ?_
    refine V_iload_n_3 (q := 7) C rfl dJ7_fill_53178_6 ?_
    refine V_icmp_ge_t (tgt := 20) C (nI_le (Nat.le_refl _) hb) (by decide) dJ7_fill_53178_7 ?_
    refine V_arr_congr (g := fun _ => v) (Or.inl ha) (fun i hi => pre_lt hi) ?_
    refine V_vret C hR dJ7_fill_53178_20 ?_
    exact ⟨rfl, rfl⟩
  have hs5 : ∀ i : Nat, i < alen k → (V X 5 [.ref (xad X k), .int v, .int (nI (i + 1)), .int (nI (alen k))] [] (setc σ k (pre (i + 1) (fun _ => v) (σ k)))) → V X 5 [.ref (xad X k), .int v, .int (nI i), .int (nI (alen k))] [] (setc σ k (pre i (fun _ => v) (σ k))) := by
    intro i hi5 ih5
    refine V_iload_n_2 (q := 6) C rfl dJ7_fill_53178_5 ?_
    refine V_iload_n_3 (q := 7) C rfl dJ7_fill_53178_6 ?_
    refine V_icmp_ge_f (tgt := 20) C (nI_ge hi5 hb) rfl (by decide) dJ7_fill_53178_7 ?_
    refine V_aload_n_0 (q := 11) C rfl dJ7_fill_53178_10 ?_
    refine V_iload_n_2 (q := 12) C rfl dJ7_fill_53178_11 ?_
    refine V_iload_n_1 (q := 13) C rfl dJ7_fill_53178_12 ?_
    refine V_iast (q := 14) C i rfl hi5 ha hk hb rfl dJ7_fill_53178_13 ?_
    refine V_iinc_2 (q := 17) (n := 1) C nI_inc hn2 rfl rfl dJ7_fill_53178_14 ?_
    refine V_goto (tgt := 5) C (by decide) dJ7_fill_53178_17 ?_
    refine V_eq ?_ ih5
    unfold setf
    rw [setc_s, setc_setc, pre_step rfl]
  exact V_eq (by rw [pre_0, setc_id]) (loopN (P := fun i => V X 5 [.ref (xad X k), .int v, .int (nI i), .int (nI (alen k))] [] (setc σ k (pre i (fun _ => v) (σ k)))) (alen k) hx5 hs5 0 (Nat.zero_le _))


set_option maxHeartbeats 4000000 in
set_option maxRecDepth 100000 in
theorem c_X8_isDay {l : Launch} {D : DD} {ad : Nat → Nat} (σ : ST) (x : Int32)  : Ct l yX8_isDay cX8_isDay 1 (Option.some FieldType.boolean) 0 0 D ad [.int x] σ (ex (some (.int (pI (isT 30 x)))) σ) := by
  refine Ct.of2 [.int x] rfl (Nat.le_of_ble_eq_true rfl) rfl ?_
  rintro X C rfl rfl rfl hxn hR
  refine V_iload_n_0 (q := 1) C rfl dX8_isDay_0 ?_
  refine V_if_lt (tgt := 14) C rfl (by decide) dX8_isDay_1 (fun c1 => ?_) (fun c1 => ?_)
  · refine V_iconst (q := 15) (v := 0) C rfl rfl dX8_isDay_14 ?_
    refine V_zret C hR rfl dX8_isDay_15 ?_
    exact ⟨by simp [pI, c1], rfl⟩
  · refine V_iload_n_0 (q := 5) C rfl dX8_isDay_4 ?_
    refine V_bipush (q := 7) (v := 30) C (by decide) rfl dX8_isDay_5 ?_
    refine V_icmp_ge (tgt := 14) C rfl (by decide) dX8_isDay_7 (fun c7 => ?_) (fun c7 => ?_)
    · refine V_iconst (q := 15) (v := 0) C rfl rfl dX8_isDay_14 ?_
      refine V_zret C hR rfl dX8_isDay_15 ?_
      exact ⟨by simp [pI, c1, c7], rfl⟩
    · refine V_iconst (q := 11) (v := 1) C rfl rfl dX8_isDay_10 ?_
      refine V_goto (tgt := 15) C (by decide) dX8_isDay_11 ?_
      refine V_zret C hR rfl dX8_isDay_15 ?_
      exact ⟨by simp [pI, c1, c7], rfl⟩

set_option maxHeartbeats 4000000 in
set_option maxRecDepth 100000 in
theorem c_X8_isLane {l : Launch} {D : DD} {ad : Nat → Nat} (σ : ST) (x : Int32)  : Ct l yX8_isLane cX8_isLane 1 (Option.some FieldType.boolean) 0 0 D ad [.int x] σ (ex (some (.int (pI (isT 3 x)))) σ) := by
  refine Ct.of2 [.int x] rfl (Nat.le_of_ble_eq_true rfl) rfl ?_
  rintro X C rfl rfl rfl hxn hR
  refine V_iload_n_0 (q := 1) C rfl dX8_isLane_0 ?_
  refine V_if_lt (tgt := 13) C rfl (by decide) dX8_isLane_1 (fun c1 => ?_) (fun c1 => ?_)
  · refine V_iconst (q := 14) (v := 0) C rfl rfl dX8_isLane_13 ?_
    refine V_zret C hR rfl dX8_isLane_14 ?_
    exact ⟨by simp [pI, c1], rfl⟩
  · refine V_iload_n_0 (q := 5) C rfl dX8_isLane_4 ?_
    refine V_iconst (q := 6) (v := 3) C rfl rfl dX8_isLane_5 ?_
    refine V_icmp_ge (tgt := 13) C rfl (by decide) dX8_isLane_6 (fun c6 => ?_) (fun c6 => ?_)
    · refine V_iconst (q := 14) (v := 0) C rfl rfl dX8_isLane_13 ?_
      refine V_zret C hR rfl dX8_isLane_14 ?_
      exact ⟨by simp [pI, c1, c6], rfl⟩
    · refine V_iconst (q := 10) (v := 1) C rfl rfl dX8_isLane_9 ?_
      refine V_goto (tgt := 14) C (by decide) dX8_isLane_10 ?_
      refine V_zret C hR rfl dX8_isLane_14 ?_
      exact ⟨by simp [pI, c1, c6], rfl⟩

set_option maxHeartbeats 4000000 in
set_option maxRecDepth 100000 in
theorem c_X8_isIn {l : Launch} {D : DD} {ad : Nat → Nat} (σ : ST) (x i : Int32)  : Ct l yX8_isIn cX8_isIn 2 (Option.some FieldType.boolean) 0 0 D ad [.int x, .int i] σ (ex (some (.int (pI (bit x i)))) σ) := by
  refine Ct.of2 [.int x, .int i] rfl (Nat.le_of_ble_eq_true rfl) rfl ?_
  rintro X C rfl rfl rfl hxn hR
  refine V_iload_n_0 (q := 1) C rfl dX8_isIn_0 ?_
  refine V_iload_n_1 (q := 2) C rfl dX8_isIn_1 ?_
  refine V_ishr (q := 3) C rfl dX8_isIn_2 ?_
  refine V_iconst (q := 4) (v := 1) C rfl rfl dX8_isIn_3 ?_
  refine V_iand (q := 5) C rfl dX8_isIn_4 ?_
  refine V_if_eq (tgt := 12) C rfl (by decide) dX8_isIn_5 (fun c5 => ?_) (fun c5 => ?_)
  · refine V_iconst (q := 13) (v := 0) C rfl rfl dX8_isIn_12 ?_
    refine V_zret C hR rfl dX8_isIn_13 ?_
    exact ⟨by simp [pI, c5], rfl⟩
  · refine V_iconst (q := 9) (v := 1) C rfl rfl dX8_isIn_8 ?_
    refine V_goto (tgt := 13) C (by decide) dX8_isIn_9 ?_
    refine V_zret C hR rfl dX8_isIn_13 ?_
    exact ⟨by simp [pI, c5], rfl⟩

set_option maxHeartbeats 4000000 in
set_option maxRecDepth 100000 in
theorem c_X1_isPlanted {l : Launch} {D : DD} {ad : Nat → Nat} (σ : ST)  : Ct l yX1_isPlanted cX1_isPlanted 1 (Option.some FieldType.boolean) 0 0 D ad [.ref (ad 12)] σ (ex (some (.int (pI (0 < σ 12 0)))) σ) := by
  refine Ct.of2 [.ref (ad 12)] rfl (Nat.le_of_ble_eq_true rfl) rfl ?_
  rintro X C rfl rfl rfl hxn hR
  refine V_aload_n_0 (q := 1) C rfl dX1_isPlanted_0 ?_
  refine gf_X1_9 (q := 4) C rfl dX1_isPlanted_1 ?_
  refine V_if_le (tgt := 11) C rfl (by decide) dX1_isPlanted_4 (fun c4 => ?_) (fun c4 => ?_)
  · refine V_iconst (q := 12) (v := 0) C rfl rfl dX1_isPlanted_11 ?_
    refine V_zret C hR rfl dX1_isPlanted_12 ?_
    exact ⟨by simp [pI, c4], rfl⟩
  · refine V_iconst (q := 8) (v := 1) C rfl rfl dX1_isPlanted_7 ?_
    refine V_goto (tgt := 12) C (by decide) dX1_isPlanted_8 ?_
    refine V_zret C hR rfl dX1_isPlanted_12 ?_
    exact ⟨by simp [pI, c4], rfl⟩

set_option maxHeartbeats 4000000 in
set_option maxRecDepth 100000 in
theorem c_X1_hasTree {l : Launch} {D : DD} {ad : Nat → Nat} (σ : ST) (t : Int32)  : Ct l yX1_hasTree cX1_hasTree 2 (Option.some FieldType.boolean) 0 0 D ad [.ref (ad 12), .int t] σ (ex (some (.int (pI (isT (σ 12 0) t)))) σ) := by
  refine Ct.of2 [.ref (ad 12), .int t] rfl (Nat.le_of_ble_eq_true rfl) rfl ?_
  rintro X C rfl rfl rfl hxn hR
  refine V_iload_n_1 (q := 1) C rfl dX1_hasTree_0 ?_
  refine V_if_lt (tgt := 16) C rfl (by decide) dX1_hasTree_1 (fun c1 => ?_) (fun c1 => ?_)
  · refine V_iconst (q := 17) (v := 0) C rfl rfl dX1_hasTree_16 ?_
    refine V_zret C hR rfl dX1_hasTree_17 ?_
    exact ⟨by simp [pI, c1], rfl⟩
  · refine V_iload_n_1 (q := 5) C rfl dX1_hasTree_4 ?_
    refine V_aload_n_0 (q := 6) C rfl dX1_hasTree_5 ?_
    refine gf_X1_9 (q := 9) C rfl dX1_hasTree_6 ?_
    refine V_icmp_ge (tgt := 16) C rfl (by decide) dX1_hasTree_9 (fun c9 => ?_) (fun c9 => ?_)
    · refine V_iconst (q := 17) (v := 0) C rfl rfl dX1_hasTree_16 ?_
      refine V_zret C hR rfl dX1_hasTree_17 ?_
      exact ⟨by simp [pI, c1, c9], rfl⟩
    · refine V_iconst (q := 13) (v := 1) C rfl rfl dX1_hasTree_12 ?_
      refine V_goto (tgt := 17) C (by decide) dX1_hasTree_13 ?_
      refine V_zret C hR rfl dX1_hasTree_17 ?_
      exact ⟨by simp [pI, c1, c9], rfl⟩

set_option maxHeartbeats 4000000 in
set_option maxRecDepth 100000 in
theorem c_X1_hasPrisoner {l : Launch} {D : DD} {ad : Nat → Nat} (σ : ST) (t : Int32)  : Ct l yX1_hasPrisoner cX1_hasPrisoner 2 (Option.some FieldType.boolean) 0 0 D ad [.ref (ad 12), .int t] σ (ex (some (.int (pI (isT (σ 12 1) t)))) σ) := by
  refine Ct.of2 [.ref (ad 12), .int t] rfl (Nat.le_of_ble_eq_true rfl) rfl ?_
  rintro X C rfl rfl rfl hxn hR
  refine V_iload_n_1 (q := 1) C rfl dX1_hasPrisoner_0 ?_
  refine V_if_lt (tgt := 16) C rfl (by decide) dX1_hasPrisoner_1 (fun c1 => ?_) (fun c1 => ?_)
  · refine V_iconst (q := 17) (v := 0) C rfl rfl dX1_hasPrisoner_16 ?_
    refine V_zret C hR rfl dX1_hasPrisoner_17 ?_
    exact ⟨by simp [pI, c1], rfl⟩
  · refine V_iload_n_1 (q := 5) C rfl dX1_hasPrisoner_4 ?_
    refine V_aload_n_0 (q := 6) C rfl dX1_hasPrisoner_5 ?_
    refine gf_X1_15 (q := 9) C rfl dX1_hasPrisoner_6 ?_
    refine V_icmp_ge (tgt := 16) C rfl (by decide) dX1_hasPrisoner_9 (fun c9 => ?_) (fun c9 => ?_)
    · refine V_iconst (q := 17) (v := 0) C rfl rfl dX1_hasPrisoner_16 ?_
      refine V_zret C hR rfl dX1_hasPrisoner_17 ?_
      exact ⟨by simp [pI, c1, c9], rfl⟩
    · refine V_iconst (q := 13) (v := 1) C rfl rfl dX1_hasPrisoner_12 ?_
      refine V_goto (tgt := 17) C (by decide) dX1_hasPrisoner_13 ?_
      refine V_zret C hR rfl dX1_hasPrisoner_17 ?_
      exact ⟨by simp [pI, c1, c9], rfl⟩

def ones (n : Int32) : Int32 := (1 <<< (n &&& 31)) - 1


set_option maxHeartbeats 4000000 in
set_option maxRecDepth 100000 in
theorem c_X1_allPrisoners {l : Launch} {D : DD} {ad : Nat → Nat} (σ : ST)  : Ct l yX1_allPrisoners cX1_allPrisoners 1 (Option.some FieldType.int) 0 0 D ad [.ref (ad 12)] σ (ex (some (.int (ones (σ 12 1)))) σ) := by
  refine Ct.of2 [.ref (ad 12)] rfl (Nat.le_of_ble_eq_true rfl) rfl ?_
  rintro X C rfl rfl rfl hxn hR
  refine V_iconst (q := 1) (v := 1) C rfl rfl dX1_allPrisoners_0 ?_
  refine V_aload_n_0 (q := 2) C rfl dX1_allPrisoners_1 ?_
  refine gf_X1_15 (q := 5) C rfl dX1_allPrisoners_2 ?_
  refine V_ishl (q := 6) C rfl dX1_allPrisoners_5 ?_
  refine V_iconst (q := 7) (v := 1) C rfl rfl dX1_allPrisoners_6 ?_
  refine V_isub (q := 8) C rfl dX1_allPrisoners_7 ?_
  refine V_iret C hR dX1_allPrisoners_8 ?_
  exact ⟨rfl, rfl⟩
end
section
/-! the class: sheets, text, grove, weather, readings, bodies -/
set_option maxHeartbeats 4000000 in
set_option maxRecDepth 100000 in
theorem c_X5_isOfOtherLane {l : Launch} {D : DD} {ad : Nat → Nat} (σ : ST) (j : Nat) (a : Int32) (hj : j < 4) : Ct l yX5_isOfOtherLane cX5_isOfOtherLane 2 (Option.some FieldType.boolean) 0 0 D ad [.ref (ad (2 + 2 * j)), .int a] σ (ex (some (.int (pI (¬ σ (2 + 2 * j) 1 = 0 ∧ ¬ σ (2 + 2 * j) 2 = a)))) σ) := by
  refine Ct.of2 [.ref (ad (2 + 2 * j)), .int a] rfl (Nat.le_of_ble_eq_true rfl) rfl ?_
  rintro X C rfl rfl rfl hxn hR
  refine V_aload_n_0 (q := 1) C rfl dX5_isOfOtherLane_0 ?_
  refine gf_X5_15 (q := 4) C hj rfl dX5_isOfOtherLane_1 ?_
  refine V_if_eq (tgt := 19) C rfl (by decide) dX5_isOfOtherLane_4 (fun c4 => ?_) (fun c4 => ?_)
  · refine V_iconst (q := 20) (v := 0) C rfl rfl dX5_isOfOtherLane_19 ?_
    refine V_zret C hR rfl dX5_isOfOtherLane_20 ?_
    exact ⟨by simp [pI, c4], rfl⟩
  · refine V_aload_n_0 (q := 8) C rfl dX5_isOfOtherLane_7 ?_
    refine gf_X5_19 (q := 11) C hj rfl dX5_isOfOtherLane_8 ?_
    refine V_iload_n_1 (q := 12) C rfl dX5_isOfOtherLane_11 ?_
    refine V_icmp_eq (tgt := 19) C rfl (by decide) dX5_isOfOtherLane_12 (fun c12 => ?_) (fun c12 => ?_)
    · refine V_iconst (q := 20) (v := 0) C rfl rfl dX5_isOfOtherLane_19 ?_
      refine V_zret C hR rfl dX5_isOfOtherLane_20 ?_
      exact ⟨by simp [pI, c4, c12], rfl⟩
    · refine V_iconst (q := 16) (v := 1) C rfl rfl dX5_isOfOtherLane_15 ?_
      refine V_goto (tgt := 20) C (by decide) dX5_isOfOtherLane_16 ?_
      refine V_zret C hR rfl dX5_isOfOtherLane_20 ?_
      exact ⟨by simp [pI, c4, c12], rfl⟩

set_option maxHeartbeats 4000000 in
set_option maxRecDepth 100000 in
theorem c_X5_hasCells {l : Launch} {D : DD} {ad : Nat → Nat} (σ : ST) (j : Nat) (a n : Int32) (hj : j < 4) : Ct l yX5_hasCells cX5_hasCells 3 (Option.some FieldType.boolean) 0 0 D ad [.ref (ad (2 + 2 * j)), .int a, .int n] σ (ex (some (.int (pI (¬ a < 0 ∧ ¬ σ (2 + 2 * j) 3 < a ∧ ¬ n < 0 ∧ ¬ σ (2 + 2 * j) 3 - a < n)))) σ) := by
  refine Ct.of2 [.ref (ad (2 + 2 * j)), .int a, .int n] rfl (Nat.le_of_ble_eq_true rfl) rfl ?_
  rintro X C rfl rfl rfl hxn hR
  refine V_iload_n_1 (q := 1) C rfl dX5_hasCells_0 ?_
  refine V_if_lt (tgt := 30) C rfl (by decide) dX5_hasCells_1 (fun c1 => ?_) (fun c1 => ?_)
  · refine V_iconst (q := 31) (v := 0) C rfl rfl dX5_hasCells_30 ?_
    refine V_zret C hR rfl dX5_hasCells_31 ?_
    exact ⟨by simp [pI, c1], rfl⟩
  · refine V_iload_n_1 (q := 5) C rfl dX5_hasCells_4 ?_
    refine V_aload_n_0 (q := 6) C rfl dX5_hasCells_5 ?_
    refine gf_X5_23 (q := 9) C hj rfl dX5_hasCells_6 ?_
    refine V_icmp_gt (tgt := 30) C rfl (by decide) dX5_hasCells_9 (fun c9 => ?_) (fun c9 => ?_)
    · refine V_iconst (q := 31) (v := 0) C rfl rfl dX5_hasCells_30 ?_
      refine V_zret C hR rfl dX5_hasCells_31 ?_
      exact ⟨by simp [pI, c1, c9], rfl⟩
    · refine V_iload_n_2 (q := 13) C rfl dX5_hasCells_12 ?_
      refine V_if_lt (tgt := 30) C rfl (by decide) dX5_hasCells_13 (fun c13 => ?_) (fun c13 => ?_)
      · refine V_iconst (q := 31) (v := 0) C rfl rfl dX5_hasCells_30 ?_
        refine V_zret C hR rfl dX5_hasCells_31 ?_
        exact ⟨by simp [pI, c1, c9, c13], rfl⟩
      · refine V_iload_n_2 (q := 17) C rfl dX5_hasCells_16 ?_
        refine V_aload_n_0 (q := 18) C rfl dX5_hasCells_17 ?_
        refine gf_X5_23 (q := 21) C hj rfl dX5_hasCells_18 ?_
        refine V_iload_n_1 (q := 22) C rfl dX5_hasCells_21 ?_
        refine V_isub (q := 23) C rfl dX5_hasCells_22 ?_
        refine V_icmp_gt (tgt := 30) C rfl (by decide) dX5_hasCells_23 (fun c23 => ?_) (fun c23 => ?_)
        · refine V_iconst (q := 31) (v := 0) C rfl rfl dX5_hasCells_30 ?_
          refine V_zret C hR rfl dX5_hasCells_31 ?_
          exact ⟨by simp [pI, c1, c9, c13, c23], rfl⟩
        · refine V_iconst (q := 27) (v := 1) C rfl rfl dX5_hasCells_26 ?_
          refine V_goto (tgt := 31) C (by decide) dX5_hasCells_27 ?_
          refine V_zret C hR rfl dX5_hasCells_31 ?_
          exact ⟨by simp [pI, c1, c9, c13, c23], rfl⟩

def cutL (lane v : Int32) : Int32 := if lane = 0 then v.toInt8.toInt32 else if lane = 1 then v.toInt16.toInt32 else v

set_option maxHeartbeats 4000000 in
set_option maxRecDepth 100000 in
theorem c_X5_cutToLane {l : Launch} {D : DD} {ad : Nat → Nat} (σ : ST) (j : Nat) (v : Int32) (hj : j < 4) : Ct l yX5_cutToLane cX5_cutToLane 2 (Option.some FieldType.int) 0 0 D ad [.ref (ad (2 + 2 * j)), .int v] σ (ex (some (.int (cutL (σ (2 + 2 * j) 2) v))) σ) := by
  refine Ct.of2 [.ref (ad (2 + 2 * j)), .int v] rfl (Nat.le_of_ble_eq_true rfl) rfl ?_
  rintro X C rfl rfl rfl hxn hR
  refine V_aload_n_0 (q := 1) C rfl dX5_cutToLane_0 ?_
  refine gf_X5_19 (q := 4) C hj rfl dX5_cutToLane_1 ?_
  refine V_look2 (va := 0) (vb := 1) (ta := 32) (tb := 35) (td := 38) C rfl rfl (by decide) (by decide) (by decide) (by decide) dX5_cutToLane_4 (fun c4 => ?_) (fun c4 => ?_) (fun c4 c5 => ?_)
  · refine V_iload_n_1 (q := 33) C rfl dX5_cutToLane_32 ?_
    refine V_i2b (q := 34) C rfl dX5_cutToLane_33 ?_
    refine V_iret C hR dX5_cutToLane_34 ?_
    exact ⟨by simp [cutL, c4], rfl⟩
  · refine V_iload_n_1 (q := 36) C rfl dX5_cutToLane_35 ?_
    refine V_i2s (q := 37) C rfl dX5_cutToLane_36 ?_
    refine V_iret C hR dX5_cutToLane_37 ?_
    exact ⟨by simp [cutL, c4], rfl⟩
  · refine V_iload_n_1 (q := 39) C rfl dX5_cutToLane_38 ?_
    refine V_iret C hR dX5_cutToLane_39 ?_
    exact ⟨by simp [cutL, c4, c5], rfl⟩

def renewF (σ : ST) (j : Nat) (a n : Int32) : ST := setf (setf (setf (setc σ (2 + 2 * j + 1) (fun _ => 0)) (2 + 2 * j) 1 1) (2 + 2 * j) 2 a) (2 + 2 * j) 3 n

set_option maxHeartbeats 4000000 in
set_option maxRecDepth 100000 in
theorem c_X5_renew {l : Launch} {D : DD} {ad : Nat → Nat} (σ : ST) (j : Nat) (a n : Int32) (hj : j < 4) : Ct l yX5_renew cX5_renew 3 (Option.none : Option FieldType) 1 23 D ad [.ref (ad (2 + 2 * j)), .int a, .int n] σ (ex none (renewF σ j a n)) := by
  refine Ct.of2 [.ref (ad (2 + 2 * j)), .int a, .int n] rfl (Nat.le_of_ble_eq_true rfl) rfl ?_
  rintro X C rfl rfl rfl hxn hR
  refine V_aload_n_0 (q := 1) C rfl dX5_renew_0 ?_
  refine gf_X5_9 (q := 4) C hj rfl dX5_renew_1 ?_
  refine V_iconst (q := 5) (v := 0) C rfl rfl dX5_renew_4 ?_
  refine V_cS2v (q := 8) C (c_J7_fill_53178 σ (2 + 2 * j + 1) 0 (sh_ak hj) (by omega) (by rw [sh_al hj]; decide)) cw_J7_fill_53178 cs_J7_fill_53178 wm_X5_26 ⟨by decide, by decide⟩ (Nat.le_of_ble_eq_true rfl) rfl dX5_renew_5 ?_
  refine V_aload_n_0 (q := 9) C rfl dX5_renew_8 ?_
  refine V_iconst (q := 10) (v := 1) C rfl rfl dX5_renew_9 ?_
  refine pf_X5_15 (q := 13) C hj rfl rfl rfl dX5_renew_10 ?_
  refine V_aload_n_0 (q := 14) C rfl dX5_renew_13 ?_
  refine V_iload_n_1 (q := 15) C rfl dX5_renew_14 ?_
  refine pf_X5_19 (q := 18) C hj rfl dX5_renew_15 ?_
  refine V_aload_n_0 (q := 19) C rfl dX5_renew_18 ?_
  refine V_iload_n_2 (q := 20) C rfl dX5_renew_19 ?_
  refine pf_X5_23 (q := 23) C hj rfl dX5_renew_20 ?_
  refine V_vret C hR dX5_renew_23 ?_
  exact ⟨rfl, rfl⟩

def lv1 (σ : ST) (n : Int32) : ST := setf σ 39 0 (31 * σ 39 0 + n)







def codeT (σ : ST) (n j : Nat) : Int32 := if j < n then σ 11 j else -9
def kdT (c : Int32) : Int32 := if c = 116 then 0 else if c = 103 then 1 else if c = 111 then 2 else -9
def digT (σ : ST) (n j : Nat) : Int32 := codeT σ n j - 48
abbrev isD (σ : ST) (n j : Nat) (a b : Int32) : Prop := j < n ∧ ¬ digT σ n j < a ∧ ¬ b < digT σ n j
def termT (σ : ST) (n j : Nat) : Int32 := if isT 30 (10 * digT σ n j + digT σ n (j + 1)) then 10 * digT σ n j + digT σ n (j + 1) else 29

set_option maxHeartbeats 4000000 in
set_option maxRecDepth 100000 in
theorem c_X6_codeAt {l : Launch} {D : DD} {ad : Nat → Nat} (σ : ST) (n j : Nat) (hn : σ 10 1 = nI n) (hn50 : n ≤ 50) (hj : j < 100) : Ct l yX6_codeAt cX6_codeAt 2 (Option.some FieldType.int) 0 0 D ad [.ref (ad 10), .int (nI j)] σ (ex (some (.int (codeT σ n j))) σ) := by
  refine Ct.of2 [.ref (ad 10), .int (nI j)] rfl (Nat.le_of_ble_eq_true rfl) rfl ?_
  rintro X C rfl rfl rfl hxn hR
  refine V_iload_n_1 (q := 1) C rfl dX6_codeAt_0 ?_
  refine V_if_lt_f (tgt := 21) C (nI_pos (by omega)) rfl (by decide) dX6_codeAt_1 ?_
  refine V_iload_n_1 (q := 5) C rfl dX6_codeAt_4 ?_
  refine V_aload_n_0 (q := 6) C rfl dX6_codeAt_5 ?_
  refine gf_X6_15 (q := 9) C rfl dX6_codeAt_6 ?_
  rw [hn]
  refine V_icmp_ge (tgt := 21) C rfl (by decide) dX6_codeAt_9 (fun c9 => ?_) (fun c9 => ?_)
  · refine V_bipush (q := 23) (v := (-9)) C (by decide) rfl dX6_codeAt_21 ?_
    refine V_iret C hR dX6_codeAt_23 ?_
    exact ⟨by unfold codeT; rw [if_neg (fun h => nI_ge h (by omega) c9)], rfl⟩
  · refine V_aload_n_0 (q := 13) C rfl dX6_codeAt_12 ?_
    refine gf_X6_9 (q := 16) C rfl dX6_codeAt_13 ?_
    refine V_iload_n_1 (q := 17) C rfl dX6_codeAt_16 ?_
    have hjn : j < n := by rcases Nat.lt_or_ge j n with h | h; exact h; exact absurd (nI_le h (by omega)) c9
    refine V_iald (q := 18) C _ rfl (by show _ < 50; omega) rfl (by decide) (by decide) rfl dX6_codeAt_17 ?_
    refine V_goto (tgt := 23) C (by decide) dX6_codeAt_18 ?_
    refine V_iret C hR dX6_codeAt_23 ?_
    exact ⟨by unfold codeT; rw [if_pos hjn], rfl⟩

set_option maxHeartbeats 4000000 in
set_option maxRecDepth 100000 in
theorem c_X6_kindAt {l : Launch} {D : DD} {ad : Nat → Nat} (σ : ST) (n j : Nat) (hn : σ 10 1 = nI n) (hn50 : n ≤ 50) (hj : j < 100) : Ct l yX6_kindAt cX6_kindAt 2 (Option.some FieldType.int) 1 21 D ad [.ref (ad 10), .int (nI j)] σ (ex (some (.int (kdT (codeT σ n j)))) σ) := by
  refine Ct.of2 [.ref (ad 10), .int (nI j)] rfl (Nat.le_of_ble_eq_true rfl) rfl ?_
  rintro X C rfl rfl rfl hxn hR
  refine V_aload_n_0 (q := 1) C rfl dX6_kindAt_0 ?_
  refine V_iload_n_1 (q := 2) C rfl dX6_kindAt_1 ?_
  refine V_cV1r (q := 5) C (c_X6_codeAt σ n j hn hn50 hj) cw_X6_codeAt cv_X6_codeAt wm_X6_36 (by decide) ob_X6 ⟨by decide, by decide⟩ (Nat.le_of_ble_eq_true rfl) rfl dX6_kindAt_2 ?_
  refine V_look3 (va := 103) (vb := 111) (vd := 116) (ta := 42) (tb := 44) (tc := 40) (td := 46) C rfl rfl rfl (by decide) (by decide) (by decide) (by decide) (by decide) dX6_kindAt_5 (fun c5 => ?_) (fun c5 => ?_) (fun c5 => ?_) (fun c5 c6 c7 => ?_)
  · refine V_iconst (q := 43) (v := 1) C rfl rfl dX6_kindAt_42 ?_
    refine V_iret C hR dX6_kindAt_43 ?_
    exact ⟨by simp [kdT, c5], rfl⟩
  · refine V_iconst (q := 45) (v := 2) C rfl rfl dX6_kindAt_44 ?_
    refine V_iret C hR dX6_kindAt_45 ?_
    exact ⟨by simp [kdT, c5], rfl⟩
  · refine V_iconst (q := 41) (v := 0) C rfl rfl dX6_kindAt_40 ?_
    refine V_iret C hR dX6_kindAt_41 ?_
    exact ⟨by simp [kdT, c5], rfl⟩
  · refine V_bipush (q := 48) (v := (-9)) C (by decide) rfl dX6_kindAt_46 ?_
    refine V_iret C hR dX6_kindAt_48 ?_
    exact ⟨by simp [kdT, c5, c6, c7], rfl⟩

set_option maxHeartbeats 4000000 in
set_option maxRecDepth 100000 in
theorem c_X6_digitAt {l : Launch} {D : DD} {ad : Nat → Nat} (σ : ST) (n j : Nat) (hn : σ 10 1 = nI n) (hn50 : n ≤ 50) (hj : j < 100) : Ct l yX6_digitAt cX6_digitAt 2 (Option.some FieldType.int) 1 21 D ad [.ref (ad 10), .int (nI j)] σ (ex (some (.int (digT σ n j))) σ) := by
  refine Ct.of2 [.ref (ad 10), .int (nI j)] rfl (Nat.le_of_ble_eq_true rfl) rfl ?_
  rintro X C rfl rfl rfl hxn hR
  refine V_aload_n_0 (q := 1) C rfl dX6_digitAt_0 ?_
  refine V_iload_n_1 (q := 2) C rfl dX6_digitAt_1 ?_
  refine V_cV1r (q := 5) C (c_X6_codeAt σ n j hn hn50 hj) cw_X6_codeAt cv_X6_codeAt wm_X6_36 (by decide) ob_X6 ⟨by decide, by decide⟩ (Nat.le_of_ble_eq_true rfl) rfl dX6_digitAt_2 ?_
  refine V_bipush (q := 7) (v := 48) C (by decide) rfl dX6_digitAt_5 ?_
  refine V_isub (q := 8) C rfl dX6_digitAt_7 ?_
  refine V_iret C hR dX6_digitAt_8 ?_
  exact ⟨rfl, rfl⟩

set_option maxHeartbeats 4000000 in
set_option maxRecDepth 100000 in
theorem c_X6_isDigit {l : Launch} {D : DD} {ad : Nat → Nat} (σ : ST) (n j : Nat) (a b : Int32) (hn : σ 10 1 = nI n) (hn50 : n ≤ 50) (hj : j < 100) : Ct l yX6_isDigit cX6_isDigit 4 (Option.some FieldType.boolean) 2 42 D ad [.ref (ad 10), .int (nI j), .int a, .int b] σ (ex (some (.int (pI (isD σ n j a b)))) σ) := by
  refine Ct.of2 [.ref (ad 10), .int (nI j), .int a, .int b] rfl (Nat.le_of_ble_eq_true rfl) rfl ?_
  rintro X C rfl rfl rfl hxn hR
  refine V_iload_n_1 (q := 1) C rfl dX6_isDigit_0 ?_
  refine V_aload_n_0 (q := 2) C rfl dX6_isDigit_1 ?_
  refine gf_X6_15 (q := 5) C rfl dX6_isDigit_2 ?_
  rw [hn]
  refine V_icmp_ge (tgt := 30) C rfl (by decide) dX6_isDigit_5 (fun c5 => ?_) (fun c5 => ?_)
  · refine V_iconst (q := 31) (v := 0) C rfl rfl dX6_isDigit_30 ?_
    refine V_zret C hR rfl dX6_isDigit_31 ?_
    exact ⟨by rw [pI_f (fun h => nI_ge h.1 (by omega) c5)], rfl⟩
  · refine V_aload_n_0 (q := 9) C rfl dX6_isDigit_8 ?_
    refine V_iload_n_1 (q := 10) C rfl dX6_isDigit_9 ?_
    refine V_cV1r (q := 13) C (c_X6_digitAt σ n j hn hn50 hj) cw_X6_digitAt cv_X6_digitAt wm_X6_47 (by decide) ob_X6 ⟨by decide, by decide⟩ (Nat.le_of_ble_eq_true rfl) rfl dX6_isDigit_10 ?_
    refine V_iload_n_2 (q := 14) C rfl dX6_isDigit_13 ?_
    refine V_icmp_lt (tgt := 30) C rfl (by decide) dX6_isDigit_14 (fun c14 => ?_) (fun c14 => ?_)
    · refine V_iconst (q := 31) (v := 0) C rfl rfl dX6_isDigit_30 ?_
      refine V_zret C hR rfl dX6_isDigit_31 ?_
      exact ⟨by rw [pI_f (fun h => h.2.1 c14)], rfl⟩
    · refine V_aload_n_0 (q := 18) C rfl dX6_isDigit_17 ?_
      refine V_iload_n_1 (q := 19) C rfl dX6_isDigit_18 ?_
      refine V_cV1r (q := 22) C (c_X6_digitAt σ n j hn hn50 hj) cw_X6_digitAt cv_X6_digitAt wm_X6_47 (by decide) ob_X6 ⟨by decide, by decide⟩ (Nat.le_of_ble_eq_true rfl) rfl dX6_isDigit_19 ?_
      refine V_iload_n_3 (q := 23) C rfl dX6_isDigit_22 ?_
      refine V_icmp_gt (tgt := 30) C rfl (by decide) dX6_isDigit_23 (fun c23 => ?_) (fun c23 => ?_)
      · refine V_iconst (q := 31) (v := 0) C rfl rfl dX6_isDigit_30 ?_
        refine V_zret C hR rfl dX6_isDigit_31 ?_
        exact ⟨by rw [pI_f (fun h => h.2.2 c23)], rfl⟩
      · refine V_iconst (q := 27) (v := 1) C rfl rfl dX6_isDigit_26 ?_
        refine V_goto (tgt := 31) C (by decide) dX6_isDigit_27 ?_
        refine V_zret C hR rfl dX6_isDigit_31 ?_
        exact ⟨by rw [pI_t ⟨by rcases Nat.lt_or_ge j n with h | h; exact h; exact absurd (nI_le h (by omega)) c5, c14, c23⟩], rfl⟩

set_option maxHeartbeats 4000000 in
set_option maxRecDepth 100000 in
theorem c_X6_termAt {l : Launch} {D : DD} {ad : Nat → Nat} (σ : ST) (n j : Nat) (hn : σ 10 1 = nI n) (hn50 : n ≤ 50) (hj : j < 99) : Ct l yX6_termAt cX6_termAt 3 (Option.some FieldType.int) 2 42 D ad [.ref (ad 10), .int (nI j)] σ (ex (some (.int (termT σ n j))) σ) := by
  refine Ct.of2 [.ref (ad 10), .int (nI j), .float 0] rfl (Nat.le_of_ble_eq_true rfl) rfl ?_
  rintro X C rfl rfl rfl hxn hR
  have hn2 : 2 < xn X := by rw [← hxn]; decide
  refine V_bipush (q := 2) (v := 10) C (by decide) rfl dX6_termAt_0 ?_
  refine V_aload_n_0 (q := 3) C rfl dX6_termAt_2 ?_
  refine V_iload_n_1 (q := 4) C rfl dX6_termAt_3 ?_
  refine V_cV1r (q := 7) C (c_X6_digitAt σ n j hn hn50 (by omega)) cw_X6_digitAt cv_X6_digitAt wm_X6_47 (by decide) ob_X6 ⟨by decide, by decide⟩ (Nat.le_of_ble_eq_true rfl) rfl dX6_termAt_4 ?_
  refine V_imul (q := 8) C rfl dX6_termAt_7 ?_
  refine V_aload_n_0 (q := 9) C rfl dX6_termAt_8 ?_
  refine V_iload_n_1 (q := 10) C rfl dX6_termAt_9 ?_
  refine V_iconst (q := 11) (v := 1) C rfl rfl dX6_termAt_10 ?_
  refine V_iadd (q := 12) C rfl dX6_termAt_11 ?_
  rw [show nI j + 1 = nI (j + 1) from nI_1 j]
  refine V_cV1r (q := 15) C (c_X6_digitAt σ n (j + 1) hn hn50 (by omega)) cw_X6_digitAt cv_X6_digitAt wm_X6_47 (by decide) ob_X6 ⟨by decide, by decide⟩ (Nat.le_of_ble_eq_true rfl) rfl dX6_termAt_12 ?_
  refine V_iadd (q := 16) C rfl dX6_termAt_15 ?_
  refine V_istore_n_2 (q := 17) C hn2 rfl rfl dX6_termAt_16 ?_
  refine V_iload_n_2 (q := 18) C rfl dX6_termAt_17 ?_
  refine V_cN1r (q := 21) C (c_X8_isDay σ _) cw_X8_isDay cs_X8_isDay C.K.2.2.2 ⟨by decide, by decide⟩ (Nat.le_of_ble_eq_true rfl) rfl dX6_termAt_18 ?_
  refine V_ifp_eq (tgt := 28) C rfl (by decide) dX6_termAt_21 (fun c21 => ?_) (fun c21 => ?_)
  · refine V_bipush (q := 30) (v := 29) C (by decide) rfl dX6_termAt_28 ?_
    refine V_iret C hR dX6_termAt_30 ?_
    exact ⟨by unfold termT; rw [if_neg c21], rfl⟩
  · refine V_iload_n_2 (q := 25) C rfl dX6_termAt_24 ?_
    refine V_goto (tgt := 30) C (by decide) dX6_termAt_25 ?_
    refine V_iret C hR dX6_termAt_30 ?_
    exact ⟨by unfold termT; rw [if_pos c21], rfl⟩
end
section
/-! the class: text read, grove, weather, readings -/
theorem nn {p : Prop} (h : p) : ¬ ¬ p := fun k => k h
theorem nI_k {a b k : Nat} (h : a + k = b) : nI a + nI k = nI b := by rw [nI_add, h]
def setB (q : Nat → Prop) [DecidablePred q] : Nat → Int32
  | 0 => 0
  | n + 1 => if q n then setB q n ||| (1 <<< (nI n &&& 31)) else setB q n
def sumL (set : Int32) (f : Nat → Int32) : Nat → Int32
  | 0 => 0
  | n + 1 => if bit set (nI n) then sumL set f n + f n else sumL set f n
def wantC (k n : Int32) : Int32 := if k = 1 then n + 1 else if k = 2 then 2 * (n + 1) else n
def own1 (lk : Int32) : Int32 := 1 <<< (lk &&& 31)
def remI (x y : Int32) : Int32 := x - x / y * y
def opensC (k lk : Int32) : Int32 := if k = 1 then own1 lk ||| own1 (remI (lk + 1) 6) else if k = 2 then 63 else own1 lk

set_option maxHeartbeats 4000000 in
set_option maxRecDepth 100000 in
theorem c_X1_waterWantedBy {l : Launch} {D : DD} {ad : Nat → Nat} (σ : ST) (j : Nat) (hj : j < 6) : Ct l yX1_waterWantedBy cX1_waterWantedBy 3 (Option.some FieldType.int) 0 0 D ad [.ref (ad 12), .int (nI j)] σ (ex (some (.int (wantC (σ 13 j) (σ 15 j)))) σ) := by
  refine Ct.of2 [.ref (ad 12), .int (nI j), .float 0] rfl (Nat.le_of_ble_eq_true rfl) rfl ?_
  rintro X C rfl rfl rfl hxn hR
  have hn2 : 2 < xn X := by rw [← hxn]; decide
  refine V_aload_n_0 (q := 1) C rfl dX1_waterWantedBy_0 ?_
  refine gf_X1_28 (q := 4) C rfl dX1_waterWantedBy_1 ?_
  refine V_iload_n_1 (q := 5) C rfl dX1_waterWantedBy_4 ?_
  refine V_iald (q := 6) C _ rfl (by show _ < 6; omega) rfl (by decide) (by decide) rfl dX1_waterWantedBy_5 ?_
  refine V_iconst (q := 7) (v := 1) C rfl rfl dX1_waterWantedBy_6 ?_
  refine V_iadd (q := 8) C rfl dX1_waterWantedBy_7 ?_
  refine V_istore_n_2 (q := 9) C hn2 rfl rfl dX1_waterWantedBy_8 ?_
  refine V_aload_n_0 (q := 10) C rfl dX1_waterWantedBy_9 ?_
  refine gf_X1_21 (q := 13) C rfl dX1_waterWantedBy_10 ?_
  refine V_iload_n_1 (q := 14) C rfl dX1_waterWantedBy_13 ?_
  refine V_iald (q := 15) C _ rfl (by show _ < 6; omega) rfl (by decide) (by decide) rfl dX1_waterWantedBy_14 ?_
  refine V_look2 (va := 1) (vb := 2) (ta := 40) (tb := 42) (td := 46) C rfl rfl (by decide) (by decide) (by decide) (by decide) dX1_waterWantedBy_15 (fun c15 => ?_) (fun c15 => ?_) (fun c15 c16 => ?_)
  · refine V_iload_n_2 (q := 41) C rfl dX1_waterWantedBy_40 ?_
    refine V_iret C hR dX1_waterWantedBy_41 ?_
    exact ⟨by simp [wantC, c15], rfl⟩
  · refine V_iconst (q := 43) (v := 2) C rfl rfl dX1_waterWantedBy_42 ?_
    refine V_iload_n_2 (q := 44) C rfl dX1_waterWantedBy_43 ?_
    refine V_imul (q := 45) C rfl dX1_waterWantedBy_44 ?_
    refine V_iret C hR dX1_waterWantedBy_45 ?_
    exact ⟨by simp [wantC, c15], rfl⟩
  · refine V_aload_n_0 (q := 47) C rfl dX1_waterWantedBy_46 ?_
    refine gf_X1_28 (q := 50) C rfl dX1_waterWantedBy_47 ?_
    refine V_iload_n_1 (q := 51) C rfl dX1_waterWantedBy_50 ?_
    refine V_iald (q := 52) C _ rfl (by show _ < 6; omega) rfl (by decide) (by decide) rfl dX1_waterWantedBy_51 ?_
    refine V_iret C hR dX1_waterWantedBy_52 ?_
    exact ⟨by simp [wantC, c15, c16], rfl⟩

set_option maxHeartbeats 4000000 in
set_option maxRecDepth 100000 in
theorem c_X1_locksOpenedBy {l : Launch} {D : DD} {ad : Nat → Nat} (σ : ST) (j : Nat) (hj : j < 6) : Ct l yX1_locksOpenedBy cX1_locksOpenedBy 3 (Option.some FieldType.int) 0 0 D ad [.ref (ad 12), .int (nI j)] σ (ex (some (.int (opensC (σ 13 j) (σ 14 j)))) σ) := by
  refine Ct.of2 [.ref (ad 12), .int (nI j), .float 0] rfl (Nat.le_of_ble_eq_true rfl) rfl ?_
  rintro X C rfl rfl rfl hxn hR
  have hn2 : 2 < xn X := by rw [← hxn]; decide
  refine V_iconst (q := 1) (v := 1) C rfl rfl dX1_locksOpenedBy_0 ?_
  refine V_aload_n_0 (q := 2) C rfl dX1_locksOpenedBy_1 ?_
  refine gf_X1_25 (q := 5) C rfl dX1_locksOpenedBy_2 ?_
  refine V_iload_n_1 (q := 6) C rfl dX1_locksOpenedBy_5 ?_
  refine V_iald (q := 7) C _ rfl (by show _ < 6; omega) rfl (by decide) (by decide) rfl dX1_locksOpenedBy_6 ?_
  refine V_ishl (q := 8) C rfl dX1_locksOpenedBy_7 ?_
  refine V_istore_n_2 (q := 9) C hn2 rfl rfl dX1_locksOpenedBy_8 ?_
  refine V_aload_n_0 (q := 10) C rfl dX1_locksOpenedBy_9 ?_
  refine gf_X1_21 (q := 13) C rfl dX1_locksOpenedBy_10 ?_
  refine V_iload_n_1 (q := 14) C rfl dX1_locksOpenedBy_13 ?_
  refine V_iald (q := 15) C _ rfl (by show _ < 6; omega) rfl (by decide) (by decide) rfl dX1_locksOpenedBy_14 ?_
  refine V_look2 (va := 1) (vb := 2) (ta := 40) (tb := 56) (td := 59) C rfl rfl (by decide) (by decide) (by decide) (by decide) dX1_locksOpenedBy_15 (fun c15 => ?_) (fun c15 => ?_) (fun c15 c16 => ?_)
  · refine V_iload_n_2 (q := 41) C rfl dX1_locksOpenedBy_40 ?_
    refine V_iconst (q := 42) (v := 1) C rfl rfl dX1_locksOpenedBy_41 ?_
    refine V_aload_n_0 (q := 43) C rfl dX1_locksOpenedBy_42 ?_
    refine gf_X1_25 (q := 46) C rfl dX1_locksOpenedBy_43 ?_
    refine V_iload_n_1 (q := 47) C rfl dX1_locksOpenedBy_46 ?_
    refine V_iald (q := 48) C _ rfl (by show _ < 6; omega) rfl (by decide) (by decide) rfl dX1_locksOpenedBy_47 ?_
    refine V_iconst (q := 49) (v := 1) C rfl rfl dX1_locksOpenedBy_48 ?_
    refine V_iadd (q := 50) C rfl dX1_locksOpenedBy_49 ?_
    refine V_bipush (q := 52) (v := 6) C (by decide) rfl dX1_locksOpenedBy_50 ?_
    refine V_irem (q := 53) C (by decide) rfl dX1_locksOpenedBy_52 ?_
    refine V_ishl (q := 54) C rfl dX1_locksOpenedBy_53 ?_
    refine V_ior (q := 55) C rfl dX1_locksOpenedBy_54 ?_
    refine V_iret C hR dX1_locksOpenedBy_55 ?_
    exact ⟨by simp [opensC, own1, remI, c15], rfl⟩
  · refine V_bipush (q := 58) (v := 63) C (by decide) rfl dX1_locksOpenedBy_56 ?_
    refine V_iret C hR dX1_locksOpenedBy_58 ?_
    exact ⟨by simp [opensC, own1, remI, c15], rfl⟩
  · refine V_iload_n_2 (q := 60) C rfl dX1_locksOpenedBy_59 ?_
    refine V_iret C hR dX1_locksOpenedBy_60 ?_
    exact ⟨by simp [opensC, own1, remI, c15, c16], rfl⟩

def fitC (σ : ST) (j : Nat) : Nat → Int32 := setB (fun p => bit (opensC (σ 13 j) (σ 14 j)) (σ 18 p))

set_option maxHeartbeats 4000000 in
set_option maxRecDepth 100000 in
theorem c_X1_prisonersFitting {l : Launch} {D : DD} {ad : Nat → Nat} (σ : ST) (j P : Nat) (hj : j < 6) (hP : σ 12 1 = nI P) (hP6 : P ≤ 6) : Ct l yX1_prisonersFitting cX1_prisonersFitting 5 (Option.some FieldType.int) 1 22 D ad [.ref (ad 12), .int (nI j)] σ (ex (some (.int (fitC σ j P))) σ) := by
  refine Ct.of2 [.ref (ad 12), .int (nI j), .float 0, .float 0, .float 0] rfl (Nat.le_of_ble_eq_true rfl) rfl ?_
  rintro X C rfl rfl rfl hxn hR
  have hn2 : 2 < xn X := by rw [← hxn]; decide
  have hn3 : 3 < xn X := by rw [← hxn]; decide
  have hn4 : 4 < xn X := by rw [← hxn]; decide
  refine V_aload_n_0 (q := 1) C rfl dX1_prisonersFitting_0 ?_
  refine V_iload_n_1 (q := 2) C rfl dX1_prisonersFitting_1 ?_
  refine V_cV1r (q := 5) C (c_X1_locksOpenedBy σ j hj) cw_X1_locksOpenedBy cv_X1_locksOpenedBy wm_X1_72 (by decide) ob_X1 ⟨by decide, by decide⟩ (Nat.le_of_ble_eq_true rfl) rfl dX1_prisonersFitting_2 ?_
  refine V_istore_n_2 (q := 6) C hn2 rfl rfl dX1_prisonersFitting_5 ?_
  refine V_iconst (q := 7) (v := 0) C rfl rfl dX1_prisonersFitting_6 ?_
  refine V_istore_n_3 (q := 8) C hn3 rfl rfl dX1_prisonersFitting_7 ?_
  refine V_iconst (q := 9) (v := (nI 0)) C rfl rfl dX1_prisonersFitting_8 ?_
  refine V_istore_4 (q := 11) C hn4 rfl rfl dX1_prisonersFitting_9 ?_
  have hx11 : V X 11 [.ref (xad X 12), .int (nI j), .int (opensC (σ 13 j) (σ 14 j)), .int (fitC σ j P), .int (nI P)] [] (σ) := by
    refine V_iload_4 (q := 13) C rfl dX1_prisonersFitting_11 ?_
    refine V_aload_n_0 (q := 14) C rfl dX1_prisonersFitting_13 ?_
    refine gf_X1_15 (q := 17) C rfl dX1_prisonersFitting_14 ?_
    rw [hP]
    refine V_icmp_ge_t (tgt := 47) C (nI_le (Nat.le_refl _) (by omega)) (by decide) dX1_prisonersFitting_17 ?_
    refine V_iload_n_3 (q := 48) C rfl dX1_prisonersFitting_47 ?_
    refine V_iret C hR dX1_prisonersFitting_48 ?_
    exact ⟨rfl, rfl⟩
  have hs11 : ∀ i : Nat, i < P → (V X 11 [.ref (xad X 12), .int (nI j), .int (opensC (σ 13 j) (σ 14 j)), .int (fitC σ j (i + 1)), .int (nI (i + 1))] [] (σ)) → V X 11 [.ref (xad X 12), .int (nI j), .int (opensC (σ 13 j) (σ 14 j)), .int (fitC σ j i), .int (nI i)] [] (σ) := by
    intro i hi11 ih11
    refine V_iload_4 (q := 13) C rfl dX1_prisonersFitting_11 ?_
    refine V_aload_n_0 (q := 14) C rfl dX1_prisonersFitting_13 ?_
    refine gf_X1_15 (q := 17) C rfl dX1_prisonersFitting_14 ?_
    rw [hP]
    refine V_icmp_ge_f (tgt := 47) C (nI_ge hi11 (by omega)) rfl (by decide) dX1_prisonersFitting_17 ?_
    refine V_iload_n_2 (q := 21) C rfl dX1_prisonersFitting_20 ?_
    refine V_aload_n_0 (q := 22) C rfl dX1_prisonersFitting_21 ?_
    refine gf_X1_37 (q := 25) C rfl dX1_prisonersFitting_22 ?_
    refine V_iload_4 (q := 27) C rfl dX1_prisonersFitting_25 ?_
    refine V_iald (q := 28) C _ rfl (by show _ < 6; omega) rfl (by decide) (by decide) rfl dX1_prisonersFitting_27 ?_
    refine V_cN2r (q := 31) C (c_X8_isIn _ _ _) cw_X8_isIn cs_X8_isIn C.K.2.1 ⟨by decide, by decide⟩ (Nat.le_of_ble_eq_true rfl) rfl dX1_prisonersFitting_28 ?_
    refine V_ifp_eq (tgt := 41) C rfl (by decide) dX1_prisonersFitting_31 (fun c31 => ?_) (fun c31 => ?_)
    · refine V_iinc_4 (q := 44) (n := 1) C nI_inc hn4 rfl rfl dX1_prisonersFitting_41 ?_
      refine V_goto (tgt := 11) C (by decide) dX1_prisonersFitting_44 ?_
      first | (refine V_eq rfl ?_; rw [show fitC σ j i = fitC σ j (i + 1) from (if_neg c31).symm]; exact ih11) | (rw [show fitC σ j i ||| (1 <<< (nI i &&& 31)) = fitC σ j (i + 1) from (if_pos c31).symm]; exact ih11)
    · refine V_iload_n_3 (q := 35) C rfl dX1_prisonersFitting_34 ?_
      refine V_iconst (q := 36) (v := 1) C rfl rfl dX1_prisonersFitting_35 ?_
      refine V_iload_4 (q := 38) C rfl dX1_prisonersFitting_36 ?_
      refine V_ishl (q := 39) C rfl dX1_prisonersFitting_38 ?_
      refine V_ior (q := 40) C rfl dX1_prisonersFitting_39 ?_
      refine V_istore_n_3 (q := 41) C hn3 rfl rfl dX1_prisonersFitting_40 ?_
      refine V_iinc_4 (q := 44) (n := 1) C nI_inc hn4 rfl rfl dX1_prisonersFitting_41 ?_
      refine V_goto (tgt := 11) C (by decide) dX1_prisonersFitting_44 ?_
      first | (refine V_eq rfl ?_; rw [show fitC σ j i = fitC σ j (i + 1) from (if_neg c31).symm]; exact ih11) | (rw [show fitC σ j i ||| (1 <<< (nI i &&& 31)) = fitC σ j (i + 1) from (if_pos c31).symm]; exact ih11)
  exact V_eq (rfl) (loopN (P := fun i => V X 11 [.ref (xad X 12), .int (nI j), .int (opensC (σ 13 j) (σ 14 j)), .int (fitC σ j i), .int (nI i)] [] (σ)) (P) hx11 hs11 0 (Nat.zero_le _))

set_option maxHeartbeats 4000000 in
set_option maxRecDepth 100000 in
theorem c_X6_take {l : Launch} {D : DD} {ad : Nat → Nat} (σ : ST) (j a n : Nat) (hj : j < 4) (han : a + n ≤ 50) : Ct l yX6_take cX6_take 4 (Option.none : Option FieldType) 1 48 D ad [.ref (ad 10), .ref (ad (2 + 2 * j)), .int (nI a), .int (nI n)] σ (ex none (setf (setc σ 11 (va_cpy (σ (2 + 2 * j + 1)) (σ 11) a 0 n)) 10 1 (nI n))) := by
  refine Ct.of2 [.ref (ad 10), .ref (ad (2 + 2 * j)), .int (nI a), .int (nI n)] rfl (Nat.le_of_ble_eq_true rfl) rfl ?_
  rintro X C rfl rfl rfl hxn hR
  refine V_aload_n_1 (q := 1) C rfl dX6_take_0 ?_
  refine gf_X6_25 (q := 4) C hj rfl dX6_take_1 ?_
  refine V_iload_n_2 (q := 5) C rfl dX6_take_4 ?_
  refine V_aload_n_0 (q := 6) C rfl dX6_take_5 ?_
  refine gf_X6_9 (q := 9) C rfl dX6_take_6 ?_
  refine V_iconst (q := 10) (v := (nI 0)) C rfl rfl dX6_take_9 ?_
  refine V_iload_n_3 (q := 11) C rfl dX6_take_10 ?_
  refine V_copy (q := 14) C a 0 n rfl rfl rfl (by rw [sh_al hj]; exact han) (by show 0 + n ≤ 50; omega) (sh_ak hj) rfl (by omega) (by decide) (by rw [sh_al hj]; decide) (by decide) wm_X6_30 wn_copy wn_copyS wn_copyI (by decide) (by decide) rfl dX6_take_11 ?_
  refine V_aload_n_0 (q := 15) C rfl dX6_take_14 ?_
  refine V_iload_n_3 (q := 16) C rfl dX6_take_15 ?_
  refine pf_X6_15 (q := 19) C rfl dX6_take_16 ?_
  refine V_vret C hR dX6_take_19 ?_
  exact ⟨rfl, rfl⟩

def ffA (σ : ST) (n : Nat) : Nat → Nat → Nat × Option Nat
  | 0, m => (m, none)
  | f + 1, m => if kdT (codeT σ n (1 + 3 * m)) = -9 then (m, none) else if ¬ isD σ n (2 + 3 * m) 0 5 then (m, some (2 + 3 * m)) else if ¬ isD σ n (3 + 3 * m) 1 9 then (m, some (3 + 3 * m)) else ffA σ n f (m + 1)
def ffB (σ : ST) (n q : Nat) : Nat → Nat → Nat × Option Nat
  | 0, b => (b, none)
  | f + 1, b => if ¬ codeT σ n (q + 4 * b) = 59 then (b, none) else if ¬ isD σ n (q + 4 * b + 1) 0 5 then (b, some (q + 4 * b + 1)) else if ¬ isD σ n (q + 4 * b + 2) 0 2 then (b, some (q + 4 * b + 2)) else if ¬ isD σ n (q + 4 * b + 3) 0 9 then (b, some (q + 4 * b + 3)) else ffB σ n q f (b + 1)
def ffR (σ : ST) (n : Nat) : Int32 × Nat × Nat := if ¬ codeT σ n 0 = 107 then (0, 0, 0) else match ffA σ n 6 0 with
  | (m, some k) => (nI k, m, 0)
  | (m, none) => if m = 0 then (nI 1, 0, 0) else match ffB σ n (1 + 3 * m) 6 0 with
    | (b, some k) => (nI k, m, b)
    | (b, none) => if b = 0 ∨ 1 + 3 * m + 4 * b < n then (nI (1 + 3 * m + 4 * b), m, b) else (-1, m, b)
def ffS (σ : ST) (m b : Nat) : ST := setf (setf σ 10 2 (nI m)) 10 3 (nI b)
theorem ffA_s {σ : ST} {n f m : Nat} : ffA σ n (f + 1) m = if kdT (codeT σ n (1 + 3 * m)) = -9 then (m, none) else if ¬ isD σ n (2 + 3 * m) 0 5 then (m, some (2 + 3 * m)) else if ¬ isD σ n (3 + 3 * m) 1 9 then (m, some (3 + 3 * m)) else ffA σ n f (m + 1) := rfl
theorem ffB_s {σ : ST} {n q f b : Nat} : ffB σ n q (f + 1) b = if ¬ codeT σ n (q + 4 * b) = 59 then (b, none) else if ¬ isD σ n (q + 4 * b + 1) 0 5 then (b, some (q + 4 * b + 1)) else if ¬ isD σ n (q + 4 * b + 2) 0 2 then (b, some (q + 4 * b + 2)) else if ¬ isD σ n (q + 4 * b + 3) 0 9 then (b, some (q + 4 * b + 3)) else ffB σ n q f (b + 1) := rfl
theorem ffS_m {σ : ST} {m b m2 : Nat} : setf (ffS σ m b) 10 2 (nI m2) = ffS σ m2 b := by
  simp only [ffS, setf, setc_setc, setc_s]
  refine congrArg (setc σ 10) (funext fun t => ?_)
  simp only [upd]
  by_cases h2 : t = 2
  · subst h2; rfl
  · by_cases h3 : t = 3
    · subst h3; rfl
    · simp only [if_neg h2, if_neg h3]
theorem ffS_b {σ : ST} {m b b2 : Nat} : setf (ffS σ m b) 10 3 (nI b2) = ffS σ m b2 := by
  simp only [ffS, setf, setc_setc, setc_s]
  refine congrArg (setc σ 10) (funext fun t => ?_)
  simp only [upd]
  by_cases h2 : t = 2
  · subst h2; rfl
  · by_cases h3 : t = 3
    · subst h3; rfl
    · simp only [if_neg h2, if_neg h3]

set_option maxHeartbeats 4000000 in
set_option maxRecDepth 100000 in
theorem c_X6_firstFault {l : Launch} {D : DD} {ad : Nat → Nat} (σ : ST) (n : Nat) (hn : σ 10 1 = nI n) (hn50 : n ≤ 50) : Ct l yX6_firstFault cX6_firstFault 2 (Option.some FieldType.int) 3 65 D ad [.ref (ad 10)] σ (ex (some (.int (ffR σ n).1)) (ffS σ (ffR σ n).2.1 (ffR σ n).2.2)) := by
  refine Ct.of2 [.ref (ad 10), .float 0] rfl (Nat.le_of_ble_eq_true rfl) rfl ?_
  rintro X C rfl rfl rfl hxn hR
  have hn1 : 1 < xn X := by rw [← hxn]; decide
  have k185 : ∀ m b : Nat, m ≤ 6 → b ≤ 6 → ffR σ n = (if b = 0 ∨ 1 + 3 * m + 4 * b < n then (nI (1 + 3 * m + 4 * b), m, b) else (-1, m, b)) → V X 185 [.ref (xad X 10), .int (nI (1 + 3 * m + 4 * b))] [] (ffS σ m b) := by
    intro m b hm hb hF
    refine V_aload_n_0 (q := 186) C rfl dX6_firstFault_185 ?_
    refine gf_X6_22 (q := 189) C rfl dX6_firstFault_186 ?_
    refine V_if_eq (tgt := 200) C rfl (by decide) dX6_firstFault_189 (fun c189 => ?_) (fun c189 => ?_)
    · refine V_iload_n_1 (q := 201) C rfl dX6_firstFault_200 ?_
      refine V_goto (tgt := 205) C (by decide) dX6_firstFault_201 ?_
      refine V_iret C hR dX6_firstFault_205 ?_
      have hb0 : b = 0 := by rcases Nat.eq_zero_or_pos b with h | h; exact h; exact absurd c189 (nI_ne0 h (by omega))
      subst hb0
      exact ⟨by rw [hF]; rfl, by rw [hF]; rfl⟩
    · refine V_iload_n_1 (q := 193) C rfl dX6_firstFault_192 ?_
      refine V_aload_n_0 (q := 194) C rfl dX6_firstFault_193 ?_
      refine gf_X6_15 (q := 197) C rfl dX6_firstFault_194 ?_
      rw [show ffS σ m b 10 1 = nI n from hn]
      refine V_icmp_ge (tgt := 204) C rfl (by decide) dX6_firstFault_197 (fun c197 => ?_) (fun c197 => ?_)
      · refine V_iconst (q := 205) (v := (-1)) C rfl rfl dX6_firstFault_204 ?_
        refine V_iret C hR dX6_firstFault_205 ?_
        have h0 : ¬ (b = 0 ∨ 1 + 3 * m + 4 * b < n) := fun h => by rcases h with h | h; exact c189 (by rw [h]; rfl); exact nI_ge h (by omega) c197
        exact ⟨by rw [hF, if_neg h0], by rw [hF, if_neg h0]⟩
      · refine V_iload_n_1 (q := 201) C rfl dX6_firstFault_200 ?_
        refine V_goto (tgt := 205) C (by decide) dX6_firstFault_201 ?_
        refine V_iret C hR dX6_firstFault_205 ?_
        have h0 : b = 0 ∨ 1 + 3 * m + 4 * b < n := Or.inr (by rcases Nat.lt_or_ge (1 + 3 * m + 4 * b) n with h | h; exact h; exact absurd (nI_le h (by omega)) c197)
        exact ⟨by rw [hF, if_pos h0], by rw [hF, if_pos h0]⟩
  have k92 : ∀ m : Nat, m ≤ 6 → codeT σ n 0 = 107 → ffA σ n 6 0 = (m, none) → V X 92 [.ref (xad X 10), .int (nI (1 + 3 * m))] [] (ffS σ m 0) := by
    intro m hm h107 hA
    refine V_aload_n_0 (q := 93) C rfl dX6_firstFault_92 ?_
    refine gf_X6_19 (q := 96) C rfl dX6_firstFault_93 ?_
    refine V_if_ne (tgt := 101) C rfl (by decide) dX6_firstFault_96 (fun c96 => ?_) (fun c96 => ?_)
    · have hx101 : (ffB σ n (1 + 3 * m) 6 0 = ffB σ n (1 + 3 * m) (6 - 6) 6) → V X 101 [.ref (xad X 10), .int (nI (1 + 3 * m + 4 * 6))] [] (ffS σ m 6) := by
        intro hv101
        have hm0 : ¬ m = 0 := fun h => c96 (by rw [h]; rfl)
        have hR0 : ffR σ n = (match ffB σ n (1 + 3 * m) 6 0 with | (b, some k) => (nI k, m, b) | (b, none) => if b = 0 ∨ 1 + 3 * m + 4 * b < n then (nI (1 + 3 * m + 4 * b), m, b) else (-1, m, b)) := by unfold ffR; rw [if_neg (nn h107), hA]; show (if m = 0 then _ else _) = _; rw [if_neg hm0]
        refine V_aload_n_0 (q := 102) C rfl dX6_firstFault_101 ?_
        refine gf_X6_22 (q := 105) C rfl dX6_firstFault_102 ?_
        refine V_bipush (q := 107) (v := 6) C (by decide) rfl dX6_firstFault_105 ?_
        refine V_icmp_ge_t (tgt := 185) C (by show (6 : Int32) ≤ nI 6; decide) (by decide) dX6_firstFault_107 ?_
        exact k185 m 6 hm (Nat.le_refl _) (by rw [hR0, hv101]; rfl)
      have hs101 : ∀ b : Nat, b < 6 → ((ffB σ n (1 + 3 * m) 6 0 = ffB σ n (1 + 3 * m) (6 - (b + 1)) (b + 1)) → V X 101 [.ref (xad X 10), .int (nI (1 + 3 * m + 4 * (b + 1)))] [] (ffS σ m (b + 1))) → (ffB σ n (1 + 3 * m) 6 0 = ffB σ n (1 + 3 * m) (6 - b) b) → V X 101 [.ref (xad X 10), .int (nI (1 + 3 * m + 4 * b))] [] (ffS σ m b) := by
        intro b hi101 ih101 hv101
        have hv : ffB σ n (1 + 3 * m) 6 0 = ffB σ n (1 + 3 * m) (5 - b + 1) b := by rw [hv101]; congr 1; omega
        have hm0 : ¬ m = 0 := fun h => c96 (by rw [h]; rfl)
        have hR0 : ffR σ n = (match ffB σ n (1 + 3 * m) 6 0 with | (b, some k) => (nI k, m, b) | (b, none) => if b = 0 ∨ 1 + 3 * m + 4 * b < n then (nI (1 + 3 * m + 4 * b), m, b) else (-1, m, b)) := by unfold ffR; rw [if_neg (nn h107), hA]; show (if m = 0 then _ else _) = _; rw [if_neg hm0]
        refine V_aload_n_0 (q := 102) C rfl dX6_firstFault_101 ?_
        refine gf_X6_22 (q := 105) C rfl dX6_firstFault_102 ?_
        refine V_bipush (q := 107) (v := 6) C (by decide) rfl dX6_firstFault_105 ?_
        refine V_icmp_ge_f (tgt := 185) C (by show ¬ (6 : Int32) ≤ nI b; exact nI_ge (b := 6) hi101 (by omega)) rfl (by decide) dX6_firstFault_107 ?_
        refine V_aload_n_0 (q := 111) C rfl dX6_firstFault_110 ?_
        refine V_iload_n_1 (q := 112) C rfl dX6_firstFault_111 ?_
        refine V_cV1r (q := 115) C (Ct.mono (v' := some (.int (codeT σ n (1 + 3 * m + 4 * b)))) (c_X6_codeAt (ffS σ m b) n (1 + 3 * m + 4 * b) hn hn50 (by omega)) rfl rfl) cw_X6_codeAt cv_X6_codeAt wm_X6_36 (by decide) ob_X6 ⟨by decide, by decide⟩ (Nat.le_of_ble_eq_true rfl) rfl dX6_firstFault_112 ?_
        refine V_bipush (q := 117) (v := 59) C (by decide) rfl dX6_firstFault_115 ?_
        refine V_icmp_ne (tgt := 185) C rfl (by decide) dX6_firstFault_117 (fun c117 => ?_) (fun c117 => ?_)
        · exact k185 m b hm (by omega) (by rw [hR0, hv]; rw [ffB_s, if_pos c117])
        · refine V_aload_n_0 (q := 121) C rfl dX6_firstFault_120 ?_
          refine V_iload_n_1 (q := 122) C rfl dX6_firstFault_121 ?_
          refine V_iconst (q := 123) (v := 1) C rfl rfl dX6_firstFault_122 ?_
          refine V_iadd (q := 124) C rfl dX6_firstFault_123 ?_
          rw [show nI (1 + 3 * m + 4 * b) + 1 = nI (1 + 3 * m + 4 * b + 1) from nI_k (k := 1) rfl]
          refine V_iconst (q := 125) (v := 0) C rfl rfl dX6_firstFault_124 ?_
          refine V_iconst (q := 126) (v := 5) C rfl rfl dX6_firstFault_125 ?_
          refine V_cV3r (q := 129) C (Ct.mono (v' := some (.int (pI (isD σ n (1 + 3 * m + 4 * b + 1) 0 5)))) (c_X6_isDigit (ffS σ m b) n (1 + 3 * m + 4 * b + 1) 0 5 hn hn50 (by omega)) rfl rfl) cw_X6_isDigit cv_X6_isDigit wm_X6_43 (by decide) ob_X6 ⟨by decide, by decide⟩ (Nat.le_of_ble_eq_true rfl) rfl dX6_firstFault_126 ?_
          refine V_ifp_ne (tgt := 136) C rfl (by decide) dX6_firstFault_129 (fun c129 => ?_) (fun c129 => ?_)
          · refine V_aload_n_0 (q := 137) C rfl dX6_firstFault_136 ?_
            refine V_iload_n_1 (q := 138) C rfl dX6_firstFault_137 ?_
            refine V_iconst (q := 139) (v := 2) C rfl rfl dX6_firstFault_138 ?_
            refine V_iadd (q := 140) C rfl dX6_firstFault_139 ?_
            rw [show nI (1 + 3 * m + 4 * b) + 2 = nI (1 + 3 * m + 4 * b + 2) from nI_k (k := 2) rfl]
            refine V_iconst (q := 141) (v := 0) C rfl rfl dX6_firstFault_140 ?_
            refine V_iconst (q := 142) (v := 2) C rfl rfl dX6_firstFault_141 ?_
            refine V_cV3r (q := 145) C (Ct.mono (v' := some (.int (pI (isD σ n (1 + 3 * m + 4 * b + 2) 0 2)))) (c_X6_isDigit (ffS σ m b) n (1 + 3 * m + 4 * b + 2) 0 2 hn hn50 (by omega)) rfl rfl) cw_X6_isDigit cv_X6_isDigit wm_X6_43 (by decide) ob_X6 ⟨by decide, by decide⟩ (Nat.le_of_ble_eq_true rfl) rfl dX6_firstFault_142 ?_
            refine V_ifp_ne (tgt := 152) C rfl (by decide) dX6_firstFault_145 (fun c145 => ?_) (fun c145 => ?_)
            · refine V_aload_n_0 (q := 153) C rfl dX6_firstFault_152 ?_
              refine V_iload_n_1 (q := 154) C rfl dX6_firstFault_153 ?_
              refine V_iconst (q := 155) (v := 3) C rfl rfl dX6_firstFault_154 ?_
              refine V_iadd (q := 156) C rfl dX6_firstFault_155 ?_
              rw [show nI (1 + 3 * m + 4 * b) + 3 = nI (1 + 3 * m + 4 * b + 3) from nI_k (k := 3) rfl]
              refine V_iconst (q := 157) (v := 0) C rfl rfl dX6_firstFault_156 ?_
              refine V_bipush (q := 159) (v := 9) C (by decide) rfl dX6_firstFault_157 ?_
              refine V_cV3r (q := 162) C (Ct.mono (v' := some (.int (pI (isD σ n (1 + 3 * m + 4 * b + 3) 0 9)))) (c_X6_isDigit (ffS σ m b) n (1 + 3 * m + 4 * b + 3) 0 9 hn hn50 (by omega)) rfl rfl) cw_X6_isDigit cv_X6_isDigit wm_X6_43 (by decide) ob_X6 ⟨by decide, by decide⟩ (Nat.le_of_ble_eq_true rfl) rfl dX6_firstFault_159 ?_
              refine V_ifp_ne (tgt := 169) C rfl (by decide) dX6_firstFault_162 (fun c162 => ?_) (fun c162 => ?_)
              · refine V_aload_n_0 (q := 170) C rfl dX6_firstFault_169 ?_
                refine V_dup (q := 171) C rfl rfl dX6_firstFault_170 ?_
                refine gf_X6_22 (q := 174) C rfl dX6_firstFault_171 ?_
                refine V_iconst (q := 175) (v := 1) C rfl rfl dX6_firstFault_174 ?_
                refine V_iadd (q := 176) C rfl dX6_firstFault_175 ?_
                refine pf_X6_22 (q := 179) C rfl dX6_firstFault_176 ?_
                refine V_iinc_1 (q := 182) (n := 4) C (nI_k (a := 1 + 3 * m + 4 * b) (b := 1 + 3 * m + 4 * (b + 1)) (k := 4) (by omega)) hn1 rfl rfl dX6_firstFault_179 ?_
                refine V_goto (tgt := 101) C (by decide) dX6_firstFault_182 ?_
                refine V_eq (by show setf (ffS σ m b) 10 3 (nI b + 1) = ffS σ m (b + 1); rw [show nI b + 1 = nI (b + 1) from nI_1 b, ffS_b]) (ih101 ?_)
                rw [hv, show 6 - (b + 1) = 5 - b by omega]
                rw [ffB_s, if_neg (nn c117), if_neg (nn c129), if_neg (nn c145), if_neg (nn c162)]
              · refine V_iload_n_1 (q := 166) C rfl dX6_firstFault_165 ?_
                refine V_iconst (q := 167) (v := 3) C rfl rfl dX6_firstFault_166 ?_
                refine V_iadd (q := 168) C rfl dX6_firstFault_167 ?_
                rw [show nI (1 + 3 * m + 4 * b) + 3 = nI (1 + 3 * m + 4 * b + 3) from nI_k (k := 3) rfl]
                refine V_iret C hR dX6_firstFault_168 ?_
                have hB : ffR σ n = (nI (1 + 3 * m + 4 * b + 3), m, b) := by rw [hR0, hv]; rw [ffB_s, if_neg (nn c117), if_neg (nn c129), if_neg (nn c145), if_pos c162]
                exact ⟨by rw [hB], by rw [hB]⟩
            · refine V_iload_n_1 (q := 149) C rfl dX6_firstFault_148 ?_
              refine V_iconst (q := 150) (v := 2) C rfl rfl dX6_firstFault_149 ?_
              refine V_iadd (q := 151) C rfl dX6_firstFault_150 ?_
              rw [show nI (1 + 3 * m + 4 * b) + 2 = nI (1 + 3 * m + 4 * b + 2) from nI_k (k := 2) rfl]
              refine V_iret C hR dX6_firstFault_151 ?_
              have hB : ffR σ n = (nI (1 + 3 * m + 4 * b + 2), m, b) := by rw [hR0, hv]; rw [ffB_s, if_neg (nn c117), if_neg (nn c129), if_pos c145]
              exact ⟨by rw [hB], by rw [hB]⟩
          · refine V_iload_n_1 (q := 133) C rfl dX6_firstFault_132 ?_
            refine V_iconst (q := 134) (v := 1) C rfl rfl dX6_firstFault_133 ?_
            refine V_iadd (q := 135) C rfl dX6_firstFault_134 ?_
            rw [show nI (1 + 3 * m + 4 * b) + 1 = nI (1 + 3 * m + 4 * b + 1) from nI_k (k := 1) rfl]
            refine V_iret C hR dX6_firstFault_135 ?_
            have hB : ffR σ n = (nI (1 + 3 * m + 4 * b + 1), m, b) := by rw [hR0, hv]; rw [ffB_s, if_neg (nn c117), if_pos c129]
            exact ⟨by rw [hB], by rw [hB]⟩
      exact V_eq (rfl) (loopN (P := fun b => (ffB σ n (1 + 3 * m) 6 0 = ffB σ n (1 + 3 * m) (6 - b) b) → V X 101 [.ref (xad X 10), .int (nI (1 + 3 * m + 4 * b))] [] (ffS σ m b)) (6) hx101 hs101 0 (Nat.zero_le _) (rfl))
    · refine V_iload_n_1 (q := 100) C rfl dX6_firstFault_99 ?_
      refine V_iret C hR dX6_firstFault_100 ?_
      have hm0 : m = 0 := by rcases Nat.eq_zero_or_pos m with h | h; exact h; exact absurd c96 (nI_ne0 h (by omega))
      subst hm0
      refine ⟨?_, ?_⟩ <;> (unfold ffR; rw [if_neg (nn h107), hA]) <;> rfl
  refine V_aload_n_0 (q := 1) C rfl dX6_firstFault_0 ?_
  refine V_iconst (q := 2) (v := (nI 0)) C rfl rfl dX6_firstFault_1 ?_
  refine pf_X6_19 (q := 5) C rfl dX6_firstFault_2 ?_
  refine V_aload_n_0 (q := 6) C rfl dX6_firstFault_5 ?_
  refine V_iconst (q := 7) (v := (nI 0)) C rfl rfl dX6_firstFault_6 ?_
  refine pf_X6_22 (q := 10) C rfl dX6_firstFault_7 ?_
  refine V_aload_n_0 (q := 11) C rfl dX6_firstFault_10 ?_
  refine V_iconst (q := 12) (v := (nI 0)) C rfl rfl dX6_firstFault_11 ?_
  refine V_cV1r (q := 15) C (Ct.mono (v' := some (.int (codeT σ n 0))) (c_X6_codeAt _ n 0 hn hn50 (by omega)) rfl rfl) cw_X6_codeAt cv_X6_codeAt wm_X6_36 (by decide) ob_X6 ⟨by decide, by decide⟩ (Nat.le_of_ble_eq_true rfl) rfl dX6_firstFault_12 ?_
  refine V_bipush (q := 17) (v := 107) C (by decide) rfl dX6_firstFault_15 ?_
  refine V_icmp_eq (tgt := 22) C rfl (by decide) dX6_firstFault_17 (fun c17 => ?_) (fun c17 => ?_)
  · refine V_iconst (q := 23) (v := (nI (1 + 3 * 0))) C rfl rfl dX6_firstFault_22 ?_
    refine V_istore_n_1 (q := 24) C hn1 rfl rfl dX6_firstFault_23 ?_
    have hx24 : (ffA σ n 6 0 = ffA σ n (6 - 6) 6) → V X 24 [.ref (xad X 10), .int (nI (1 + 3 * 6))] [] (ffS σ 6 0) := by
      intro hv24
      have h107 : codeT σ n 0 = 107 := c17
      refine V_aload_n_0 (q := 25) C rfl dX6_firstFault_24 ?_
      refine gf_X6_19 (q := 28) C rfl dX6_firstFault_25 ?_
      refine V_bipush (q := 30) (v := 6) C (by decide) rfl dX6_firstFault_28 ?_
      refine V_icmp_ge_t (tgt := 92) C (by show (6 : Int32) ≤ nI 6; decide) (by decide) dX6_firstFault_30 ?_
      exact k92 6 (Nat.le_refl _) h107 (by rw [hv24]; rfl)
    have hs24 : ∀ m : Nat, m < 6 → ((ffA σ n 6 0 = ffA σ n (6 - (m + 1)) (m + 1)) → V X 24 [.ref (xad X 10), .int (nI (1 + 3 * (m + 1)))] [] (ffS σ (m + 1) 0)) → (ffA σ n 6 0 = ffA σ n (6 - m) m) → V X 24 [.ref (xad X 10), .int (nI (1 + 3 * m))] [] (ffS σ m 0) := by
      intro m hi24 ih24 hv24
      have h107 : codeT σ n 0 = 107 := c17
      have hv : ffA σ n 6 0 = ffA σ n (5 - m + 1) m := by rw [hv24]; congr 1; omega
      refine V_aload_n_0 (q := 25) C rfl dX6_firstFault_24 ?_
      refine gf_X6_19 (q := 28) C rfl dX6_firstFault_25 ?_
      refine V_bipush (q := 30) (v := 6) C (by decide) rfl dX6_firstFault_28 ?_
      refine V_icmp_ge_f (tgt := 92) C (by show ¬ (6 : Int32) ≤ nI m; exact nI_ge (b := 6) hi24 (by omega)) rfl (by decide) dX6_firstFault_30 ?_
      refine V_aload_n_0 (q := 34) C rfl dX6_firstFault_33 ?_
      refine V_iload_n_1 (q := 35) C rfl dX6_firstFault_34 ?_
      refine V_cV1r (q := 38) C (Ct.mono (v' := some (.int (kdT (codeT σ n (1 + 3 * m))))) (c_X6_kindAt (ffS σ m 0) n (1 + 3 * m) hn hn50 (by omega)) rfl rfl) cw_X6_kindAt cv_X6_kindAt wm_X6_40 (by decide) ob_X6 ⟨by decide, by decide⟩ (Nat.le_of_ble_eq_true rfl) rfl dX6_firstFault_35 ?_
      refine V_bipush (q := 40) (v := (-9)) C (by decide) rfl dX6_firstFault_38 ?_
      refine V_icmp_eq (tgt := 92) C rfl (by decide) dX6_firstFault_40 (fun c40 => ?_) (fun c40 => ?_)
      · exact k92 m (by omega) h107 (by rw [hv]; rw [ffA_s, if_pos c40])
      · refine V_aload_n_0 (q := 44) C rfl dX6_firstFault_43 ?_
        refine V_iload_n_1 (q := 45) C rfl dX6_firstFault_44 ?_
        refine V_iconst (q := 46) (v := 1) C rfl rfl dX6_firstFault_45 ?_
        refine V_iadd (q := 47) C rfl dX6_firstFault_46 ?_
        rw [show nI (1 + 3 * m) + 1 = nI (2 + 3 * m) from nI_k (k := 1) (by omega)]
        refine V_iconst (q := 48) (v := 0) C rfl rfl dX6_firstFault_47 ?_
        refine V_iconst (q := 49) (v := 5) C rfl rfl dX6_firstFault_48 ?_
        refine V_cV3r (q := 52) C (Ct.mono (v' := some (.int (pI (isD σ n (2 + 3 * m) 0 5)))) (c_X6_isDigit (ffS σ m 0) n (2 + 3 * m) 0 5 hn hn50 (by omega)) rfl rfl) cw_X6_isDigit cv_X6_isDigit wm_X6_43 (by decide) ob_X6 ⟨by decide, by decide⟩ (Nat.le_of_ble_eq_true rfl) rfl dX6_firstFault_49 ?_
        refine V_ifp_ne (tgt := 59) C rfl (by decide) dX6_firstFault_52 (fun c52 => ?_) (fun c52 => ?_)
        · refine V_aload_n_0 (q := 60) C rfl dX6_firstFault_59 ?_
          refine V_iload_n_1 (q := 61) C rfl dX6_firstFault_60 ?_
          refine V_iconst (q := 62) (v := 2) C rfl rfl dX6_firstFault_61 ?_
          refine V_iadd (q := 63) C rfl dX6_firstFault_62 ?_
          rw [show nI (1 + 3 * m) + 2 = nI (3 + 3 * m) from nI_k (k := 2) (by omega)]
          refine V_iconst (q := 64) (v := 1) C rfl rfl dX6_firstFault_63 ?_
          refine V_bipush (q := 66) (v := 9) C (by decide) rfl dX6_firstFault_64 ?_
          refine V_cV3r (q := 69) C (Ct.mono (v' := some (.int (pI (isD σ n (3 + 3 * m) 1 9)))) (c_X6_isDigit (ffS σ m 0) n (3 + 3 * m) 1 9 hn hn50 (by omega)) rfl rfl) cw_X6_isDigit cv_X6_isDigit wm_X6_43 (by decide) ob_X6 ⟨by decide, by decide⟩ (Nat.le_of_ble_eq_true rfl) rfl dX6_firstFault_66 ?_
          refine V_ifp_ne (tgt := 76) C rfl (by decide) dX6_firstFault_69 (fun c69 => ?_) (fun c69 => ?_)
          · refine V_aload_n_0 (q := 77) C rfl dX6_firstFault_76 ?_
            refine V_dup (q := 78) C rfl rfl dX6_firstFault_77 ?_
            refine gf_X6_19 (q := 81) C rfl dX6_firstFault_78 ?_
            refine V_iconst (q := 82) (v := 1) C rfl rfl dX6_firstFault_81 ?_
            refine V_iadd (q := 83) C rfl dX6_firstFault_82 ?_
            refine pf_X6_19 (q := 86) C rfl dX6_firstFault_83 ?_
            refine V_iinc_1 (q := 89) (n := 3) C (nI_k (a := 1 + 3 * m) (b := 1 + 3 * (m + 1)) (k := 3) (by omega)) hn1 rfl rfl dX6_firstFault_86 ?_
            refine V_goto (tgt := 24) C (by decide) dX6_firstFault_89 ?_
            refine V_eq (by show setf (ffS σ m 0) 10 2 (nI m + 1) = ffS σ (m + 1) 0; rw [show nI m + 1 = nI (m + 1) from nI_1 m, ffS_m]) (ih24 ?_)
            rw [hv, show 6 - (m + 1) = 5 - m by omega]
            rw [ffA_s, if_neg c40, if_neg (nn c52), if_neg (nn c69)]
          · refine V_iload_n_1 (q := 73) C rfl dX6_firstFault_72 ?_
            refine V_iconst (q := 74) (v := 2) C rfl rfl dX6_firstFault_73 ?_
            refine V_iadd (q := 75) C rfl dX6_firstFault_74 ?_
            rw [show nI (1 + 3 * m) + 2 = nI (3 + 3 * m) from nI_k (k := 2) (by omega)]
            refine V_iret C hR dX6_firstFault_75 ?_
            have hA : ffA σ n 6 0 = (m, some (3 + 3 * m)) := by rw [hv]; rw [ffA_s, if_neg c40, if_neg (nn c52), if_pos c69]
            refine ⟨?_, ?_⟩ <;> (unfold ffR; rw [if_neg (nn h107), hA]) <;> rfl
        · refine V_iload_n_1 (q := 56) C rfl dX6_firstFault_55 ?_
          refine V_iconst (q := 57) (v := 1) C rfl rfl dX6_firstFault_56 ?_
          refine V_iadd (q := 58) C rfl dX6_firstFault_57 ?_
          rw [show nI (1 + 3 * m) + 1 = nI (2 + 3 * m) from nI_k (k := 1) (by omega)]
          refine V_iret C hR dX6_firstFault_58 ?_
          have hA : ffA σ n 6 0 = (m, some (2 + 3 * m)) := by rw [hv]; rw [ffA_s, if_neg c40, if_pos c52]
          refine ⟨?_, ?_⟩ <;> (unfold ffR; rw [if_neg (nn h107), hA]) <;> rfl
    exact V_eq (rfl) (loopN (P := fun m => (ffA σ n 6 0 = ffA σ n (6 - m) m) → V X 24 [.ref (xad X 10), .int (nI (1 + 3 * m))] [] (ffS σ m 0)) (6) hx24 hs24 0 (Nat.zero_le _) (rfl))
  · refine V_iconst (q := 21) (v := 0) C rfl rfl dX6_firstFault_20 ?_
    refine V_iret C hR dX6_firstFault_21 ?_
    refine ⟨?_, ?_⟩ <;> (unfold ffR; rw [if_pos c17]) <;> rfl

set_option maxHeartbeats 4000000 in
set_option maxRecDepth 100000 in
theorem c_X7_clear {l : Launch} {D : DD} {ad : Nat → Nat} (σ : ST)  : Ct l yX7_clear cX7_clear 1 (Option.none : Option FieldType) 1 23 D ad [.ref (ad 21)] σ (ex none (setf (setf (setc (setc σ 22 (fun _ => 0)) 23 (fun _ => -9)) 21 4 0) 21 5 0)) := by
  refine Ct.of2 [.ref (ad 21)] rfl (Nat.le_of_ble_eq_true rfl) rfl ?_
  rintro X C rfl rfl rfl hxn hR
  refine V_aload_n_0 (q := 1) C rfl dX7_clear_0 ?_
  refine gf_X7_9 (q := 4) C rfl dX7_clear_1 ?_
  refine V_iconst (q := 5) (v := 0) C rfl rfl dX7_clear_4 ?_
  refine V_cS2v (q := 8) C (c_J7_fill_53178 σ 22 0 rfl (by decide) (by decide)) cw_J7_fill_53178 cs_J7_fill_53178 wm_X7_31 ⟨by decide, by decide⟩ (Nat.le_of_ble_eq_true rfl) rfl dX7_clear_5 ?_
  refine V_aload_n_0 (q := 9) C rfl dX7_clear_8 ?_
  refine gf_X7_15 (q := 12) C rfl dX7_clear_9 ?_
  refine V_bipush (q := 14) (v := (-9)) C (by decide) rfl dX7_clear_12 ?_
  refine V_cS2v (q := 17) C (c_J7_fill_53178 _ 23 (-9) rfl (by decide) (by decide)) cw_J7_fill_53178 cs_J7_fill_53178 wm_X7_31 ⟨by decide, by decide⟩ (Nat.le_of_ble_eq_true rfl) rfl dX7_clear_14 ?_
  refine V_aload_n_0 (q := 18) C rfl dX7_clear_17 ?_
  refine V_iconst (q := 19) (v := 0) C rfl rfl dX7_clear_18 ?_
  refine pf_X7_24 (q := 22) C rfl dX7_clear_19 ?_
  refine V_aload_n_0 (q := 23) C rfl dX7_clear_22 ?_
  refine V_iconst (q := 24) (v := 0) C rfl rfl dX7_clear_23 ?_
  refine pf_X7_28 (q := 27) C rfl dX7_clear_24 ?_
  refine V_vret C hR dX7_clear_27 ?_
  exact ⟨rfl, rfl⟩

set_option maxHeartbeats 4000000 in
set_option maxRecDepth 100000 in
theorem c_X7_addCrow {l : Launch} {D : DD} {ad : Nat → Nat} (σ : ST) (d t : Int32) (n : Nat) (hC : σ 21 5 = nI n) (hC6 : n < 6) : Ct l yX7_addCrow cX7_addCrow 3 (Option.some FieldType.int) 0 0 D ad [.ref (ad 21), .int d, .int t] σ (ex (some (.int (σ 21 5 + 1 - 1))) (setf (setf (setf σ 24 n d) 25 n t) 21 5 (σ 21 5 + 1))) := by
  refine Ct.of2 [.ref (ad 21), .int d, .int t] rfl (Nat.le_of_ble_eq_true rfl) rfl ?_
  rintro X C rfl rfl rfl hxn hR
  refine V_aload_n_0 (q := 1) C rfl dX7_addCrow_0 ?_
  refine gf_X7_18 (q := 4) C rfl dX7_addCrow_1 ?_
  refine V_aload_n_0 (q := 5) C rfl dX7_addCrow_4 ?_
  refine gf_X7_28 (q := 8) C rfl dX7_addCrow_5 ?_
  refine V_iload_n_1 (q := 9) C rfl dX7_addCrow_8 ?_
  refine V_iast (q := 10) C n hC (by show _ < 6; omega) rfl (by decide) (by decide) rfl dX7_addCrow_9 ?_
  refine V_aload_n_0 (q := 11) C rfl dX7_addCrow_10 ?_
  refine gf_X7_21 (q := 14) C rfl dX7_addCrow_11 ?_
  refine V_aload_n_0 (q := 15) C rfl dX7_addCrow_14 ?_
  refine gf_X7_28 (q := 18) C rfl dX7_addCrow_15 ?_
  refine V_iload_n_2 (q := 19) C rfl dX7_addCrow_18 ?_
  refine V_iast (q := 20) C n hC (by show _ < 6; omega) rfl (by decide) (by decide) rfl dX7_addCrow_19 ?_
  refine V_aload_n_0 (q := 21) C rfl dX7_addCrow_20 ?_
  refine V_dup (q := 22) C rfl rfl dX7_addCrow_21 ?_
  refine gf_X7_28 (q := 25) C rfl dX7_addCrow_22 ?_
  refine V_iconst (q := 26) (v := 1) C rfl rfl dX7_addCrow_25 ?_
  refine V_iadd (q := 27) C rfl dX7_addCrow_26 ?_
  refine pf_X7_28 (q := 30) C rfl dX7_addCrow_27 ?_
  refine V_aload_n_0 (q := 31) C rfl dX7_addCrow_30 ?_
  refine gf_X7_28 (q := 34) C rfl dX7_addCrow_31 ?_
  refine V_iconst (q := 35) (v := 1) C rfl rfl dX7_addCrow_34 ?_
  refine V_isub (q := 36) C rfl dX7_addCrow_35 ?_
  refine V_iret C hR dX7_addCrow_36 ?_
  exact ⟨rfl, rfl⟩


abbrev agr (σ : ST) (r : Nat) : Prop := pI (σ 35 (σ 27 r).toNatClampNeg ≤ σ 28 r) = σ 29 r
end
section
/-! the class: what is planted -/
section PLANT
variable (σ : ST) (n T P : Nat)
def plK (t : Nat) : Int32 := kdT (codeT σ n (1 + 3 * t))
def plL (t : Nat) : Int32 := digT σ n (2 + 3 * t)
def plN (t : Nat) : Int32 := digT σ n (3 + 3 * t)
def plW (t : Nat) : Int32 := wantC (plK σ n t) (plN σ n t)
def plPL (p : Nat) : Int32 := digT σ n (1 + 3 * T + 4 * p + 1)
def plTm (p : Nat) : Int32 := termT σ n (1 + 3 * T + 4 * p + 2)
def pl0 : ST := setf (setf (setf σ 12 0 (σ 10 2)) 12 1 (σ 10 3)) 12 2 0
def plA (i : Nat) : ST := setc (setc (setc (setc (pl0 σ) 13 (pre i (plK σ n) (σ 13))) 14 (pre i (plL σ n) (σ 14))) 15 (pre i (plN σ n) (σ 15))) 16 (pre i (plW σ n) (σ 16))
def plE : Nat → Nat → Int32
  | 0 => fun _ => 0
  | p + 1 => upd (plE p) (plTm σ n T p).toNatClampNeg (plE p (plTm σ n T p).toNatClampNeg ||| own1 (nI p))
def plB (i : Nat) : ST := setc (setc (setc (plA σ n T) 18 (pre i (plPL σ n T) (σ 18))) 19 (pre i (plTm σ n T) (σ 19))) 20 (plE σ n T i)
def plC (i : Nat) : ST := setc (plB σ n T P) 17 (pre i (fun t => fitC (plB σ n T P) t P) (σ 17))
end PLANT
theorem termT_d {σ : ST} {n j : Nat} : ∃ d : Nat, d < 30 ∧ termT σ n j = nI d := by
  unfold termT
  by_cases h : isT 30 (10 * digT σ n j + digT σ n (j + 1))
  · rw [if_pos h]
    exact isT_of h rfl (by decide)
  · rw [if_neg h]
    exact ⟨29, by decide, rfl⟩

set_option maxHeartbeats 4000000 in
set_option maxRecDepth 100000 in
theorem c_X1_plant {l : Launch} {D : DD} {ad : Nat → Nat} (σ : ST) (n T P : Nat) (hn : σ 10 1 = nI n) (hn50 : n ≤ 50) (hT : σ 10 2 = nI T) (hT6 : T ≤ 6) (hP : σ 10 3 = nI P) (hP6 : P ≤ 6) : Ct l yX1_plant cX1_plant 4 (Option.none : Option FieldType) 3 64 D ad [.ref (ad 12), .ref (ad 10)] σ (ex none (plC σ n T P T)) := by
  refine Ct.of2 [.ref (ad 12), .ref (ad 10), .float 0, .float 0] rfl (Nat.le_of_ble_eq_true rfl) rfl ?_
  rintro X C rfl rfl rfl hxn hR
  have hn2 : 2 < xn X := by rw [← hxn]; decide
  have hn3 : 3 < xn X := by rw [← hxn]; decide
  refine V_aload_n_0 (q := 1) C rfl dX1_plant_0 ?_
  refine V_aload_n_1 (q := 2) C rfl dX1_plant_1 ?_
  refine gf_X1_46 (q := 5) C rfl dX1_plant_2 ?_
  refine pf_X1_9 (q := 8) C rfl dX1_plant_5 ?_
  refine V_aload_n_0 (q := 9) C rfl dX1_plant_8 ?_
  refine V_aload_n_1 (q := 10) C rfl dX1_plant_9 ?_
  refine gf_X1_49 (q := 13) C rfl dX1_plant_10 ?_
  refine pf_X1_15 (q := 16) C rfl dX1_plant_13 ?_
  refine V_aload_n_0 (q := 17) C rfl dX1_plant_16 ?_
  refine V_iconst (q := 18) (v := 0) C rfl rfl dX1_plant_17 ?_
  refine pf_X1_18 (q := 21) C rfl dX1_plant_18 ?_
  refine V_iconst (q := 22) (v := (nI (1 + 3 * 0))) C rfl rfl dX1_plant_21 ?_
  refine V_istore_n_2 (q := 23) C hn2 rfl rfl dX1_plant_22 ?_
  refine V_iconst (q := 24) (v := (nI 0)) C rfl rfl dX1_plant_23 ?_
  refine V_istore_n_3 (q := 25) C hn3 rfl rfl dX1_plant_24 ?_
  have hx25 : V X 25 [.ref (xad X 12), .ref (xad X 10), .int (nI (1 + 3 * T)), .int (nI T)] [] (plA σ n T) := by
    refine V_iload_n_3 (q := 26) C rfl dX1_plant_25 ?_
    refine V_aload_n_0 (q := 27) C rfl dX1_plant_26 ?_
    refine gf_X1_9 (q := 30) C rfl dX1_plant_27 ?_
    rw [show plA σ n T 12 0 = nI T from hT]
    refine V_icmp_ge_t (tgt := 90) C (nI_le (Nat.le_refl _) (by omega)) (by decide) dX1_plant_30 ?_
    refine V_aload_n_0 (q := 91) C rfl dX1_plant_90 ?_
    refine gf_X1_43 (q := 94) C rfl dX1_plant_91 ?_
    refine V_iconst (q := 95) (v := 0) C rfl rfl dX1_plant_94 ?_
    refine V_cS2v (q := 98) C (c_J7_fill_53178 _ 20 0 rfl (by decide) (by decide)) cw_J7_fill_53178 cs_J7_fill_53178 wm_X1_60 ⟨by decide, by decide⟩ (Nat.le_of_ble_eq_true rfl) rfl dX1_plant_95 ?_
    refine V_iconst (q := 99) (v := (nI 0)) C rfl rfl dX1_plant_98 ?_
    refine V_istore_n_3 (q := 100) C hn3 rfl rfl dX1_plant_99 ?_
    have hx100 : V X 100 [.ref (xad X 12), .ref (xad X 10), .int (nI (1 + 3 * T + 4 * P)), .int (nI P)] [] (plB σ n T P) := by
      refine V_iload_n_3 (q := 101) C rfl dX1_plant_100 ?_
      refine V_aload_n_0 (q := 102) C rfl dX1_plant_101 ?_
      refine gf_X1_15 (q := 105) C rfl dX1_plant_102 ?_
      rw [show plB σ n T P 12 1 = nI P from hP]
      refine V_icmp_ge_t (tgt := 160) C (nI_le (Nat.le_refl _) (by omega)) (by decide) dX1_plant_105 ?_
      refine V_iconst (q := 161) (v := (nI 0)) C rfl rfl dX1_plant_160 ?_
      refine V_istore_n_3 (q := 162) C hn3 rfl rfl dX1_plant_161 ?_
      have hx162 : V X 162 [.ref (xad X 12), .ref (xad X 10), .int (nI (1 + 3 * T + 4 * P)), .int (nI T)] [] (plC σ n T P T) := by
        refine V_iload_n_3 (q := 163) C rfl dX1_plant_162 ?_
        refine V_aload_n_0 (q := 164) C rfl dX1_plant_163 ?_
        refine gf_X1_9 (q := 167) C rfl dX1_plant_164 ?_
        rw [show plC σ n T P T 12 0 = nI T from hT]
        refine V_icmp_ge_t (tgt := 187) C (nI_le (Nat.le_refl _) (by omega)) (by decide) dX1_plant_167 ?_
        refine V_vret C hR dX1_plant_187 ?_
        exact ⟨rfl, rfl⟩
      have hs162 : ∀ t : Nat, t < T → (V X 162 [.ref (xad X 12), .ref (xad X 10), .int (nI (1 + 3 * T + 4 * P)), .int (nI (t + 1))] [] (plC σ n T P (t + 1))) → V X 162 [.ref (xad X 12), .ref (xad X 10), .int (nI (1 + 3 * T + 4 * P)), .int (nI t)] [] (plC σ n T P t) := by
        intro t hi162 ih162
        refine V_iload_n_3 (q := 163) C rfl dX1_plant_162 ?_
        refine V_aload_n_0 (q := 164) C rfl dX1_plant_163 ?_
        refine gf_X1_9 (q := 167) C rfl dX1_plant_164 ?_
        rw [show plC σ n T P t 12 0 = nI T from hT]
        refine V_icmp_ge_f (tgt := 187) C (nI_ge hi162 (by omega)) rfl (by decide) dX1_plant_167 ?_
        refine V_aload_n_0 (q := 171) C rfl dX1_plant_170 ?_
        refine gf_X1_34 (q := 174) C rfl dX1_plant_171 ?_
        refine V_iload_n_3 (q := 175) C rfl dX1_plant_174 ?_
        refine V_aload_n_0 (q := 176) C rfl dX1_plant_175 ?_
        refine V_iload_n_3 (q := 177) C rfl dX1_plant_176 ?_
        refine V_cV1r (q := 180) C (Ct.mono (v' := some (.int (fitC (plB σ n T P) t P))) (c_X1_prisonersFitting (plC σ n T P t) t P (by omega) hP hP6) rfl rfl) cw_X1_prisonersFitting cv_X1_prisonersFitting wm_X1_69 (by decide) ob_X1 ⟨by decide, by decide⟩ (Nat.le_of_ble_eq_true rfl) rfl dX1_plant_177 ?_
        refine V_iast (q := 181) C _ rfl (by show _ < 6; omega) rfl (by decide) (by decide) rfl dX1_plant_180 ?_
        refine V_iinc_3 (q := 184) (n := 1) C nI_inc hn3 rfl rfl dX1_plant_181 ?_
        refine V_goto (tgt := 162) C (by decide) dX1_plant_184 ?_
        refine V_eq ?_ ih162
        funext z
        by_cases e0 : z = 17
        · subst e0
          show upd (pre t (fun t => fitC (plB σ n T P) t P) (σ 17)) t _ = pre (t + 1) (fun t => fitC (plB σ n T P) t P) (σ 17)
          exact pre_step rfl
        · skip
          simp only [plC, setf, setc, if_neg e0]
      exact V_eq (by unfold plC; rw [pre_0]; symm; funext z; by_cases e0 : z = 17; subst e0; rfl; simp only [setc, if_neg e0]) (loopN (P := fun t => V X 162 [.ref (xad X 12), .ref (xad X 10), .int (nI (1 + 3 * T + 4 * P)), .int (nI t)] [] (plC σ n T P t)) (T) hx162 hs162 0 (Nat.zero_le _))
    have hs100 : ∀ p : Nat, p < P → (V X 100 [.ref (xad X 12), .ref (xad X 10), .int (nI (1 + 3 * T + 4 * (p + 1))), .int (nI (p + 1))] [] (plB σ n T (p + 1))) → V X 100 [.ref (xad X 12), .ref (xad X 10), .int (nI (1 + 3 * T + 4 * p)), .int (nI p)] [] (plB σ n T p) := by
      intro p hi100 ih100
      obtain ⟨d, hd, ed⟩ := termT_d (σ := σ) (n := n) (j := 1 + 3 * T + 4 * p + 2)
      refine V_iload_n_3 (q := 101) C rfl dX1_plant_100 ?_
      refine V_aload_n_0 (q := 102) C rfl dX1_plant_101 ?_
      refine gf_X1_15 (q := 105) C rfl dX1_plant_102 ?_
      rw [show plB σ n T p 12 1 = nI P from hP]
      refine V_icmp_ge_f (tgt := 160) C (nI_ge hi100 (by omega)) rfl (by decide) dX1_plant_105 ?_
      refine V_aload_n_0 (q := 109) C rfl dX1_plant_108 ?_
      refine gf_X1_37 (q := 112) C rfl dX1_plant_109 ?_
      refine V_iload_n_3 (q := 113) C rfl dX1_plant_112 ?_
      refine V_aload_n_1 (q := 114) C rfl dX1_plant_113 ?_
      refine V_iload_n_2 (q := 115) C rfl dX1_plant_114 ?_
      refine V_iconst (q := 116) (v := 1) C rfl rfl dX1_plant_115 ?_
      refine V_iadd (q := 117) C rfl dX1_plant_116 ?_
      rw [show nI (1 + 3 * T + 4 * p) + 1 = nI (1 + 3 * T + 4 * p + 1) from nI_1 _]
      refine V_cV1r (q := 120) C (Ct.mono (v' := some (.int (plPL σ n T p))) (c_X6_digitAt (plB σ n T p) n (1 + 3 * T + 4 * p + 1) hn hn50 (by omega)) rfl rfl) cw_X6_digitAt cv_X6_digitAt wm_X1_54 (by decide) ob_X6 ⟨by decide, by decide⟩ (Nat.le_of_ble_eq_true rfl) rfl dX1_plant_117 ?_
      refine V_iast (q := 121) C _ rfl (by show _ < 6; omega) rfl (by decide) (by decide) rfl dX1_plant_120 ?_
      refine V_aload_n_0 (q := 122) C rfl dX1_plant_121 ?_
      refine gf_X1_40 (q := 125) C rfl dX1_plant_122 ?_
      refine V_iload_n_3 (q := 126) C rfl dX1_plant_125 ?_
      refine V_aload_n_1 (q := 127) C rfl dX1_plant_126 ?_
      refine V_iload_n_2 (q := 128) C rfl dX1_plant_127 ?_
      refine V_iconst (q := 129) (v := 2) C rfl rfl dX1_plant_128 ?_
      refine V_iadd (q := 130) C rfl dX1_plant_129 ?_
      rw [show nI (1 + 3 * T + 4 * p) + 2 = nI (1 + 3 * T + 4 * p + 2) from nI_k (k := 2) rfl]
      refine V_cV1r (q := 133) C (Ct.mono (v' := some (.int (plTm σ n T p))) (c_X6_termAt _ n (1 + 3 * T + 4 * p + 2) hn hn50 (by omega)) rfl rfl) cw_X6_termAt cv_X6_termAt wm_X1_66 (by decide) ob_X6 ⟨by decide, by decide⟩ (Nat.le_of_ble_eq_true rfl) rfl dX1_plant_130 ?_
      refine V_iast (q := 134) C _ rfl (by show _ < 6; omega) rfl (by decide) (by decide) rfl dX1_plant_133 ?_
      refine V_aload_n_0 (q := 135) C rfl dX1_plant_134 ?_
      refine gf_X1_43 (q := 138) C rfl dX1_plant_135 ?_
      refine V_aload_n_0 (q := 139) C rfl dX1_plant_138 ?_
      refine gf_X1_40 (q := 142) C rfl dX1_plant_139 ?_
      refine V_iload_n_3 (q := 143) C rfl dX1_plant_142 ?_
      refine V_iald (q := 144) C _ rfl (by show _ < 6; omega) rfl (by decide) (by decide) rfl dX1_plant_143 ?_
      rw [show setf (setf (plB σ n T p) 18 p (plPL σ n T p)) 19 p (plTm σ n T p) 19 p = nI d from by show upd _ p (plTm σ n T p) p = _; rw [pk_us]; exact ed]
      refine V_dup2 (q := 145) C rfl rfl rfl dX1_plant_144 ?_
      refine V_iald (q := 146) C d rfl (by show _ < 30; omega) rfl (by decide) (by decide) rfl dX1_plant_145 ?_
      refine V_iconst (q := 147) (v := 1) C rfl rfl dX1_plant_146 ?_
      refine V_iload_n_3 (q := 148) C rfl dX1_plant_147 ?_
      refine V_ishl (q := 149) C rfl dX1_plant_148 ?_
      refine V_ior (q := 150) C rfl dX1_plant_149 ?_
      refine V_iast (q := 151) C d rfl (by show _ < 30; omega) rfl (by decide) (by decide) rfl dX1_plant_150 ?_
      refine V_iinc_2 (q := 154) (n := 4) C (nI_k (a := 1 + 3 * T + 4 * p) (b := 1 + 3 * T + 4 * (p + 1)) (k := 4) (by omega)) hn2 rfl rfl dX1_plant_151 ?_
      refine V_iinc_3 (q := 157) (n := 1) C nI_inc hn3 rfl rfl dX1_plant_154 ?_
      refine V_goto (tgt := 100) C (by decide) dX1_plant_157 ?_
      refine V_eq ?_ ih100
      funext z
      by_cases e0 : z = 18
      · subst e0
        show upd (pre p (plPL σ n T) (σ 18)) p _ = pre (p + 1) (plPL σ n T) (σ 18)
        exact pre_step rfl
      · skip
        by_cases e1 : z = 19
        · subst e1
          show upd (pre p (plTm σ n T) (σ 19)) p _ = pre (p + 1) (plTm σ n T) (σ 19)
          exact pre_step rfl
        · skip
          by_cases e2 : z = 20
          · subst e2
            show upd (plE σ n T p) d (plE σ n T p d ||| own1 (nI p)) = upd (plE σ n T p) (plTm σ n T p).toNatClampNeg (plE σ n T p (plTm σ n T p).toNatClampNeg ||| own1 (nI p))
            rw [show plTm σ n T p = nI d from ed, nI_clamp (by omega)]
          · skip
            simp only [plB, setf, setc, if_neg e0, if_neg e1, if_neg e2]
    exact V_eq (by unfold plB; rw [pre_0, pre_0]; symm; funext z; by_cases e0 : z = 18; subst e0; rfl; by_cases e1 : z = 19; subst e1; rfl; by_cases e2 : z = 20; subst e2; rfl; simp only [setc, if_neg e0, if_neg e1, if_neg e2]) (loopN (P := fun p => V X 100 [.ref (xad X 12), .ref (xad X 10), .int (nI (1 + 3 * T + 4 * p)), .int (nI p)] [] (plB σ n T p)) (P) hx100 hs100 0 (Nat.zero_le _))
  have hs25 : ∀ i : Nat, i < T → (V X 25 [.ref (xad X 12), .ref (xad X 10), .int (nI (1 + 3 * (i + 1))), .int (nI (i + 1))] [] (plA σ n (i + 1))) → V X 25 [.ref (xad X 12), .ref (xad X 10), .int (nI (1 + 3 * i)), .int (nI i)] [] (plA σ n i) := by
    intro i hi25 ih25
    refine V_iload_n_3 (q := 26) C rfl dX1_plant_25 ?_
    refine V_aload_n_0 (q := 27) C rfl dX1_plant_26 ?_
    refine gf_X1_9 (q := 30) C rfl dX1_plant_27 ?_
    rw [show plA σ n i 12 0 = nI T from hT]
    refine V_icmp_ge_f (tgt := 90) C (nI_ge hi25 (by omega)) rfl (by decide) dX1_plant_30 ?_
    refine V_aload_n_0 (q := 34) C rfl dX1_plant_33 ?_
    refine gf_X1_21 (q := 37) C rfl dX1_plant_34 ?_
    refine V_iload_n_3 (q := 38) C rfl dX1_plant_37 ?_
    refine V_aload_n_1 (q := 39) C rfl dX1_plant_38 ?_
    refine V_iload_n_2 (q := 40) C rfl dX1_plant_39 ?_
    refine V_cV1r (q := 43) C (Ct.mono (v' := some (.int (plK σ n i))) (c_X6_kindAt (plA σ n i) n (1 + 3 * i) hn hn50 (by omega)) rfl rfl) cw_X6_kindAt cv_X6_kindAt wm_X1_50 (by decide) ob_X6 ⟨by decide, by decide⟩ (Nat.le_of_ble_eq_true rfl) rfl dX1_plant_40 ?_
    refine V_iast (q := 44) C _ rfl (by show _ < 6; omega) rfl (by decide) (by decide) rfl dX1_plant_43 ?_
    refine V_aload_n_0 (q := 45) C rfl dX1_plant_44 ?_
    refine gf_X1_25 (q := 48) C rfl dX1_plant_45 ?_
    refine V_iload_n_3 (q := 49) C rfl dX1_plant_48 ?_
    refine V_aload_n_1 (q := 50) C rfl dX1_plant_49 ?_
    refine V_iload_n_2 (q := 51) C rfl dX1_plant_50 ?_
    refine V_iconst (q := 52) (v := 1) C rfl rfl dX1_plant_51 ?_
    refine V_iadd (q := 53) C rfl dX1_plant_52 ?_
    rw [show nI (1 + 3 * i) + 1 = nI (2 + 3 * i) from nI_k (k := 1) (by omega)]
    refine V_cV1r (q := 56) C (Ct.mono (v' := some (.int (plL σ n i))) (c_X6_digitAt _ n (2 + 3 * i) hn hn50 (by omega)) rfl rfl) cw_X6_digitAt cv_X6_digitAt wm_X1_54 (by decide) ob_X6 ⟨by decide, by decide⟩ (Nat.le_of_ble_eq_true rfl) rfl dX1_plant_53 ?_
    refine V_iast (q := 57) C _ rfl (by show _ < 6; omega) rfl (by decide) (by decide) rfl dX1_plant_56 ?_
    refine V_aload_n_0 (q := 58) C rfl dX1_plant_57 ?_
    refine gf_X1_28 (q := 61) C rfl dX1_plant_58 ?_
    refine V_iload_n_3 (q := 62) C rfl dX1_plant_61 ?_
    refine V_aload_n_1 (q := 63) C rfl dX1_plant_62 ?_
    refine V_iload_n_2 (q := 64) C rfl dX1_plant_63 ?_
    refine V_iconst (q := 65) (v := 2) C rfl rfl dX1_plant_64 ?_
    refine V_iadd (q := 66) C rfl dX1_plant_65 ?_
    rw [show nI (1 + 3 * i) + 2 = nI (3 + 3 * i) from nI_k (k := 2) (by omega)]
    refine V_cV1r (q := 69) C (Ct.mono (v' := some (.int (plN σ n i))) (c_X6_digitAt _ n (3 + 3 * i) hn hn50 (by omega)) rfl rfl) cw_X6_digitAt cv_X6_digitAt wm_X1_54 (by decide) ob_X6 ⟨by decide, by decide⟩ (Nat.le_of_ble_eq_true rfl) rfl dX1_plant_66 ?_
    refine V_iast (q := 70) C _ rfl (by show _ < 6; omega) rfl (by decide) (by decide) rfl dX1_plant_69 ?_
    refine V_aload_n_0 (q := 71) C rfl dX1_plant_70 ?_
    refine gf_X1_31 (q := 74) C rfl dX1_plant_71 ?_
    refine V_iload_n_3 (q := 75) C rfl dX1_plant_74 ?_
    refine V_aload_n_0 (q := 76) C rfl dX1_plant_75 ?_
    refine V_iload_n_3 (q := 77) C rfl dX1_plant_76 ?_
    refine V_cV1r (q := 80) C (Ct.mono (v' := some (.int (plW σ n i))) (c_X1_waterWantedBy _ i (by omega)) (by show some (Value.int (wantC (upd _ i _ i) (upd _ i _ i))) = _; rw [pk_us, pk_us]; rfl) rfl) cw_X1_waterWantedBy cv_X1_waterWantedBy wm_X1_57 (by decide) ob_X1 ⟨by decide, by decide⟩ (Nat.le_of_ble_eq_true rfl) rfl dX1_plant_77 ?_
    refine V_iast (q := 81) C _ rfl (by show _ < 6; omega) rfl (by decide) (by decide) rfl dX1_plant_80 ?_
    refine V_iinc_2 (q := 84) (n := 3) C (nI_k (a := 1 + 3 * i) (b := 1 + 3 * (i + 1)) (k := 3) (by omega)) hn2 rfl rfl dX1_plant_81 ?_
    refine V_iinc_3 (q := 87) (n := 1) C nI_inc hn3 rfl rfl dX1_plant_84 ?_
    refine V_goto (tgt := 25) C (by decide) dX1_plant_87 ?_
    refine V_eq ?_ ih25
    funext z
    by_cases e0 : z = 13
    · subst e0
      show upd (pre i (plK σ n) (σ 13)) i _ = pre (i + 1) (plK σ n) (σ 13)
      exact pre_step rfl
    · skip
      by_cases e1 : z = 14
      · subst e1
        show upd (pre i (plL σ n) (σ 14)) i _ = pre (i + 1) (plL σ n) (σ 14)
        exact pre_step rfl
      · skip
        by_cases e2 : z = 15
        · subst e2
          show upd (pre i (plN σ n) (σ 15)) i _ = pre (i + 1) (plN σ n) (σ 15)
          exact pre_step rfl
        · skip
          by_cases e3 : z = 16
          · subst e3
            show upd (pre i (plW σ n) (σ 16)) i _ = pre (i + 1) (plW σ n) (σ 16)
            exact pre_step rfl
          · skip
            simp only [plA, setf, setc, if_neg e0, if_neg e1, if_neg e2, if_neg e3]
  exact V_eq (by unfold plA; rw [pre_0, pre_0, pre_0, pre_0]; symm; funext z; by_cases e0 : z = 13; subst e0; rfl; by_cases e1 : z = 14; subst e1; rfl; by_cases e2 : z = 15; subst e2; rfl; by_cases e3 : z = 16; subst e3; rfl; simp only [setc, if_neg e0, if_neg e1, if_neg e2, if_neg e3]; rfl) (loopN (P := fun i => V X 25 [.ref (xad X 12), .ref (xad X 10), .int (nI (1 + 3 * i)), .int (nI i)] [] (plA σ n i)) (T) hx25 hs25 0 (Nat.zero_le _))
end
section
/-! the class: the season -/
theorem upd_upd {f : Nat → Int32} {k : Nat} {x y : Int32} : upd (upd f k x) k y = upd f k y := funext fun t => by
  unfold upd
  by_cases h : t = k
  · rw [if_pos h, if_pos h]
  · rw [if_neg h, if_neg h, if_neg h]
theorem upd_id {f : Nat → Int32} {k : Nat} : upd f k (f k) = f := funext fun t => by
  unfold upd
  by_cases h : t = k
  · rw [if_pos h, h]
  · rw [if_neg h]
abbrev S4 : Type := (Nat → Int32) × (Nat → Int32) × (Nat → Int32) × Int32
def putS (σ : ST) (s : S4) : ST := setc (setc (setc (setf σ 30 9 s.2.2.2) 34 s.1) 35 s.2.1) 36 s.2.2.1
def getS (σ : ST) : S4 := (σ 34, σ 35, σ 36, σ 30 9)
theorem putS_putS {σ : ST} {s : S4} {t : S4} : putS (putS σ s) t = putS σ t := by
  funext z
  by_cases e0 : z = 36
  · subst e0; rfl
  · by_cases e1 : z = 35
    · subst e1; rfl
    · by_cases e2 : z = 34
      · subst e2; rfl
      · by_cases e3 : z = 30
        · subst e3; show upd (upd (σ 30) 9 _) 9 _ = upd (σ 30) 9 _; exact upd_upd
        · simp only [putS, setf, setc, if_neg e0, if_neg e1, if_neg e2, if_neg e3]
theorem putS_w {σ : ST} {s : S4} {w : Nat → Int32} : setc (putS σ s) 34 w = putS σ (w, s.2) := by
  funext z
  by_cases e0 : z = 36
  · subst e0; rfl
  · by_cases e1 : z = 35
    · subst e1; rfl
    · by_cases e2 : z = 34
      · subst e2; rfl
      · by_cases e3 : z = 30
        · subst e3; rfl
        · simp only [putS, setf, setc, if_neg e0, if_neg e1, if_neg e2, if_neg e3]
theorem putS_o {σ : ST} {s : S4} {w : Nat → Int32} : setc (putS σ s) 35 w = putS σ (s.1, w, s.2.2) := by
  funext z
  by_cases e0 : z = 36
  · subst e0; rfl
  · by_cases e1 : z = 35
    · subst e1; rfl
    · by_cases e2 : z = 34
      · subst e2; rfl
      · by_cases e3 : z = 30
        · subst e3; rfl
        · simp only [putS, setf, setc, if_neg e0, if_neg e1, if_neg e2, if_neg e3]
theorem putS_b {σ : ST} {s : S4} {w : Nat → Int32} : setc (putS σ s) 36 w = putS σ (s.1, s.2.1, w, s.2.2.2) := by
  funext z
  by_cases e0 : z = 36
  · subst e0; rfl
  · by_cases e1 : z = 35
    · subst e1; rfl
    · by_cases e2 : z = 34
      · subst e2; rfl
      · by_cases e3 : z = 30
        · subst e3; rfl
        · simp only [putS, setf, setc, if_neg e0, if_neg e1, if_neg e2, if_neg e3]
theorem putS_n {σ : ST} {s : S4} {x : Int32} : setf (putS σ s) 30 9 x = putS σ (s.1, s.2.1, s.2.2.1, x) := by
  funext z
  by_cases e0 : z = 36
  · subst e0; rfl
  · by_cases e1 : z = 35
    · subst e1; rfl
    · by_cases e2 : z = 34
      · subst e2; rfl
      · by_cases e3 : z = 30
        · subst e3; show upd (upd (σ 30) 9 _) 9 _ = upd (σ 30) 9 _; exact upd_upd
        · simp only [putS, setf, setc, if_neg e0, if_neg e1, if_neg e2, if_neg e3]
theorem putS_get {σ : ST} : putS σ (getS σ) = σ := by
  funext z
  by_cases e0 : z = 36
  · subst e0; rfl
  · by_cases e1 : z = 35
    · subst e1; rfl
    · by_cases e2 : z = 34
      · subst e2; rfl
      · by_cases e3 : z = 30
        · subst e3; show upd (σ 30) 9 (σ 30 9) = σ 30; exact upd_id
        · simp only [putS, setf, setc, if_neg e0, if_neg e1, if_neg e2, if_neg e3]
def fstN (q : Nat → Prop) [DecidablePred q] : Nat → Nat → Nat
  | 0, i => i
  | n + 1, i => if q i then i else fstN q n (i + 1)
def lo6 (x : Int32) : Nat := fstN (fun j => bit x (nI j)) 5 0
theorem fstN_le {q : Nat → Prop} [DecidablePred q] : ∀ (n i : Nat), fstN q n i ≤ i + n := by
  intro n
  induction n with
  | zero => intro i; exact Nat.le_refl _
  | succ n ih =>
    intro i
    show (if q i then i else fstN q n (i + 1)) ≤ _
    by_cases h : q i
    · rw [if_pos h]; omega
    · rw [if_neg h]; have := ih (i + 1); omega
theorem lo6_lt (x : Int32) : lo6 x < 6 := by
  have := fstN_le (q := fun j => bit x (nI j)) 5 0
  unfold lo6
  omega
def gwF (T : Nat) (a x : Int32) (w : Nat → Int32) : Nat → Int32 := if isT (nI T) x then upd (pre T (fun t => w t + a) w) x.toNatClampNeg (pre T (fun t => w t + a) w x.toNatClampNeg + 3) else pre T (fun t => w t + a) w
def crG (wn : Nat → Int32) (set : Int32) (w : Nat → Int32) (t : Nat) : Int32 := if bit set (nI t) ∧ wn t ≤ w t then 0 else w t
def lout (s : S4) (p : Nat) (d t : Int32) : S4 := (s.1, upd s.2.1 p d, upd s.2.2.1 p t, s.2.2.2 &&& (own1 (nI p) ^^^ -1))
abbrev tkC (σ : ST) (s : S4) (t : Nat) : Prop := ¬ (σ 17 t &&& s.2.2.2) = 0 ∧ σ 16 t ≤ s.1 t ∧ ¬ bit (σ 30 5) (nI t)
def tkStep (σ : ST) (d : Int32) (t : Nat) (s : S4) : S4 := if tkC σ s t then (upd s.1 t 0, (lout s (lo6 (σ 17 t &&& s.2.2.2)) d (nI t)).2) else s
def tkN (σ : ST) (d : Int32) : Nat → S4 → S4
  | 0, s => s
  | t + 1, s => tkStep σ d t (tkN σ d t s)
def etStep (set d : Int32) (p : Nat) (s : S4) : S4 := if bit set (nI p) then lout s p d (-9) else s
def etN (set d : Int32) : Nat → S4 → S4
  | 0, s => s
  | p + 1, s => etStep set d p (etN set d p s)
abbrev wetC (σ : ST) (d : Nat) : Prop := ¬ bit (σ 30 4) (nI d) ∧ (0 < σ 31 d ∨ ¬ σ 32 d = -9)
def day1 (σ : ST) (T d : Nat) (s : S4) : S4 := if wetC σ d then (gwF T (σ 31 d) (σ 32 d) s.1, s.2) else s
def day2 (σ : ST) (T d : Nat) (s : S4) : S4 := if ¬ σ 33 d = 0 then (pre T (crG (σ 16) (σ 33 d) s.1) s.1, s.2) else s
def day3 (σ : ST) (T d : Nat) (s : S4) : S4 := if wetC σ d then tkN σ (nI d) T s else s
def day4 (σ : ST) (P d : Nat) (s : S4) : S4 := if ¬ (σ 20 d &&& s.2.2.2) = 0 then etN (σ 20 d &&& s.2.2.2) (nI d) P s else s
def dayC (σ : ST) (T P d : Nat) (s : S4) : S4 := day4 σ P d (day3 σ T d (day2 σ T d (day1 σ T d s)))
def daysC (σ : ST) (T P : Nat) : Nat → S4 → S4
  | 0, s => s
  | n + 1, s => dayC σ T P n (daysC σ T P n s)
def runU (σ : ST) (T P : Nat) (set : Int32) : Nat → S4 → S4
  | 0, s => s
  | n + 1, s => if (runU σ T P set n s).2.2.2 &&& set = 0 then runU σ T P set n s else dayC σ T P n (runU σ T P set n s)
def s0C (σ : ST) : S4 := (fun _ => 0, fun _ => -9, fun _ => -9, ones (σ 12 1))
def cntB (b : Nat → Int32) : Nat → Int32
  | 0 => 0
  | p + 1 => if ¬ b p = -9 then cntB b p + 1 else cntB b p
def sumO (f : Nat → Int32) : Nat → Int32
  | 0 => 0
  | p + 1 => sumO f p + f p
def crsF (cd ct : Nat → Int32) : Nat → Nat → Int32
  | 0 => fun _ => 0
  | c + 1 => upd (crsF cd ct c) (cd c).toNatClampNeg (crsF cd ct c (cd c).toNatClampNeg ||| own1 (ct c))
def prepF (σ : ST) (C : Nat) : ST := setf (setf (setc (setc (setc σ 31 (σ 22)) 32 (σ 23)) 33 (crsF (σ 24) (σ 25) C)) 30 4 (σ 21 4)) 30 5 (σ 12 2)

set_option maxHeartbeats 4000000 in
set_option maxRecDepth 100000 in
theorem c_X4_isRipe {l : Launch} {D : DD} {ad : Nat → Nat} (σ : ST) (j : Nat) (hj : j < 6) : Ct l yX4_isRipe cX4_isRipe 2 (Option.some FieldType.boolean) 0 0 D ad [.ref (ad 30), .int (nI j)] σ (ex (some (.int (pI (σ 16 j ≤ σ 34 j)))) σ) := by
  refine Ct.of2 [.ref (ad 30), .int (nI j)] rfl (Nat.le_of_ble_eq_true rfl) rfl ?_
  rintro X C rfl rfl rfl hxn hR
  refine V_aload_n_0 (q := 1) C rfl dX4_isRipe_0 ?_
  refine gf_X4_28 (q := 4) C rfl dX4_isRipe_1 ?_
  refine V_iload_n_1 (q := 5) C rfl dX4_isRipe_4 ?_
  refine V_iald (q := 6) C _ rfl (by show _ < 6; omega) rfl (by decide) (by decide) rfl dX4_isRipe_5 ?_
  refine V_aload_n_0 (q := 7) C rfl dX4_isRipe_6 ?_
  refine gf_X4_40 (q := 10) C rfl dX4_isRipe_7 ?_
  refine gf_X4_120 (q := 13) C rfl dX4_isRipe_10 ?_
  refine V_iload_n_1 (q := 14) C rfl dX4_isRipe_13 ?_
  refine V_iald (q := 15) C _ rfl (by show _ < 6; omega) rfl (by decide) (by decide) rfl dX4_isRipe_14 ?_
  refine V_icmp_lt (tgt := 22) C rfl (by decide) dX4_isRipe_15 (fun c15 => ?_) (fun c15 => ?_)
  · refine V_iconst (q := 23) (v := 0) C rfl rfl dX4_isRipe_22 ?_
    refine V_zret C hR rfl dX4_isRipe_23 ?_
    exact ⟨by rw [pI_f (Int32.not_le.mpr c15)], rfl⟩
  · refine V_iconst (q := 19) (v := 1) C rfl rfl dX4_isRipe_18 ?_
    refine V_goto (tgt := 23) C (by decide) dX4_isRipe_19 ?_
    refine V_zret C hR rfl dX4_isRipe_23 ?_
    exact ⟨by rw [pI_t (Int32.not_lt.mp c15)], rfl⟩


set_option maxHeartbeats 4000000 in
set_option maxRecDepth 100000 in
theorem c_X4_leastOf {l : Launch} {D : DD} {ad : Nat → Nat} (σ : ST) (x : Int32)  : Ct l yX4_leastOf cX4_leastOf 3 (Option.some FieldType.int) 1 21 D ad [.ref (ad 30), .int x] σ (ex (some (.int (nI (lo6 x)))) σ) := by
  refine Ct.of2 [.ref (ad 30), .int x, .float 0] rfl (Nat.le_of_ble_eq_true rfl) rfl ?_
  rintro X C rfl rfl rfl hxn hR
  have hn2 : 2 < xn X := by rw [← hxn]; decide
  refine V_iconst (q := 1) (v := (nI 0)) C rfl rfl dX4_leastOf_0 ?_
  refine V_istore_n_2 (q := 2) C hn2 rfl rfl dX4_leastOf_1 ?_
  have hx2 : (lo6 x = fstN (fun j => bit x (nI j)) (5 - 5) 5) → V X 2 [.ref (xad X 30), .int x, .int (nI 5)] [] (σ) := by
    intro hv2
    refine V_iload_n_2 (q := 3) C rfl dX4_leastOf_2 ?_
    refine V_iconst (q := 4) (v := 5) C rfl rfl dX4_leastOf_3 ?_
    refine V_icmp_ge_t (tgt := 21) C (by decide) (by decide) dX4_leastOf_4 ?_
    refine V_iload_n_2 (q := 22) C rfl dX4_leastOf_21 ?_
    refine V_iret C hR dX4_leastOf_22 ?_
    exact ⟨by rw [hv2]; rfl, rfl⟩
  have hs2 : ∀ i : Nat, i < 5 → ((lo6 x = fstN (fun j => bit x (nI j)) (5 - (i + 1)) (i + 1)) → V X 2 [.ref (xad X 30), .int x, .int (nI (i + 1))] [] (σ)) → (lo6 x = fstN (fun j => bit x (nI j)) (5 - i) i) → V X 2 [.ref (xad X 30), .int x, .int (nI i)] [] (σ) := by
    intro i hi2 ih2 hv2
    refine V_iload_n_2 (q := 3) C rfl dX4_leastOf_2 ?_
    refine V_iconst (q := 4) (v := 5) C rfl rfl dX4_leastOf_3 ?_
    refine V_icmp_ge_f (tgt := 21) C (nI_ge (b := 5) hi2 (by decide)) rfl (by decide) dX4_leastOf_4 ?_
    refine V_iload_n_1 (q := 8) C rfl dX4_leastOf_7 ?_
    refine V_iload_n_2 (q := 9) C rfl dX4_leastOf_8 ?_
    refine V_cN2r (q := 12) C (c_X8_isIn _ _ _) cw_X8_isIn cs_X8_isIn C.K.2.2.1 ⟨by decide, by decide⟩ (Nat.le_of_ble_eq_true rfl) rfl dX4_leastOf_9 ?_
    refine V_ifp_ne (tgt := 21) C rfl (by decide) dX4_leastOf_12 (fun c12 => ?_) (fun c12 => ?_)
    · refine V_iload_n_2 (q := 22) C rfl dX4_leastOf_21 ?_
      refine V_iret C hR dX4_leastOf_22 ?_
      exact ⟨by rw [hv2, show 5 - i = (5 - (i + 1)) + 1 by omega, show fstN (fun j => bit x (nI j)) (5 - (i + 1) + 1) i = i from if_pos c12], rfl⟩
    · refine V_iinc_2 (q := 18) (n := 1) C nI_inc hn2 rfl rfl dX4_leastOf_15 ?_
      refine V_goto (tgt := 2) C (by decide) dX4_leastOf_18 ?_
      refine ih2 ?_
      rw [hv2, show 5 - i = (5 - (i + 1)) + 1 by omega]
      exact if_neg c12
  exact V_eq (rfl) (loopN (P := fun i => (lo6 x = fstN (fun j => bit x (nI j)) (5 - i) i) → V X 2 [.ref (xad X 30), .int x, .int (nI i)] [] (σ)) (5) hx2 hs2 0 (Nat.zero_le _) (rfl))

set_option maxHeartbeats 4000000 in
set_option maxRecDepth 100000 in
theorem c_X4_letOut {l : Launch} {D : DD} {ad : Nat → Nat} (σ : ST) (s : S4) (p : Nat) (d t : Int32) (hp : p < 6) : Ct l yX4_letOut cX4_letOut 4 (Option.none : Option FieldType) 0 0 D ad [.ref (ad 30), .int (nI p), .int d, .int t] (putS σ s) (ex none (putS σ (lout s p d t))) := by
  refine Ct.of2 [.ref (ad 30), .int (nI p), .int d, .int t] rfl (Nat.le_of_ble_eq_true rfl) rfl ?_
  rintro X C rfl rfl rfl hxn hR
  refine V_aload_n_0 (q := 1) C rfl dX4_letOut_0 ?_
  refine V_dup (q := 2) C rfl rfl dX4_letOut_1 ?_
  refine gf_X4_37 (q := 5) C rfl dX4_letOut_2 ?_
  refine V_iconst (q := 6) (v := 1) C rfl rfl dX4_letOut_5 ?_
  refine V_iload_n_1 (q := 7) C rfl dX4_letOut_6 ?_
  refine V_ishl (q := 8) C rfl dX4_letOut_7 ?_
  refine V_iconst (q := 9) (v := (-1)) C rfl rfl dX4_letOut_8 ?_
  refine V_ixor (q := 10) C rfl dX4_letOut_9 ?_
  refine V_iand (q := 11) C rfl dX4_letOut_10 ?_
  refine pf_X4_37 (q := 14) C rfl dX4_letOut_11 ?_
  refine V_aload_n_0 (q := 15) C rfl dX4_letOut_14 ?_
  refine gf_X4_31 (q := 18) C rfl dX4_letOut_15 ?_
  refine V_iload_n_1 (q := 19) C rfl dX4_letOut_18 ?_
  refine V_iload_n_2 (q := 20) C rfl dX4_letOut_19 ?_
  refine V_iast (q := 21) C _ rfl (by show _ < 6; omega) rfl (by decide) (by decide) rfl dX4_letOut_20 ?_
  refine V_aload_n_0 (q := 22) C rfl dX4_letOut_21 ?_
  refine gf_X4_34 (q := 25) C rfl dX4_letOut_22 ?_
  refine V_iload_n_1 (q := 26) C rfl dX4_letOut_25 ?_
  refine V_iload_n_3 (q := 27) C rfl dX4_letOut_26 ?_
  refine V_iast (q := 28) C _ rfl (by show _ < 6; omega) rfl (by decide) (by decide) rfl dX4_letOut_27 ?_
  refine V_vret C hR dX4_letOut_28 ?_
  refine ⟨rfl, ?_⟩
  show setc (setc (setf (putS σ s) 30 9 (s.2.2.2 &&& (own1 (nI p) ^^^ -1))) 35 (upd s.2.1 p d)) 36 (upd s.2.2.1 p t) = putS σ (lout s p d t)
  rw [putS_n, putS_o, putS_b]
  rfl

set_option maxHeartbeats 4000000 in
set_option maxRecDepth 100000 in
theorem c_X4_begin {l : Launch} {D : DD} {ad : Nat → Nat} (σ : ST)  : Ct l yX4_begin cX4_begin 1 (Option.none : Option FieldType) 1 23 D ad [.ref (ad 30)] σ (ex none (putS σ (s0C σ))) := by
  refine Ct.of2 [.ref (ad 30)] rfl (Nat.le_of_ble_eq_true rfl) rfl ?_
  rintro X C rfl rfl rfl hxn hR
  refine V_aload_n_0 (q := 1) C rfl dX4_begin_0 ?_
  refine gf_X4_28 (q := 4) C rfl dX4_begin_1 ?_
  refine V_iconst (q := 5) (v := 0) C rfl rfl dX4_begin_4 ?_
  refine V_cS2v (q := 8) C (c_J7_fill_53178 σ 34 0 rfl (by decide) (by decide)) cw_J7_fill_53178 cs_J7_fill_53178 wm_X4_54 ⟨by decide, by decide⟩ (Nat.le_of_ble_eq_true rfl) rfl dX4_begin_5 ?_
  refine V_aload_n_0 (q := 9) C rfl dX4_begin_8 ?_
  refine gf_X4_31 (q := 12) C rfl dX4_begin_9 ?_
  refine V_bipush (q := 14) (v := (-9)) C (by decide) rfl dX4_begin_12 ?_
  refine V_cS2v (q := 17) C (c_J7_fill_53178 _ 35 (-9) rfl (by decide) (by decide)) cw_J7_fill_53178 cs_J7_fill_53178 wm_X4_54 ⟨by decide, by decide⟩ (Nat.le_of_ble_eq_true rfl) rfl dX4_begin_14 ?_
  refine V_aload_n_0 (q := 18) C rfl dX4_begin_17 ?_
  refine gf_X4_34 (q := 21) C rfl dX4_begin_18 ?_
  refine V_bipush (q := 23) (v := (-9)) C (by decide) rfl dX4_begin_21 ?_
  refine V_cS2v (q := 26) C (c_J7_fill_53178 _ 36 (-9) rfl (by decide) (by decide)) cw_J7_fill_53178 cs_J7_fill_53178 wm_X4_54 ⟨by decide, by decide⟩ (Nat.le_of_ble_eq_true rfl) rfl dX4_begin_23 ?_
  refine V_aload_n_0 (q := 27) C rfl dX4_begin_26 ?_
  refine V_aload_n_0 (q := 28) C rfl dX4_begin_27 ?_
  refine gf_X4_40 (q := 31) C rfl dX4_begin_28 ?_
  refine V_cV0r (q := 34) C (c_X1_allPrisoners _) cw_X1_allPrisoners cv_X1_allPrisoners wm_X4_91 (by decide) ob_X1 ⟨by decide, by decide⟩ (Nat.le_of_ble_eq_true rfl) rfl dX4_begin_31 ?_
  refine pf_X4_37 (q := 37) C rfl dX4_begin_34 ?_
  refine V_vret C hR dX4_begin_37 ?_
  refine ⟨rfl, ?_⟩
  show setf (setc (setc (setc σ 34 (fun _ => 0)) 35 (fun _ => -9)) 36 (fun _ => -9)) 30 9 (ones (σ 12 1)) = putS σ (s0C σ)
  funext z
  by_cases e0 : z = 36
  · subst e0; rfl
  · by_cases e1 : z = 35
    · subst e1; rfl
    · by_cases e2 : z = 34
      · subst e2; rfl
      · by_cases e3 : z = 30
        · subst e3; rfl
        · simp only [putS, setf, setc, if_neg e0, if_neg e1, if_neg e2, if_neg e3]

set_option maxHeartbeats 4000000 in
set_option maxRecDepth 100000 in
theorem c_X4_giveWater {l : Launch} {D : DD} {ad : Nat → Nat} (σ : ST) (s : S4) (T : Nat) (a x : Int32) (hT : σ 12 0 = nI T) (hT6 : T ≤ 6) : Ct l yX4_giveWater cX4_giveWater 4 (Option.none : Option FieldType) 1 21 D ad [.ref (ad 30), .int a, .int x] (putS σ s) (ex none (putS σ (gwF T a x s.1, s.2))) := by
  refine Ct.of2 [.ref (ad 30), .int a, .int x, .float 0] rfl (Nat.le_of_ble_eq_true rfl) rfl ?_
  rintro X C rfl rfl rfl hxn hR
  have hn3 : 3 < xn X := by rw [← hxn]; decide
  refine V_iconst (q := 1) (v := (nI 0)) C rfl rfl dX4_giveWater_0 ?_
  refine V_istore_n_3 (q := 2) C hn3 rfl rfl dX4_giveWater_1 ?_
  have hx2 : V X 2 [.ref (xad X 30), .int a, .int x, .int (nI T)] [] (putS σ (pre T (fun t => s.1 t + a) s.1, s.2)) := by
    refine V_iload_n_3 (q := 3) C rfl dX4_giveWater_2 ?_
    refine V_aload_n_0 (q := 4) C rfl dX4_giveWater_3 ?_
    refine gf_X4_40 (q := 7) C rfl dX4_giveWater_4 ?_
    refine gf_X4_111 (q := 10) C rfl dX4_giveWater_7 ?_
    rw [show (putS σ (pre T (fun t => s.1 t + a) s.1, s.2)) 12 0 = nI T from hT]
    refine V_icmp_ge_t (tgt := 29) C (nI_le (Nat.le_refl _) (by omega)) (by decide) dX4_giveWater_10 ?_
    refine V_aload_n_0 (q := 30) C rfl dX4_giveWater_29 ?_
    refine gf_X4_40 (q := 33) C rfl dX4_giveWater_30 ?_
    refine V_iload_n_2 (q := 34) C rfl dX4_giveWater_33 ?_
    refine V_cV1r (q := 37) C (Ct.mono (v' := some (.int (pI (isT (nI T) x)))) (c_X1_hasTree _ x) (by rw [show (putS σ (pre T (fun t => s.1 t + a) s.1, s.2)) 12 0 = nI T from hT]) rfl) cw_X1_hasTree cv_X1_hasTree wm_X4_114 (by decide) ob_X1 ⟨by decide, by decide⟩ (Nat.le_of_ble_eq_true rfl) rfl dX4_giveWater_34 ?_
    refine V_ifp_eq (tgt := 50) C rfl (by decide) dX4_giveWater_37 (fun c37 => ?_) (fun c37 => ?_)
    · refine V_vret C hR dX4_giveWater_50 ?_
      refine ⟨rfl, ?_⟩
      unfold gwF
      rw [if_neg c37]
    · obtain ⟨j, hj, ej⟩ := isT_of c37 rfl (by omega)
      refine V_aload_n_0 (q := 41) C rfl dX4_giveWater_40 ?_
      refine gf_X4_28 (q := 44) C rfl dX4_giveWater_41 ?_
      refine V_iload_n_2 (q := 45) C rfl dX4_giveWater_44 ?_
      refine V_dup2 (q := 46) C rfl rfl rfl dX4_giveWater_45 ?_
      refine V_iald (q := 47) C j ej (by show _ < 6; omega) rfl (by decide) (by decide) rfl dX4_giveWater_46 ?_
      refine V_iconst (q := 48) (v := 3) C rfl rfl dX4_giveWater_47 ?_
      refine V_iadd (q := 49) C rfl dX4_giveWater_48 ?_
      refine V_iast (q := 50) C j ej (by show _ < 6; omega) rfl (by decide) (by decide) rfl dX4_giveWater_49 ?_
      refine V_vret C hR dX4_giveWater_50 ?_
      refine ⟨rfl, ?_⟩
      unfold gwF
      rw [if_pos c37]
      subst ej
      rw [nI_clamp (by omega)]
      exact putS_w
  have hs2 : ∀ i : Nat, i < T → (V X 2 [.ref (xad X 30), .int a, .int x, .int (nI (i + 1))] [] (putS σ (pre (i + 1) (fun t => s.1 t + a) s.1, s.2))) → V X 2 [.ref (xad X 30), .int a, .int x, .int (nI i)] [] (putS σ (pre i (fun t => s.1 t + a) s.1, s.2)) := by
    intro i hi2 ih2
    refine V_iload_n_3 (q := 3) C rfl dX4_giveWater_2 ?_
    refine V_aload_n_0 (q := 4) C rfl dX4_giveWater_3 ?_
    refine gf_X4_40 (q := 7) C rfl dX4_giveWater_4 ?_
    refine gf_X4_111 (q := 10) C rfl dX4_giveWater_7 ?_
    rw [show (putS σ (pre i (fun t => s.1 t + a) s.1, s.2)) 12 0 = nI T from hT]
    refine V_icmp_ge_f (tgt := 29) C (nI_ge hi2 (by omega)) rfl (by decide) dX4_giveWater_10 ?_
    refine V_aload_n_0 (q := 14) C rfl dX4_giveWater_13 ?_
    refine gf_X4_28 (q := 17) C rfl dX4_giveWater_14 ?_
    refine V_iload_n_3 (q := 18) C rfl dX4_giveWater_17 ?_
    refine V_dup2 (q := 19) C rfl rfl rfl dX4_giveWater_18 ?_
    refine V_iald (q := 20) C _ rfl (by show _ < 6; omega) rfl (by decide) (by decide) rfl dX4_giveWater_19 ?_
    refine V_iload_n_1 (q := 21) C rfl dX4_giveWater_20 ?_
    refine V_iadd (q := 22) C rfl dX4_giveWater_21 ?_
    refine V_iast (q := 23) C _ rfl (by show _ < 6; omega) rfl (by decide) (by decide) rfl dX4_giveWater_22 ?_
    refine V_iinc_3 (q := 26) (n := 1) C nI_inc hn3 rfl rfl dX4_giveWater_23 ?_
    refine V_goto (tgt := 2) C (by decide) dX4_giveWater_26 ?_
    refine V_eq ?_ ih2
    show setc (putS σ (pre i (fun t => s.1 t + a) s.1, s.2)) 34 (upd (pre i (fun t => s.1 t + a) s.1) i (pre i (fun t => s.1 t + a) s.1 i + a)) = _
    rw [putS_w, pre_ge (Nat.lt_irrefl i), pre_step rfl]
  exact V_eq (by rw [pre_0]) (loopN (P := fun i => V X 2 [.ref (xad X 30), .int a, .int x, .int (nI i)] [] (putS σ (pre i (fun t => s.1 t + a) s.1, s.2))) (T) hx2 hs2 0 (Nat.zero_le _))

set_option maxHeartbeats 4000000 in
set_option maxRecDepth 100000 in
theorem c_X4_sendCrows {l : Launch} {D : DD} {ad : Nat → Nat} (σ : ST) (s : S4) (T : Nat) (x : Int32) (hT : σ 12 0 = nI T) (hT6 : T ≤ 6) : Ct l yX4_sendCrows cX4_sendCrows 3 (Option.none : Option FieldType) 1 21 D ad [.ref (ad 30), .int x] (putS σ s) (ex none (putS σ (pre T (crG (σ 16) x s.1) s.1, s.2))) := by
  refine Ct.of2 [.ref (ad 30), .int x, .float 0] rfl (Nat.le_of_ble_eq_true rfl) rfl ?_
  rintro X C rfl rfl rfl hxn hR
  have hn2 : 2 < xn X := by rw [← hxn]; decide
  refine V_iconst (q := 1) (v := (nI 0)) C rfl rfl dX4_sendCrows_0 ?_
  refine V_istore_n_2 (q := 2) C hn2 rfl rfl dX4_sendCrows_1 ?_
  have hx2 : V X 2 [.ref (xad X 30), .int x, .int (nI T)] [] (putS σ (pre T (crG (σ 16) x s.1) s.1, s.2)) := by
    refine V_iload_n_2 (q := 3) C rfl dX4_sendCrows_2 ?_
    refine V_aload_n_0 (q := 4) C rfl dX4_sendCrows_3 ?_
    refine gf_X4_40 (q := 7) C rfl dX4_sendCrows_4 ?_
    refine gf_X4_111 (q := 10) C rfl dX4_sendCrows_7 ?_
    rw [show (putS σ (pre T (crG (σ 16) x s.1) s.1, s.2)) 12 0 = nI T from hT]
    refine V_icmp_ge_t (tgt := 42) C (nI_le (Nat.le_refl _) (by omega)) (by decide) dX4_sendCrows_10 ?_
    refine V_vret C hR dX4_sendCrows_42 ?_
    exact ⟨rfl, rfl⟩
  have hs2 : ∀ i : Nat, i < T → (V X 2 [.ref (xad X 30), .int x, .int (nI (i + 1))] [] (putS σ (pre (i + 1) (crG (σ 16) x s.1) s.1, s.2))) → V X 2 [.ref (xad X 30), .int x, .int (nI i)] [] (putS σ (pre i (crG (σ 16) x s.1) s.1, s.2)) := by
    intro i hi2 ih2
    refine V_iload_n_2 (q := 3) C rfl dX4_sendCrows_2 ?_
    refine V_aload_n_0 (q := 4) C rfl dX4_sendCrows_3 ?_
    refine gf_X4_40 (q := 7) C rfl dX4_sendCrows_4 ?_
    refine gf_X4_111 (q := 10) C rfl dX4_sendCrows_7 ?_
    rw [show (putS σ (pre i (crG (σ 16) x s.1) s.1, s.2)) 12 0 = nI T from hT]
    refine V_icmp_ge_f (tgt := 42) C (nI_ge hi2 (by omega)) rfl (by decide) dX4_sendCrows_10 ?_
    refine V_iload_n_1 (q := 14) C rfl dX4_sendCrows_13 ?_
    refine V_iload_n_2 (q := 15) C rfl dX4_sendCrows_14 ?_
    refine V_cN2r (q := 18) C (c_X8_isIn _ _ _) cw_X8_isIn cs_X8_isIn C.K.2.2.1 ⟨by decide, by decide⟩ (Nat.le_of_ble_eq_true rfl) rfl dX4_sendCrows_15 ?_
    refine V_ifp_eq (tgt := 36) C rfl (by decide) dX4_sendCrows_18 (fun c18 => ?_) (fun c18 => ?_)
    · refine V_iinc_2 (q := 39) (n := 1) C nI_inc hn2 rfl rfl dX4_sendCrows_36 ?_
      refine V_goto (tgt := 2) C (by decide) dX4_sendCrows_39 ?_
      first
      | (refine V_eq ?_ ih2; rw [pre_keep (i := i) (show crG (σ 16) x s.1 i = s.1 i from if_neg (fun h => c18 h.1))]; done)
      | (refine V_eq ?_ ih2; rw [pre_keep (i := i) (show crG (σ 16) x s.1 i = s.1 i from if_neg (fun h => c26 h.2))]; done)
      | (refine V_eq ?_ ih2; show setc (putS σ (pre i (crG (σ 16) x s.1) s.1, s.2)) 34 (upd (pre i (crG (σ 16) x s.1) s.1) i 0) = _; rw [putS_w, pre_step (show (0 : Int32) = crG (σ 16) x s.1 i from (if_pos ⟨c18, c26⟩).symm)]; done)
    · refine V_aload_n_0 (q := 22) C rfl dX4_sendCrows_21 ?_
      refine V_iload_n_2 (q := 23) C rfl dX4_sendCrows_22 ?_
      refine V_cV1r (q := 26) C (Ct.mono (v' := some (.int (pI (σ 16 i ≤ s.1 i)))) (c_X4_isRipe _ i (by omega)) (by show some (Value.int (pI (σ 16 i ≤ pre i (crG (σ 16) x s.1) s.1 i))) = _; rw [pre_ge (Nat.lt_irrefl i)]) rfl) cw_X4_isRipe cv_X4_isRipe wm_X4_117 (by decide) ob_X4 ⟨by decide, by decide⟩ (Nat.le_of_ble_eq_true rfl) rfl dX4_sendCrows_23 ?_
      refine V_ifp_eq (tgt := 36) C rfl (by decide) dX4_sendCrows_26 (fun c26 => ?_) (fun c26 => ?_)
      · refine V_iinc_2 (q := 39) (n := 1) C nI_inc hn2 rfl rfl dX4_sendCrows_36 ?_
        refine V_goto (tgt := 2) C (by decide) dX4_sendCrows_39 ?_
        first
        | (refine V_eq ?_ ih2; rw [pre_keep (i := i) (show crG (σ 16) x s.1 i = s.1 i from if_neg (fun h => c18 h.1))]; done)
        | (refine V_eq ?_ ih2; rw [pre_keep (i := i) (show crG (σ 16) x s.1 i = s.1 i from if_neg (fun h => c26 h.2))]; done)
        | (refine V_eq ?_ ih2; show setc (putS σ (pre i (crG (σ 16) x s.1) s.1, s.2)) 34 (upd (pre i (crG (σ 16) x s.1) s.1) i 0) = _; rw [putS_w, pre_step (show (0 : Int32) = crG (σ 16) x s.1 i from (if_pos ⟨c18, c26⟩).symm)]; done)
      · refine V_aload_n_0 (q := 30) C rfl dX4_sendCrows_29 ?_
        refine gf_X4_28 (q := 33) C rfl dX4_sendCrows_30 ?_
        refine V_iload_n_2 (q := 34) C rfl dX4_sendCrows_33 ?_
        refine V_iconst (q := 35) (v := 0) C rfl rfl dX4_sendCrows_34 ?_
        refine V_iast (q := 36) C _ rfl (by show _ < 6; omega) rfl (by decide) (by decide) rfl dX4_sendCrows_35 ?_
        refine V_iinc_2 (q := 39) (n := 1) C nI_inc hn2 rfl rfl dX4_sendCrows_36 ?_
        refine V_goto (tgt := 2) C (by decide) dX4_sendCrows_39 ?_
        first
        | (refine V_eq ?_ ih2; rw [pre_keep (i := i) (show crG (σ 16) x s.1 i = s.1 i from if_neg (fun h => c18 h.1))]; done)
        | (refine V_eq ?_ ih2; rw [pre_keep (i := i) (show crG (σ 16) x s.1 i = s.1 i from if_neg (fun h => c26 h.2))]; done)
        | (refine V_eq ?_ ih2; show setc (putS σ (pre i (crG (σ 16) x s.1) s.1, s.2)) 34 (upd (pre i (crG (σ 16) x s.1) s.1) i 0) = _; rw [putS_w, pre_step (show (0 : Int32) = crG (σ 16) x s.1 i from (if_pos ⟨c18, c26⟩).symm)]; done)
  exact V_eq (by rw [pre_0]) (loopN (P := fun i => V X 2 [.ref (xad X 30), .int x, .int (nI i)] [] (putS σ (pre i (crG (σ 16) x s.1) s.1, s.2))) (T) hx2 hs2 0 (Nat.zero_le _))

set_option maxHeartbeats 4000000 in
set_option maxRecDepth 100000 in
theorem c_X4_turnKeys {l : Launch} {D : DD} {ad : Nat → Nat} (σ : ST) (s : S4) (T : Nat) (d : Int32) (hT : σ 12 0 = nI T) (hT6 : T ≤ 6) : Ct l yX4_turnKeys cX4_turnKeys 4 (Option.none : Option FieldType) 2 43 D ad [.ref (ad 30), .int d] (putS σ s) (ex none (putS σ (tkN σ d T s))) := by
  refine Ct.of2 [.ref (ad 30), .int d, .float 0, .float 0] rfl (Nat.le_of_ble_eq_true rfl) rfl ?_
  rintro X C rfl rfl rfl hxn hR
  have hn2 : 2 < xn X := by rw [← hxn]; decide
  have hn3 : 3 < xn X := by rw [← hxn]; decide
  refine V_iconst (q := 1) (v := (nI 0)) C rfl rfl dX4_turnKeys_0 ?_
  refine V_istore_n_2 (q := 2) C hn2 rfl rfl dX4_turnKeys_1 ?_
  have hx2 : V X 2 [.ref (xad X 30), .int d, .int (nI T), .float 0] [] (putS σ (tkN σ d T s)) := by
    refine V_iload_n_2 (q := 3) C rfl dX4_turnKeys_2 ?_
    refine V_aload_n_0 (q := 4) C rfl dX4_turnKeys_3 ?_
    refine gf_X4_40 (q := 7) C rfl dX4_turnKeys_4 ?_
    refine gf_X4_111 (q := 10) C rfl dX4_turnKeys_7 ?_
    rw [show (putS σ (tkN σ d T s)) 12 0 = nI T from hT]
    refine V_icmp_ge_t (tgt := 75) C (nI_le (Nat.le_refl _) (by omega)) (by decide) dX4_turnKeys_10 ?_
    refine V_vret C hR dX4_turnKeys_75 ?_
    exact ⟨rfl, rfl⟩
  have hs2 : ∀ i : Nat, i < T → (V X 2 [.ref (xad X 30), .int d, .int (nI (i + 1)), .float 0] [] (putS σ (tkN σ d (i + 1) s))) → V X 2 [.ref (xad X 30), .int d, .int (nI i), .float 0] [] (putS σ (tkN σ d i s)) := by
    intro i hi2 ih2
    refine V_iload_n_2 (q := 3) C rfl dX4_turnKeys_2 ?_
    refine V_aload_n_0 (q := 4) C rfl dX4_turnKeys_3 ?_
    refine gf_X4_40 (q := 7) C rfl dX4_turnKeys_4 ?_
    refine gf_X4_111 (q := 10) C rfl dX4_turnKeys_7 ?_
    rw [show (putS σ (tkN σ d i s)) 12 0 = nI T from hT]
    refine V_icmp_ge_f (tgt := 75) C (nI_ge hi2 (by omega)) rfl (by decide) dX4_turnKeys_10 ?_
    refine V_aload_n_0 (q := 14) C rfl dX4_turnKeys_13 ?_
    refine gf_X4_40 (q := 17) C rfl dX4_turnKeys_14 ?_
    refine gf_X4_123 (q := 20) C rfl dX4_turnKeys_17 ?_
    refine V_iload_n_2 (q := 21) C rfl dX4_turnKeys_20 ?_
    refine V_iald (q := 22) C _ rfl (by show _ < 6; omega) rfl (by decide) (by decide) rfl dX4_turnKeys_21 ?_
    refine V_aload_n_0 (q := 23) C rfl dX4_turnKeys_22 ?_
    refine gf_X4_37 (q := 26) C rfl dX4_turnKeys_23 ?_
    refine V_iand (q := 27) C rfl dX4_turnKeys_26 ?_
    refine V_istore_n_3 (q := 28) C hn3 rfl rfl dX4_turnKeys_27 ?_
    refine V_iload_n_3 (q := 29) C rfl dX4_turnKeys_28 ?_
    show V X 29 _ (.int (σ 17 i &&& (tkN σ d i s).2.2.2) :: []) _
    refine V_if_eq (tgt := 69) C rfl (by decide) dX4_turnKeys_29 (fun c29 => ?_) (fun c29 => ?_)
    · refine V_iinc_2 (q := 72) (n := 1) C nI_inc hn2 rfl rfl dX4_turnKeys_69 ?_
      refine V_goto (tgt := 2) C (by decide) dX4_turnKeys_72 ?_
      refine V_weak4 ?_
      first
      | (refine V_eq ?_ ih2; show putS σ (tkN σ d i s) = putS σ (tkStep σ d i (tkN σ d i s)); unfold tkStep; rw [if_neg (fun h => h.1 c29)]; done)
      | (refine V_eq ?_ ih2; show putS σ (tkN σ d i s) = putS σ (tkStep σ d i (tkN σ d i s)); unfold tkStep; rw [if_neg (fun h => c37 h.2.1)]; done)
      | (refine V_eq ?_ ih2; show putS σ (tkN σ d i s) = putS σ (tkStep σ d i (tkN σ d i s)); unfold tkStep; rw [if_neg (fun h => h.2.2 c48)]; done)
      | (refine V_eq ?_ ih2; show setc (putS σ (lout (tkN σ d i s) (lo6 (σ 17 i &&& (tkN σ d i s).2.2.2)) d (nI i))) 34 (upd (tkN σ d i s).1 i 0) = putS σ (tkStep σ d i (tkN σ d i s)); unfold tkStep; rw [if_pos (show tkC σ (tkN σ d i s) i from ⟨c29, c37, c48⟩), putS_w]; done)
    · refine V_aload_n_0 (q := 33) C rfl dX4_turnKeys_32 ?_
      refine V_iload_n_2 (q := 34) C rfl dX4_turnKeys_33 ?_
      refine V_cV1r (q := 37) C (Ct.mono (v' := some (.int (pI (σ 16 i ≤ (tkN σ d i s).1 i)))) (c_X4_isRipe _ i (by omega)) rfl rfl) cw_X4_isRipe cv_X4_isRipe wm_X4_117 (by decide) ob_X4 ⟨by decide, by decide⟩ (Nat.le_of_ble_eq_true rfl) rfl dX4_turnKeys_34 ?_
      refine V_ifp_eq (tgt := 69) C rfl (by decide) dX4_turnKeys_37 (fun c37 => ?_) (fun c37 => ?_)
      · refine V_iinc_2 (q := 72) (n := 1) C nI_inc hn2 rfl rfl dX4_turnKeys_69 ?_
        refine V_goto (tgt := 2) C (by decide) dX4_turnKeys_72 ?_
        refine V_weak4 ?_
        first
        | (refine V_eq ?_ ih2; show putS σ (tkN σ d i s) = putS σ (tkStep σ d i (tkN σ d i s)); unfold tkStep; rw [if_neg (fun h => h.1 c29)]; done)
        | (refine V_eq ?_ ih2; show putS σ (tkN σ d i s) = putS σ (tkStep σ d i (tkN σ d i s)); unfold tkStep; rw [if_neg (fun h => c37 h.2.1)]; done)
        | (refine V_eq ?_ ih2; show putS σ (tkN σ d i s) = putS σ (tkStep σ d i (tkN σ d i s)); unfold tkStep; rw [if_neg (fun h => h.2.2 c48)]; done)
        | (refine V_eq ?_ ih2; show setc (putS σ (lout (tkN σ d i s) (lo6 (σ 17 i &&& (tkN σ d i s).2.2.2)) d (nI i))) 34 (upd (tkN σ d i s).1 i 0) = putS σ (tkStep σ d i (tkN σ d i s)); unfold tkStep; rw [if_pos (show tkC σ (tkN σ d i s) i from ⟨c29, c37, c48⟩), putS_w]; done)
      · refine V_aload_n_0 (q := 41) C rfl dX4_turnKeys_40 ?_
        refine gf_X4_25 (q := 44) C rfl dX4_turnKeys_41 ?_
        refine V_iload_n_2 (q := 45) C rfl dX4_turnKeys_44 ?_
        refine V_cN2r (q := 48) C (Ct.mono (v' := some (.int (pI (bit (σ 30 5) (nI i))))) (c_X8_isIn _ (σ 30 5) (nI i)) rfl rfl) cw_X8_isIn cs_X8_isIn C.K.2.2.1 ⟨by decide, by decide⟩ (Nat.le_of_ble_eq_true rfl) rfl dX4_turnKeys_45 ?_
        refine V_ifp_ne (tgt := 69) C rfl (by decide) dX4_turnKeys_48 (fun c48 => ?_) (fun c48 => ?_)
        · refine V_iinc_2 (q := 72) (n := 1) C nI_inc hn2 rfl rfl dX4_turnKeys_69 ?_
          refine V_goto (tgt := 2) C (by decide) dX4_turnKeys_72 ?_
          refine V_weak4 ?_
          first
          | (refine V_eq ?_ ih2; show putS σ (tkN σ d i s) = putS σ (tkStep σ d i (tkN σ d i s)); unfold tkStep; rw [if_neg (fun h => h.1 c29)]; done)
          | (refine V_eq ?_ ih2; show putS σ (tkN σ d i s) = putS σ (tkStep σ d i (tkN σ d i s)); unfold tkStep; rw [if_neg (fun h => c37 h.2.1)]; done)
          | (refine V_eq ?_ ih2; show putS σ (tkN σ d i s) = putS σ (tkStep σ d i (tkN σ d i s)); unfold tkStep; rw [if_neg (fun h => h.2.2 c48)]; done)
          | (refine V_eq ?_ ih2; show setc (putS σ (lout (tkN σ d i s) (lo6 (σ 17 i &&& (tkN σ d i s).2.2.2)) d (nI i))) 34 (upd (tkN σ d i s).1 i 0) = putS σ (tkStep σ d i (tkN σ d i s)); unfold tkStep; rw [if_pos (show tkC σ (tkN σ d i s) i from ⟨c29, c37, c48⟩), putS_w]; done)
        · refine V_aload_n_0 (q := 52) C rfl dX4_turnKeys_51 ?_
          refine V_aload_n_0 (q := 53) C rfl dX4_turnKeys_52 ?_
          refine V_iload_n_3 (q := 54) C rfl dX4_turnKeys_53 ?_
          refine V_cV1r (q := 57) C (c_X4_leastOf _ (σ 17 i &&& (tkN σ d i s).2.2.2)) cw_X4_leastOf cv_X4_leastOf wm_X4_126 (by decide) ob_X4 ⟨by decide, by decide⟩ (Nat.le_of_ble_eq_true rfl) rfl dX4_turnKeys_54 ?_
          refine V_iload_n_1 (q := 58) C rfl dX4_turnKeys_57 ?_
          refine V_iload_n_2 (q := 59) C rfl dX4_turnKeys_58 ?_
          refine V_cV3v (q := 62) C (c_X4_letOut σ (tkN σ d i s) (lo6 (σ 17 i &&& (tkN σ d i s).2.2.2)) d (nI i) (lo6_lt _)) cw_X4_letOut cv_X4_letOut wm_X4_130 (by decide) ob_X4 ⟨by decide, by decide⟩ (Nat.le_of_ble_eq_true rfl) rfl dX4_turnKeys_59 ?_
          refine V_aload_n_0 (q := 63) C rfl dX4_turnKeys_62 ?_
          refine gf_X4_28 (q := 66) C rfl dX4_turnKeys_63 ?_
          refine V_iload_n_2 (q := 67) C rfl dX4_turnKeys_66 ?_
          refine V_iconst (q := 68) (v := 0) C rfl rfl dX4_turnKeys_67 ?_
          refine V_iast (q := 69) C _ rfl (by show _ < 6; omega) rfl (by decide) (by decide) rfl dX4_turnKeys_68 ?_
          refine V_iinc_2 (q := 72) (n := 1) C nI_inc hn2 rfl rfl dX4_turnKeys_69 ?_
          refine V_goto (tgt := 2) C (by decide) dX4_turnKeys_72 ?_
          refine V_weak4 ?_
          first
          | (refine V_eq ?_ ih2; show putS σ (tkN σ d i s) = putS σ (tkStep σ d i (tkN σ d i s)); unfold tkStep; rw [if_neg (fun h => h.1 c29)]; done)
          | (refine V_eq ?_ ih2; show putS σ (tkN σ d i s) = putS σ (tkStep σ d i (tkN σ d i s)); unfold tkStep; rw [if_neg (fun h => c37 h.2.1)]; done)
          | (refine V_eq ?_ ih2; show putS σ (tkN σ d i s) = putS σ (tkStep σ d i (tkN σ d i s)); unfold tkStep; rw [if_neg (fun h => h.2.2 c48)]; done)
          | (refine V_eq ?_ ih2; show setc (putS σ (lout (tkN σ d i s) (lo6 (σ 17 i &&& (tkN σ d i s).2.2.2)) d (nI i))) 34 (upd (tkN σ d i s).1 i 0) = putS σ (tkStep σ d i (tkN σ d i s)); unfold tkStep; rw [if_pos (show tkC σ (tkN σ d i s) i from ⟨c29, c37, c48⟩), putS_w]; done)
  exact V_eq (rfl) (loopN (P := fun i => V X 2 [.ref (xad X 30), .int d, .int (nI i), .float 0] [] (putS σ (tkN σ d i s))) (T) hx2 hs2 0 (Nat.zero_le _))

set_option maxHeartbeats 4000000 in
set_option maxRecDepth 100000 in
theorem c_X4_endTerms {l : Launch} {D : DD} {ad : Nat → Nat} (σ : ST) (s : S4) (P : Nat) (x d : Int32) (hP : σ 12 1 = nI P) (hP6 : P ≤ 6) : Ct l yX4_endTerms cX4_endTerms 4 (Option.none : Option FieldType) 1 23 D ad [.ref (ad 30), .int x, .int d] (putS σ s) (ex none (putS σ (etN x d P s))) := by
  refine Ct.of2 [.ref (ad 30), .int x, .int d, .float 0] rfl (Nat.le_of_ble_eq_true rfl) rfl ?_
  rintro X C rfl rfl rfl hxn hR
  have hn3 : 3 < xn X := by rw [← hxn]; decide
  refine V_iconst (q := 1) (v := (nI 0)) C rfl rfl dX4_endTerms_0 ?_
  refine V_istore_n_3 (q := 2) C hn3 rfl rfl dX4_endTerms_1 ?_
  have hx2 : V X 2 [.ref (xad X 30), .int x, .int d, .int (nI P)] [] (putS σ (etN x d P s)) := by
    refine V_iload_n_3 (q := 3) C rfl dX4_endTerms_2 ?_
    refine V_aload_n_0 (q := 4) C rfl dX4_endTerms_3 ?_
    refine gf_X4_40 (q := 7) C rfl dX4_endTerms_4 ?_
    refine gf_X4_84 (q := 10) C rfl dX4_endTerms_7 ?_
    rw [show (putS σ (etN x d P s)) 12 1 = nI P from hP]
    refine V_icmp_ge_t (tgt := 35) C (nI_le (Nat.le_refl _) (by omega)) (by decide) dX4_endTerms_10 ?_
    refine V_vret C hR dX4_endTerms_35 ?_
    exact ⟨rfl, rfl⟩
  have hs2 : ∀ i : Nat, i < P → (V X 2 [.ref (xad X 30), .int x, .int d, .int (nI (i + 1))] [] (putS σ (etN x d (i + 1) s))) → V X 2 [.ref (xad X 30), .int x, .int d, .int (nI i)] [] (putS σ (etN x d i s)) := by
    intro i hi2 ih2
    refine V_iload_n_3 (q := 3) C rfl dX4_endTerms_2 ?_
    refine V_aload_n_0 (q := 4) C rfl dX4_endTerms_3 ?_
    refine gf_X4_40 (q := 7) C rfl dX4_endTerms_4 ?_
    refine gf_X4_84 (q := 10) C rfl dX4_endTerms_7 ?_
    rw [show (putS σ (etN x d i s)) 12 1 = nI P from hP]
    refine V_icmp_ge_f (tgt := 35) C (nI_ge hi2 (by omega)) rfl (by decide) dX4_endTerms_10 ?_
    refine V_iload_n_1 (q := 14) C rfl dX4_endTerms_13 ?_
    refine V_iload_n_3 (q := 15) C rfl dX4_endTerms_14 ?_
    refine V_cN2r (q := 18) C (c_X8_isIn _ _ _) cw_X8_isIn cs_X8_isIn C.K.2.2.1 ⟨by decide, by decide⟩ (Nat.le_of_ble_eq_true rfl) rfl dX4_endTerms_15 ?_
    refine V_ifp_eq (tgt := 29) C rfl (by decide) dX4_endTerms_18 (fun c18 => ?_) (fun c18 => ?_)
    · refine V_iinc_3 (q := 32) (n := 1) C nI_inc hn3 rfl rfl dX4_endTerms_29 ?_
      refine V_goto (tgt := 2) C (by decide) dX4_endTerms_32 ?_
      first
      | (refine V_eq ?_ ih2; show putS σ (etN x d i s) = putS σ (etStep x d i (etN x d i s)); unfold etStep; rw [if_neg c18]; done)
      | (refine V_eq ?_ ih2; show putS σ (lout (etN x d i s) i d (-9)) = putS σ (etStep x d i (etN x d i s)); unfold etStep; rw [if_pos c18]; done)
    · refine V_aload_n_0 (q := 22) C rfl dX4_endTerms_21 ?_
      refine V_iload_n_3 (q := 23) C rfl dX4_endTerms_22 ?_
      refine V_iload_n_2 (q := 24) C rfl dX4_endTerms_23 ?_
      refine V_bipush (q := 26) (v := (-9)) C (by decide) rfl dX4_endTerms_24 ?_
      refine V_cV3v (q := 29) C (c_X4_letOut σ (etN x d i s) i d (-9) (by omega)) cw_X4_letOut cv_X4_letOut wm_X4_130 (by decide) ob_X4 ⟨by decide, by decide⟩ (Nat.le_of_ble_eq_true rfl) rfl dX4_endTerms_26 ?_
      refine V_iinc_3 (q := 32) (n := 1) C nI_inc hn3 rfl rfl dX4_endTerms_29 ?_
      refine V_goto (tgt := 2) C (by decide) dX4_endTerms_32 ?_
      first
      | (refine V_eq ?_ ih2; show putS σ (etN x d i s) = putS σ (etStep x d i (etN x d i s)); unfold etStep; rw [if_neg c18]; done)
      | (refine V_eq ?_ ih2; show putS σ (lout (etN x d i s) i d (-9)) = putS σ (etStep x d i (etN x d i s)); unfold etStep; rw [if_pos c18]; done)
  exact V_eq (rfl) (loopN (P := fun i => V X 2 [.ref (xad X 30), .int x, .int d, .int (nI i)] [] (putS σ (etN x d i s))) (P) hx2 hs2 0 (Nat.zero_le _))

set_option maxHeartbeats 4000000 in
set_option maxRecDepth 100000 in
theorem c_X4_passDay {l : Launch} {D : DD} {ad : Nat → Nat} (σ : ST) (s : S4) (T P d : Nat) (hT : σ 12 0 = nI T) (hT6 : T ≤ 6) (hP : σ 12 1 = nI P) (hP6 : P ≤ 6) (hd : d < 30) : Ct l yX4_passDay cX4_passDay 4 (Option.none : Option FieldType) 3 66 D ad [.ref (ad 30), .int (nI d)] (putS σ s) (ex none (putS σ (dayC σ T P d s))) := by
  refine Ct.of2 [.ref (ad 30), .int (nI d), .float 0, .float 0] rfl (Nat.le_of_ble_eq_true rfl) rfl ?_
  rintro X C rfl rfl rfl hxn hR
  have hn2 : 2 < xn X := by rw [← hxn]; decide
  have hn3 : 3 < xn X := by rw [← hxn]; decide
  have k85 : V X 85 [.ref (xad X 30), .int (nI d), .int (pI (wetC σ d)), .float 0] [] (putS σ (day3 σ T d (day2 σ T d (day1 σ T d s)))) := by
    refine V_aload_n_0 (q := 86) C rfl dX4_passDay_85 ?_
    refine gf_X4_40 (q := 89) C rfl dX4_passDay_86 ?_
    refine gf_X4_105 (q := 92) C rfl dX4_passDay_89 ?_
    refine V_iload_n_1 (q := 93) C rfl dX4_passDay_92 ?_
    refine V_iald (q := 94) C _ rfl (by show _ < 30; omega) rfl (by decide) (by decide) rfl dX4_passDay_93 ?_
    refine V_aload_n_0 (q := 95) C rfl dX4_passDay_94 ?_
    refine gf_X4_37 (q := 98) C rfl dX4_passDay_95 ?_
    refine V_iand (q := 99) C rfl dX4_passDay_98 ?_
    refine V_istore_n_3 (q := 100) C hn3 rfl rfl dX4_passDay_99 ?_
    refine V_iload_n_3 (q := 101) C rfl dX4_passDay_100 ?_
    show V X 101 _ (.int (σ 20 d &&& (day3 σ T d (day2 σ T d (day1 σ T d s))).2.2.2) :: []) _
    refine V_if_eq (tgt := 110) C rfl (by decide) dX4_passDay_101 (fun c101 => ?_) (fun c101 => ?_)
    · refine V_vret C hR dX4_passDay_110 ?_
      refine ⟨rfl, ?_⟩
      unfold dayC day4
      rw [if_neg (fun h => h c101)]
    · refine V_aload_n_0 (q := 105) C rfl dX4_passDay_104 ?_
      refine V_iload_n_3 (q := 106) C rfl dX4_passDay_105 ?_
      refine V_iload_n_1 (q := 107) C rfl dX4_passDay_106 ?_
      refine V_cV2v (q := 110) C (c_X4_endTerms σ (day3 σ T d (day2 σ T d (day1 σ T d s))) P (σ 20 d &&& (day3 σ T d (day2 σ T d (day1 σ T d s))).2.2.2) (nI d) hP hP6) cw_X4_endTerms cv_X4_endTerms wm_X4_108 (by decide) ob_X4 ⟨by decide, by decide⟩ (Nat.le_of_ble_eq_true rfl) rfl dX4_passDay_107 ?_
      refine V_vret C hR dX4_passDay_110 ?_
      refine ⟨rfl, ?_⟩
      unfold dayC day4
      rw [if_pos c101]
  have k76 : V X 76 [.ref (xad X 30), .int (nI d), .int (pI (wetC σ d)), .float 0] [] (putS σ (day2 σ T d (day1 σ T d s))) := by
    refine V_iload_n_2 (q := 77) C rfl dX4_passDay_76 ?_
    refine V_ifp_eq (tgt := 85) C rfl (by decide) dX4_passDay_77 (fun c77 => ?_) (fun c77 => ?_)
    · refine V_eq ?_ k85
      unfold day3
      first | rw [if_pos c77] | rw [if_neg c77]
    · refine V_aload_n_0 (q := 81) C rfl dX4_passDay_80 ?_
      refine V_iload_n_1 (q := 82) C rfl dX4_passDay_81 ?_
      refine V_cV1v (q := 85) C (c_X4_turnKeys σ (day2 σ T d (day1 σ T d s)) T (nI d) hT hT6) cw_X4_turnKeys cv_X4_turnKeys wm_X4_102 (by decide) ob_X4 ⟨by decide, by decide⟩ (Nat.le_of_ble_eq_true rfl) rfl dX4_passDay_82 ?_
      refine V_eq ?_ k85
      unfold day3
      first | rw [if_pos c77] | rw [if_neg c77]
  have k57 : V X 57 [.ref (xad X 30), .int (nI d), .int (pI (wetC σ d)), .float 0] [] (putS σ (day1 σ T d s)) := by
    refine V_aload_n_0 (q := 58) C rfl dX4_passDay_57 ?_
    refine gf_X4_18 (q := 61) C rfl dX4_passDay_58 ?_
    refine V_iload_n_1 (q := 62) C rfl dX4_passDay_61 ?_
    refine V_iald (q := 63) C _ rfl (by show _ < 30; omega) rfl (by decide) (by decide) rfl dX4_passDay_62 ?_
    show V X 63 _ (.int (σ 33 d) :: []) _
    refine V_if_eq (tgt := 76) C rfl (by decide) dX4_passDay_63 (fun c63 => ?_) (fun c63 => ?_)
    · refine V_eq ?_ k76
      unfold day2
      rw [if_neg (fun h => h c63)]
    · refine V_aload_n_0 (q := 67) C rfl dX4_passDay_66 ?_
      refine V_aload_n_0 (q := 68) C rfl dX4_passDay_67 ?_
      refine gf_X4_18 (q := 71) C rfl dX4_passDay_68 ?_
      refine V_iload_n_1 (q := 72) C rfl dX4_passDay_71 ?_
      refine V_iald (q := 73) C _ rfl (by show _ < 30; omega) rfl (by decide) (by decide) rfl dX4_passDay_72 ?_
      refine V_cV1v (q := 76) C (c_X4_sendCrows σ (day1 σ T d s) T (σ 33 d) hT hT6) cw_X4_sendCrows cv_X4_sendCrows wm_X4_99 (by decide) ob_X4 ⟨by decide, by decide⟩ (Nat.le_of_ble_eq_true rfl) rfl dX4_passDay_73 ?_
      refine V_eq ?_ k76
      unfold day2
      rw [if_pos c63]
  have k36 : V X 36 [.ref (xad X 30), .int (nI d), .float 0, .float 0] [.int (pI (wetC σ d))] (putS σ s) := by
    refine V_istore_n_2 (q := 37) C hn2 rfl rfl dX4_passDay_36 ?_
    refine V_iload_n_2 (q := 38) C rfl dX4_passDay_37 ?_
    refine V_ifp_eq (tgt := 57) C rfl (by decide) dX4_passDay_38 (fun c38 => ?_) (fun c38 => ?_)
    · refine V_eq ?_ k57
      unfold day1
      first | rw [if_pos c38] | rw [if_neg c38]
    · refine V_aload_n_0 (q := 42) C rfl dX4_passDay_41 ?_
      refine V_aload_n_0 (q := 43) C rfl dX4_passDay_42 ?_
      refine gf_X4_9 (q := 46) C rfl dX4_passDay_43 ?_
      refine V_iload_n_1 (q := 47) C rfl dX4_passDay_46 ?_
      refine V_iald (q := 48) C _ rfl (by show _ < 30; omega) rfl (by decide) (by decide) rfl dX4_passDay_47 ?_
      refine V_aload_n_0 (q := 49) C rfl dX4_passDay_48 ?_
      refine gf_X4_15 (q := 52) C rfl dX4_passDay_49 ?_
      refine V_iload_n_1 (q := 53) C rfl dX4_passDay_52 ?_
      refine V_iald (q := 54) C _ rfl (by show _ < 30; omega) rfl (by decide) (by decide) rfl dX4_passDay_53 ?_
      refine V_cV2v (q := 57) C (c_X4_giveWater σ s T (σ 31 d) (σ 32 d) hT hT6) cw_X4_giveWater cv_X4_giveWater wm_X4_95 (by decide) ob_X4 ⟨by decide, by decide⟩ (Nat.le_of_ble_eq_true rfl) rfl dX4_passDay_54 ?_
      refine V_eq ?_ k57
      unfold day1
      first | rw [if_pos c38] | rw [if_neg c38]
  refine V_aload_n_0 (q := 1) C rfl dX4_passDay_0 ?_
  refine gf_X4_21 (q := 4) C rfl dX4_passDay_1 ?_
  refine V_iload_n_1 (q := 5) C rfl dX4_passDay_4 ?_
  refine V_cN2r (q := 8) C (c_X8_isIn _ (σ 30 4) (nI d)) cw_X8_isIn cs_X8_isIn C.K.2.2.1 ⟨by decide, by decide⟩ (Nat.le_of_ble_eq_true rfl) rfl dX4_passDay_5 ?_
  refine V_ifp_ne (tgt := 35) C rfl (by decide) dX4_passDay_8 (fun c8 => ?_) (fun c8 => ?_)
  · refine V_iconst (q := 36) (v := 0) C rfl rfl dX4_passDay_35 ?_
    rw [show (0 : Int32) = pI (wetC σ d) from (pI_f (fun h => h.1 c8)).symm]
    exact k36
  · refine V_aload_n_0 (q := 12) C rfl dX4_passDay_11 ?_
    refine gf_X4_9 (q := 15) C rfl dX4_passDay_12 ?_
    refine V_iload_n_1 (q := 16) C rfl dX4_passDay_15 ?_
    refine V_iald (q := 17) C _ rfl (by show _ < 30; omega) rfl (by decide) (by decide) rfl dX4_passDay_16 ?_
    refine V_if_gt (tgt := 31) C rfl (by decide) dX4_passDay_17 (fun c17 => ?_) (fun c17 => ?_)
    · refine V_iconst (q := 32) (v := 1) C rfl rfl dX4_passDay_31 ?_
      refine V_goto (tgt := 36) C (by decide) dX4_passDay_32 ?_
      rw [show (1 : Int32) = pI (wetC σ d) from (pI_t ⟨c8, Or.inl c17⟩).symm]
      exact k36
    · refine V_aload_n_0 (q := 21) C rfl dX4_passDay_20 ?_
      refine gf_X4_15 (q := 24) C rfl dX4_passDay_21 ?_
      refine V_iload_n_1 (q := 25) C rfl dX4_passDay_24 ?_
      refine V_iald (q := 26) C _ rfl (by show _ < 30; omega) rfl (by decide) (by decide) rfl dX4_passDay_25 ?_
      refine V_bipush (q := 28) (v := (-9)) C (by decide) rfl dX4_passDay_26 ?_
      refine V_icmp_eq (tgt := 35) C rfl (by decide) dX4_passDay_28 (fun c28 => ?_) (fun c28 => ?_)
      · refine V_iconst (q := 36) (v := 0) C rfl rfl dX4_passDay_35 ?_
        rw [show (0 : Int32) = pI (wetC σ d) from (pI_f (fun h => h.2.elim c17 (fun h => h c28))).symm]
        exact k36
      · refine V_iconst (q := 32) (v := 1) C rfl rfl dX4_passDay_31 ?_
        refine V_goto (tgt := 36) C (by decide) dX4_passDay_32 ?_
        rw [show (1 : Int32) = pI (wetC σ d) from (pI_t ⟨c8, Or.inr c28⟩).symm]
        exact k36

def isLd (ld : Int32) (N : Nat) : Prop := N ≤ 30 ∧ ∀ i : Nat, i ≤ 30 → (nI i ≤ ld ↔ i < N)

set_option maxHeartbeats 4000000 in
set_option maxRecDepth 100000 in
theorem c_X4_pass {l : Launch} {D : DD} {ad : Nat → Nat} (σ : ST) (T P N : Nat) (ld : Int32) (hT : σ 12 0 = nI T) (hT6 : T ≤ 6) (hP : σ 12 1 = nI P) (hP6 : P ≤ 6) (hN : isLd ld N) : Ct l yX4_pass cX4_pass 3 (Option.none : Option FieldType) 4 89 D ad [.ref (ad 30), .int ld] σ (ex none (putS σ (daysC σ T P N (s0C σ)))) := by
  refine Ct.of2 [.ref (ad 30), .int ld, .float 0] rfl (Nat.le_of_ble_eq_true rfl) rfl ?_
  rintro X C rfl rfl rfl hxn hR
  have hn2 : 2 < xn X := by rw [← hxn]; decide
  refine V_aload_n_0 (q := 1) C rfl dX4_pass_0 ?_
  refine V_cV0v (q := 4) C (c_X4_begin σ) cw_X4_begin cv_X4_begin wm_X4_77 (by decide) ob_X4 ⟨by decide, by decide⟩ (Nat.le_of_ble_eq_true rfl) rfl dX4_pass_1 ?_
  refine V_iconst (q := 5) (v := (nI 0)) C rfl rfl dX4_pass_4 ?_
  refine V_istore_n_2 (q := 6) C hn2 rfl rfl dX4_pass_5 ?_
  have hx6 : V X 6 [.ref (xad X 30), .int ld, .int (nI N)] [] (putS σ (daysC σ T P N (s0C σ))) := by
    refine V_iload_n_2 (q := 7) C rfl dX4_pass_6 ?_
    refine V_iload_n_1 (q := 8) C rfl dX4_pass_7 ?_
    refine V_icmp_gt_t (tgt := 28) C (Int32.not_le.mp (fun h => Nat.lt_irrefl _ ((hN.2 N hN.1).mp h))) (by decide) dX4_pass_8 ?_
    refine V_vret C hR dX4_pass_28 ?_
    exact ⟨rfl, rfl⟩
  have hs6 : ∀ d : Nat, d < N → (V X 6 [.ref (xad X 30), .int ld, .int (nI (d + 1))] [] (putS σ (daysC σ T P (d + 1) (s0C σ)))) → V X 6 [.ref (xad X 30), .int ld, .int (nI d)] [] (putS σ (daysC σ T P d (s0C σ))) := by
    intro d hi6 ih6
    refine V_iload_n_2 (q := 7) C rfl dX4_pass_6 ?_
    refine V_iload_n_1 (q := 8) C rfl dX4_pass_7 ?_
    refine V_icmp_gt_f (tgt := 28) C (Int32.not_lt.mpr ((hN.2 d (by have := hN.1; omega)).mpr hi6)) rfl (by decide) dX4_pass_8 ?_
    refine V_iload_n_2 (q := 12) C rfl dX4_pass_11 ?_
    refine V_bipush (q := 14) (v := 30) C (by decide) rfl dX4_pass_12 ?_
    refine V_icmp_ge_f (tgt := 28) C (nI_ge (b := 30) (by have := hN.1; omega) (by decide)) rfl (by decide) dX4_pass_14 ?_
    refine V_aload_n_0 (q := 18) C rfl dX4_pass_17 ?_
    refine V_iload_n_2 (q := 19) C rfl dX4_pass_18 ?_
    refine V_cV1v (q := 22) C (c_X4_passDay σ (daysC σ T P d (s0C σ)) T P d hT hT6 hP hP6 (by have := hN.1; omega)) cw_X4_passDay cv_X4_passDay wm_X4_80 (by decide) ob_X4 ⟨by decide, by decide⟩ (Nat.le_of_ble_eq_true rfl) rfl dX4_pass_19 ?_
    refine V_iinc_2 (q := 25) (n := 1) C nI_inc hn2 rfl rfl dX4_pass_22 ?_
    refine V_goto (tgt := 6) C (by decide) dX4_pass_25 ?_
    exact V_eq rfl ih6
  exact V_eq (rfl) (loopN (P := fun d => V X 6 [.ref (xad X 30), .int ld, .int (nI d)] [] (putS σ (daysC σ T P d (s0C σ)))) (N) hx6 hs6 0 (Nat.zero_le _))

theorem runU_stop {σ : ST} {T P : Nat} {set : Int32} {s : S4} {i : Nat} (h : (runU σ T P set i s).2.2.2 &&& set = 0) : ∀ k : Nat, runU σ T P set (i + k) s = runU σ T P set i s := by
  intro k
  induction k with
  | zero => rfl
  | succ k ih =>
    show (if (runU σ T P set (i + k) s).2.2.2 &&& set = 0 then runU σ T P set (i + k) s else _) = _
    rw [ih, if_pos h]



set_option maxHeartbeats 4000000 in
set_option maxRecDepth 100000 in
theorem c_X4_sumOfOutDays {l : Launch} {D : DD} {ad : Nat → Nat} (σ : ST) (P : Nat) (hP : σ 12 1 = nI P) (hP6 : P ≤ 6) : Ct l yX4_sumOfOutDays cX4_sumOfOutDays 3 (Option.some FieldType.int) 0 0 D ad [.ref (ad 30)] σ (ex (some (.int (sumO (σ 35) P))) σ) := by
  refine Ct.of2 [.ref (ad 30), .float 0, .float 0] rfl (Nat.le_of_ble_eq_true rfl) rfl ?_
  rintro X C rfl rfl rfl hxn hR
  have hn1 : 1 < xn X := by rw [← hxn]; decide
  have hn2 : 2 < xn X := by rw [← hxn]; decide
  refine V_iconst (q := 1) (v := 0) C rfl rfl dX4_sumOfOutDays_0 ?_
  refine V_istore_n_1 (q := 2) C hn1 rfl rfl dX4_sumOfOutDays_1 ?_
  refine V_iconst (q := 3) (v := (nI 0)) C rfl rfl dX4_sumOfOutDays_2 ?_
  refine V_istore_n_2 (q := 4) C hn2 rfl rfl dX4_sumOfOutDays_3 ?_
  have hx4 : V X 4 [.ref (xad X 30), .int (sumO (σ 35) P), .int (nI P)] [] (σ) := by
    refine V_iload_n_2 (q := 5) C rfl dX4_sumOfOutDays_4 ?_
    refine V_aload_n_0 (q := 6) C rfl dX4_sumOfOutDays_5 ?_
    refine gf_X4_40 (q := 9) C rfl dX4_sumOfOutDays_6 ?_
    refine gf_X4_84 (q := 12) C rfl dX4_sumOfOutDays_9 ?_
    rw [show (σ) 12 1 = nI P from hP]
    refine V_icmp_ge_t (tgt := 30) C (nI_le (Nat.le_refl _) (by omega)) (by decide) dX4_sumOfOutDays_12 ?_
    refine V_iload_n_1 (q := 31) C rfl dX4_sumOfOutDays_30 ?_
    refine V_iret C hR dX4_sumOfOutDays_31 ?_
    exact ⟨rfl, rfl⟩
  have hs4 : ∀ p : Nat, p < P → (V X 4 [.ref (xad X 30), .int (sumO (σ 35) (p + 1)), .int (nI (p + 1))] [] (σ)) → V X 4 [.ref (xad X 30), .int (sumO (σ 35) p), .int (nI p)] [] (σ) := by
    intro p hi4 ih4
    refine V_iload_n_2 (q := 5) C rfl dX4_sumOfOutDays_4 ?_
    refine V_aload_n_0 (q := 6) C rfl dX4_sumOfOutDays_5 ?_
    refine gf_X4_40 (q := 9) C rfl dX4_sumOfOutDays_6 ?_
    refine gf_X4_84 (q := 12) C rfl dX4_sumOfOutDays_9 ?_
    rw [show (σ) 12 1 = nI P from hP]
    refine V_icmp_ge_f (tgt := 30) C (nI_ge hi4 (by omega)) rfl (by decide) dX4_sumOfOutDays_12 ?_
    refine V_iload_n_1 (q := 16) C rfl dX4_sumOfOutDays_15 ?_
    refine V_aload_n_0 (q := 17) C rfl dX4_sumOfOutDays_16 ?_
    refine gf_X4_31 (q := 20) C rfl dX4_sumOfOutDays_17 ?_
    refine V_iload_n_2 (q := 21) C rfl dX4_sumOfOutDays_20 ?_
    refine V_iald (q := 22) C _ rfl (by show _ < 6; omega) rfl (by decide) (by decide) rfl dX4_sumOfOutDays_21 ?_
    refine V_iadd (q := 23) C rfl dX4_sumOfOutDays_22 ?_
    refine V_istore_n_1 (q := 24) C hn1 rfl rfl dX4_sumOfOutDays_23 ?_
    refine V_iinc_2 (q := 27) (n := 1) C nI_inc hn2 rfl rfl dX4_sumOfOutDays_24 ?_
    refine V_goto (tgt := 4) C (by decide) dX4_sumOfOutDays_27 ?_
    exact V_eq rfl ih4
  exact V_eq (rfl) (loopN (P := fun p => V X 4 [.ref (xad X 30), .int (sumO (σ 35) p), .int (nI p)] [] (σ)) (P) hx4 hs4 0 (Nat.zero_le _))

def rnG (x : Int32) (d : Nat) : Int32 := if bit x (nI d) then 3 else 0


set_option maxHeartbeats 4000000 in
set_option maxRecDepth 100000 in
theorem c_X4_prepare {l : Launch} {D : DD} {ad : Nat → Nat} (σ : ST) (C2 : Nat) (hC : σ 21 5 = nI C2) (hC6 : C2 ≤ 6) (hcd : ∀ c, c < C2 → ∃ d : Nat, d < 30 ∧ σ 24 c = nI d) : Ct l yX4_prepare cX4_prepare 3 (Option.none : Option FieldType) 1 48 D ad [.ref (ad 30), .ref (ad 21)] σ (ex none (prepF σ C2)) := by
  refine Ct.of2 [.ref (ad 30), .ref (ad 21), .float 0] rfl (Nat.le_of_ble_eq_true rfl) rfl ?_
  rintro X C rfl rfl rfl hxn hR
  have hn2 : 2 < xn X := by rw [← hxn]; decide
  refine V_aload_n_1 (q := 1) C rfl dX4_prepare_0 ?_
  refine gf_X4_44 (q := 4) C rfl dX4_prepare_1 ?_
  refine V_iconst (q := 5) (v := (nI 0)) C rfl rfl dX4_prepare_4 ?_
  refine V_aload_n_0 (q := 6) C rfl dX4_prepare_5 ?_
  refine gf_X4_9 (q := 9) C rfl dX4_prepare_6 ?_
  refine V_iconst (q := 10) (v := (nI 0)) C rfl rfl dX4_prepare_9 ?_
  refine V_bipush (q := 12) (v := (nI 30)) C (by decide) rfl dX4_prepare_10 ?_
  refine V_copy (q := 15) C 0 0 30 rfl rfl rfl (by decide) (by decide) rfl rfl (by decide) (by decide) (by decide) (by decide) wm_X4_47 wn_copy wn_copyS wn_copyI (by decide) (by decide) rfl dX4_prepare_12 ?_
  refine V_arr_congr (g := σ 22) (Or.inl rfl) (fun i hi => by show (if 0 ≤ i ∧ i < 0 + 30 then σ 22 (0 + (i - 0)) else σ 31 i) = σ 22 i; rw [if_pos ⟨Nat.zero_le _, hi⟩]; congr 1; omega) ?_
  refine V_aload_n_1 (q := 16) C rfl dX4_prepare_15 ?_
  refine gf_X4_53 (q := 19) C rfl dX4_prepare_16 ?_
  refine V_iconst (q := 20) (v := (nI 0)) C rfl rfl dX4_prepare_19 ?_
  refine V_aload_n_0 (q := 21) C rfl dX4_prepare_20 ?_
  refine gf_X4_15 (q := 24) C rfl dX4_prepare_21 ?_
  refine V_iconst (q := 25) (v := (nI 0)) C rfl rfl dX4_prepare_24 ?_
  refine V_bipush (q := 27) (v := (nI 30)) C (by decide) rfl dX4_prepare_25 ?_
  refine V_copy (q := 30) C 0 0 30 rfl rfl rfl (by decide) (by decide) rfl rfl (by decide) (by decide) (by decide) (by decide) wm_X4_47 wn_copy wn_copyS wn_copyI (by decide) (by decide) rfl dX4_prepare_27 ?_
  refine V_arr_congr (g := σ 23) (Or.inl rfl) (fun i hi => by show (if 0 ≤ i ∧ i < 0 + 30 then σ 23 (0 + (i - 0)) else σ 32 i) = σ 23 i; rw [if_pos ⟨Nat.zero_le _, hi⟩]; congr 1; omega) ?_
  refine V_aload_n_0 (q := 31) C rfl dX4_prepare_30 ?_
  refine gf_X4_18 (q := 34) C rfl dX4_prepare_31 ?_
  refine V_iconst (q := 35) (v := 0) C rfl rfl dX4_prepare_34 ?_
  refine V_cS2v (q := 38) C (c_J7_fill_53178 _ 33 0 rfl (by decide) (by decide)) cw_J7_fill_53178 cs_J7_fill_53178 wm_X4_54 ⟨by decide, by decide⟩ (Nat.le_of_ble_eq_true rfl) rfl dX4_prepare_35 ?_
  refine V_iconst (q := 39) (v := (nI 0)) C rfl rfl dX4_prepare_38 ?_
  refine V_istore_n_2 (q := 40) C hn2 rfl rfl dX4_prepare_39 ?_
  have hx40 : V X 40 [.ref (xad X 30), .ref (xad X 21), .int (nI C2)] [] (setc (setc (setc σ 31 (σ 22)) 32 (σ 23)) 33 (crsF (σ 24) (σ 25) C2)) := by
    refine V_iload_n_2 (q := 41) C rfl dX4_prepare_40 ?_
    refine V_aload_n_1 (q := 42) C rfl dX4_prepare_41 ?_
    refine gf_X4_60 (q := 45) C rfl dX4_prepare_42 ?_
    rw [show (setc (setc (setc σ 31 (σ 22)) 32 (σ 23)) 33 (crsF (σ 24) (σ 25) C2)) 21 5 = nI C2 from hC]
    refine V_icmp_ge_t (tgt := 76) C (nI_le (Nat.le_refl _) (by omega)) (by decide) dX4_prepare_45 ?_
    refine V_aload_n_0 (q := 77) C rfl dX4_prepare_76 ?_
    refine V_aload_n_1 (q := 78) C rfl dX4_prepare_77 ?_
    refine gf_X4_69 (q := 81) C rfl dX4_prepare_78 ?_
    refine pf_X4_21 (q := 84) C rfl dX4_prepare_81 ?_
    refine V_aload_n_0 (q := 85) C rfl dX4_prepare_84 ?_
    refine V_aload_n_0 (q := 86) C rfl dX4_prepare_85 ?_
    refine gf_X4_40 (q := 89) C rfl dX4_prepare_86 ?_
    refine gf_X4_70 (q := 92) C rfl dX4_prepare_89 ?_
    refine pf_X4_25 (q := 95) C rfl dX4_prepare_92 ?_
    refine V_vret C hR dX4_prepare_95 ?_
    exact ⟨rfl, rfl⟩
  have hs40 : ∀ c : Nat, c < C2 → (V X 40 [.ref (xad X 30), .ref (xad X 21), .int (nI (c + 1))] [] (setc (setc (setc σ 31 (σ 22)) 32 (σ 23)) 33 (crsF (σ 24) (σ 25) (c + 1)))) → V X 40 [.ref (xad X 30), .ref (xad X 21), .int (nI c)] [] (setc (setc (setc σ 31 (σ 22)) 32 (σ 23)) 33 (crsF (σ 24) (σ 25) c)) := by
    intro c hi40 ih40
    obtain ⟨d, hd30, ed⟩ := hcd c hi40
    refine V_iload_n_2 (q := 41) C rfl dX4_prepare_40 ?_
    refine V_aload_n_1 (q := 42) C rfl dX4_prepare_41 ?_
    refine gf_X4_60 (q := 45) C rfl dX4_prepare_42 ?_
    rw [show (setc (setc (setc σ 31 (σ 22)) 32 (σ 23)) 33 (crsF (σ 24) (σ 25) c)) 21 5 = nI C2 from hC]
    refine V_icmp_ge_f (tgt := 76) C (nI_ge hi40 (by omega)) rfl (by decide) dX4_prepare_45 ?_
    refine V_aload_n_0 (q := 49) C rfl dX4_prepare_48 ?_
    refine gf_X4_18 (q := 52) C rfl dX4_prepare_49 ?_
    refine V_aload_n_1 (q := 53) C rfl dX4_prepare_52 ?_
    refine gf_X4_63 (q := 56) C rfl dX4_prepare_53 ?_
    refine V_iload_n_2 (q := 57) C rfl dX4_prepare_56 ?_
    refine V_iald (q := 58) C _ rfl (by show _ < 6; omega) rfl (by decide) (by decide) rfl dX4_prepare_57 ?_
    refine V_dup2 (q := 59) C rfl rfl rfl dX4_prepare_58 ?_
    refine V_iald (q := 60) C d ed (by show _ < 30; omega) rfl (by decide) (by decide) rfl dX4_prepare_59 ?_
    refine V_iconst (q := 61) (v := 1) C rfl rfl dX4_prepare_60 ?_
    refine V_aload_n_1 (q := 62) C rfl dX4_prepare_61 ?_
    refine gf_X4_66 (q := 65) C rfl dX4_prepare_62 ?_
    refine V_iload_n_2 (q := 66) C rfl dX4_prepare_65 ?_
    refine V_iald (q := 67) C _ rfl (by show _ < 6; omega) rfl (by decide) (by decide) rfl dX4_prepare_66 ?_
    refine V_ishl (q := 68) C rfl dX4_prepare_67 ?_
    refine V_ior (q := 69) C rfl dX4_prepare_68 ?_
    refine V_iast (q := 70) C d ed (by show _ < 30; omega) rfl (by decide) (by decide) rfl dX4_prepare_69 ?_
    refine V_iinc_2 (q := 73) (n := 1) C nI_inc hn2 rfl rfl dX4_prepare_70 ?_
    refine V_goto (tgt := 40) C (by decide) dX4_prepare_73 ?_
    refine V_eq ?_ ih40
    show setc (setc (setc (setc σ 31 (σ 22)) 32 (σ 23)) 33 (crsF (σ 24) (σ 25) c)) 33 (upd (crsF (σ 24) (σ 25) c) d (crsF (σ 24) (σ 25) c d ||| own1 (σ 25 c))) = setc (setc (setc σ 31 (σ 22)) 32 (σ 23)) 33 (upd (crsF (σ 24) (σ 25) c) (σ 24 c).toNatClampNeg (crsF (σ 24) (σ 25) c (σ 24 c).toNatClampNeg ||| own1 (σ 25 c)))
    rw [setc_setc, ed, nI_clamp (by omega)]
  exact V_eq (rfl) (loopN (P := fun c => V X 40 [.ref (xad X 30), .ref (xad X 21), .int (nI c)] [] (setc (setc (setc σ 31 (σ 22)) 32 (σ 23)) 33 (crsF (σ 24) (σ 25) c))) (C2) hx40 hs40 0 (Nat.zero_le _))
end
section
/-! calls with an answer that is told by a sentence -/
def pq (Q : Int32 → ST → Prop) : Option Value → ST → Prop := fun v σ => ∃ r : Int32, v = some (.int r) ∧ Q r σ
def pv (Q : ST → Prop) : Option Value → ST → Prop := fun v σ => v = none ∧ Q σ
theorem V_cV0q {X : CT} {own : String} {cc : ByteArray} {ret : Option FieldType} {fr lo : Nat} {pc q : Nat} {lv rest : List Value} {σ : ST} (C : Cx X own cc ret fr lo) {y : MethodName} {yc : ByteArray} {n idx k fr2 lo2 : Nat} {yret : Option FieldType} {Q : Int32 → ST → Prop} (hM : Ct (xl X) y yc n yret fr2 lo2 (xD X) (xad X) (.ref (xad X k) :: []) σ (pq Q)) (hw : Cw y yc n yret 0) (hv : CwV y) (hlink : Cond.methodLink own idx y ∈ TT) (hk : k < 44) (hobj : ∃ (ci : Nat) (fs : List Value) (z : vw_C), cellF (xD X) (xad X) k (σ k) = .inr (ci, fs) ∧ vwCl[ci]? = some z ∧ z.1 = y.cls) (hroom : fr2 + 1 ≤ fr ∧ 8 + (n + 11) + lo2 ≤ lo) (hcat : (rest.map fun v => v.category).sum ≤ 8) (hq : pc + 3 = q) (hdg : decode cc pc = .ok (.invokevirtual idx, 3)) (kk : ∀ (r : Int32) (τ : ST), Q r τ → V X q lv (.int r :: rest) τ) : V X pc lv (.ref (xad X k) :: rest) σ := V_callV C (As := []) hM hw hv hlink hk hobj hroom rfl rfl hcat hq hdg (fun v σ2 h => by obtain ⟨r, rfl, h2⟩ := h; exact kk r σ2 h2)
theorem V_cV0p {X : CT} {own : String} {cc : ByteArray} {ret : Option FieldType} {fr lo : Nat} {pc q : Nat} {lv rest : List Value} {σ : ST} (C : Cx X own cc ret fr lo) {y : MethodName} {yc : ByteArray} {n idx k fr2 lo2 : Nat} {yret : Option FieldType} {Q : ST → Prop} (hM : Ct (xl X) y yc n yret fr2 lo2 (xD X) (xad X) (.ref (xad X k) :: []) σ (pv Q)) (hw : Cw y yc n yret 0) (hv : CwV y) (hlink : Cond.methodLink own idx y ∈ TT) (hk : k < 44) (hobj : ∃ (ci : Nat) (fs : List Value) (z : vw_C), cellF (xD X) (xad X) k (σ k) = .inr (ci, fs) ∧ vwCl[ci]? = some z ∧ z.1 = y.cls) (hroom : fr2 + 1 ≤ fr ∧ 8 + (n + 11) + lo2 ≤ lo) (hcat : (rest.map fun v => v.category).sum ≤ 8) (hq : pc + 3 = q) (hdg : decode cc pc = .ok (.invokevirtual idx, 3)) (kk : ∀ (τ : ST), Q τ → V X q lv rest τ) : V X pc lv (.ref (xad X k) :: rest) σ := V_callV C (As := []) hM hw hv hlink hk hobj hroom rfl rfl hcat hq hdg (fun v σ2 h => by obtain ⟨rfl, h2⟩ := h; exact kk σ2 h2)
theorem V_cV1q {X : CT} {own : String} {cc : ByteArray} {ret : Option FieldType} {fr lo : Nat} {pc q : Nat} {lv rest : List Value} {σ : ST} (C : Cx X own cc ret fr lo) {y : MethodName} {yc : ByteArray} {n idx k fr2 lo2 : Nat} {yret : Option FieldType} {a0 : Value} {Q : Int32 → ST → Prop} (hM : Ct (xl X) y yc n yret fr2 lo2 (xD X) (xad X) (.ref (xad X k) :: [a0]) σ (pq Q)) (hw : Cw y yc n yret 1) (hv : CwV y) (hlink : Cond.methodLink own idx y ∈ TT) (hk : k < 44) (hobj : ∃ (ci : Nat) (fs : List Value) (z : vw_C), cellF (xD X) (xad X) k (σ k) = .inr (ci, fs) ∧ vwCl[ci]? = some z ∧ z.1 = y.cls) (hroom : fr2 + 1 ≤ fr ∧ 8 + (n + 11) + lo2 ≤ lo) (hcat : (rest.map fun v => v.category).sum ≤ 8) (hq : pc + 3 = q) (hdg : decode cc pc = .ok (.invokevirtual idx, 3)) (kk : ∀ (r : Int32) (τ : ST), Q r τ → V X q lv (.int r :: rest) τ) : V X pc lv (a0 :: .ref (xad X k) :: rest) σ := V_callV C (As := [a0]) hM hw hv hlink hk hobj hroom rfl rfl hcat hq hdg (fun v σ2 h => by obtain ⟨r, rfl, h2⟩ := h; exact kk r σ2 h2)
theorem V_cV1p {X : CT} {own : String} {cc : ByteArray} {ret : Option FieldType} {fr lo : Nat} {pc q : Nat} {lv rest : List Value} {σ : ST} (C : Cx X own cc ret fr lo) {y : MethodName} {yc : ByteArray} {n idx k fr2 lo2 : Nat} {yret : Option FieldType} {a0 : Value} {Q : ST → Prop} (hM : Ct (xl X) y yc n yret fr2 lo2 (xD X) (xad X) (.ref (xad X k) :: [a0]) σ (pv Q)) (hw : Cw y yc n yret 1) (hv : CwV y) (hlink : Cond.methodLink own idx y ∈ TT) (hk : k < 44) (hobj : ∃ (ci : Nat) (fs : List Value) (z : vw_C), cellF (xD X) (xad X) k (σ k) = .inr (ci, fs) ∧ vwCl[ci]? = some z ∧ z.1 = y.cls) (hroom : fr2 + 1 ≤ fr ∧ 8 + (n + 11) + lo2 ≤ lo) (hcat : (rest.map fun v => v.category).sum ≤ 8) (hq : pc + 3 = q) (hdg : decode cc pc = .ok (.invokevirtual idx, 3)) (kk : ∀ (τ : ST), Q τ → V X q lv rest τ) : V X pc lv (a0 :: .ref (xad X k) :: rest) σ := V_callV C (As := [a0]) hM hw hv hlink hk hobj hroom rfl rfl hcat hq hdg (fun v σ2 h => by obtain ⟨rfl, h2⟩ := h; exact kk σ2 h2)
theorem V_cV2q {X : CT} {own : String} {cc : ByteArray} {ret : Option FieldType} {fr lo : Nat} {pc q : Nat} {lv rest : List Value} {σ : ST} (C : Cx X own cc ret fr lo) {y : MethodName} {yc : ByteArray} {n idx k fr2 lo2 : Nat} {yret : Option FieldType} {a0 a1 : Value} {Q : Int32 → ST → Prop} (hM : Ct (xl X) y yc n yret fr2 lo2 (xD X) (xad X) (.ref (xad X k) :: [a0, a1]) σ (pq Q)) (hw : Cw y yc n yret 2) (hv : CwV y) (hlink : Cond.methodLink own idx y ∈ TT) (hk : k < 44) (hobj : ∃ (ci : Nat) (fs : List Value) (z : vw_C), cellF (xD X) (xad X) k (σ k) = .inr (ci, fs) ∧ vwCl[ci]? = some z ∧ z.1 = y.cls) (hroom : fr2 + 1 ≤ fr ∧ 8 + (n + 11) + lo2 ≤ lo) (hcat : (rest.map fun v => v.category).sum ≤ 8) (hq : pc + 3 = q) (hdg : decode cc pc = .ok (.invokevirtual idx, 3)) (kk : ∀ (r : Int32) (τ : ST), Q r τ → V X q lv (.int r :: rest) τ) : V X pc lv (a1 :: a0 :: .ref (xad X k) :: rest) σ := V_callV C (As := [a0, a1]) hM hw hv hlink hk hobj hroom rfl rfl hcat hq hdg (fun v σ2 h => by obtain ⟨r, rfl, h2⟩ := h; exact kk r σ2 h2)
theorem V_cV2p {X : CT} {own : String} {cc : ByteArray} {ret : Option FieldType} {fr lo : Nat} {pc q : Nat} {lv rest : List Value} {σ : ST} (C : Cx X own cc ret fr lo) {y : MethodName} {yc : ByteArray} {n idx k fr2 lo2 : Nat} {yret : Option FieldType} {a0 a1 : Value} {Q : ST → Prop} (hM : Ct (xl X) y yc n yret fr2 lo2 (xD X) (xad X) (.ref (xad X k) :: [a0, a1]) σ (pv Q)) (hw : Cw y yc n yret 2) (hv : CwV y) (hlink : Cond.methodLink own idx y ∈ TT) (hk : k < 44) (hobj : ∃ (ci : Nat) (fs : List Value) (z : vw_C), cellF (xD X) (xad X) k (σ k) = .inr (ci, fs) ∧ vwCl[ci]? = some z ∧ z.1 = y.cls) (hroom : fr2 + 1 ≤ fr ∧ 8 + (n + 11) + lo2 ≤ lo) (hcat : (rest.map fun v => v.category).sum ≤ 8) (hq : pc + 3 = q) (hdg : decode cc pc = .ok (.invokevirtual idx, 3)) (kk : ∀ (τ : ST), Q τ → V X q lv rest τ) : V X pc lv (a1 :: a0 :: .ref (xad X k) :: rest) σ := V_callV C (As := [a0, a1]) hM hw hv hlink hk hobj hroom rfl rfl hcat hq hdg (fun v σ2 h => by obtain ⟨rfl, h2⟩ := h; exact kk σ2 h2)
theorem V_cV3q {X : CT} {own : String} {cc : ByteArray} {ret : Option FieldType} {fr lo : Nat} {pc q : Nat} {lv rest : List Value} {σ : ST} (C : Cx X own cc ret fr lo) {y : MethodName} {yc : ByteArray} {n idx k fr2 lo2 : Nat} {yret : Option FieldType} {a0 a1 a2 : Value} {Q : Int32 → ST → Prop} (hM : Ct (xl X) y yc n yret fr2 lo2 (xD X) (xad X) (.ref (xad X k) :: [a0, a1, a2]) σ (pq Q)) (hw : Cw y yc n yret 3) (hv : CwV y) (hlink : Cond.methodLink own idx y ∈ TT) (hk : k < 44) (hobj : ∃ (ci : Nat) (fs : List Value) (z : vw_C), cellF (xD X) (xad X) k (σ k) = .inr (ci, fs) ∧ vwCl[ci]? = some z ∧ z.1 = y.cls) (hroom : fr2 + 1 ≤ fr ∧ 8 + (n + 11) + lo2 ≤ lo) (hcat : (rest.map fun v => v.category).sum ≤ 8) (hq : pc + 3 = q) (hdg : decode cc pc = .ok (.invokevirtual idx, 3)) (kk : ∀ (r : Int32) (τ : ST), Q r τ → V X q lv (.int r :: rest) τ) : V X pc lv (a2 :: a1 :: a0 :: .ref (xad X k) :: rest) σ := V_callV C (As := [a0, a1, a2]) hM hw hv hlink hk hobj hroom rfl rfl hcat hq hdg (fun v σ2 h => by obtain ⟨r, rfl, h2⟩ := h; exact kk r σ2 h2)
theorem V_cV3p {X : CT} {own : String} {cc : ByteArray} {ret : Option FieldType} {fr lo : Nat} {pc q : Nat} {lv rest : List Value} {σ : ST} (C : Cx X own cc ret fr lo) {y : MethodName} {yc : ByteArray} {n idx k fr2 lo2 : Nat} {yret : Option FieldType} {a0 a1 a2 : Value} {Q : ST → Prop} (hM : Ct (xl X) y yc n yret fr2 lo2 (xD X) (xad X) (.ref (xad X k) :: [a0, a1, a2]) σ (pv Q)) (hw : Cw y yc n yret 3) (hv : CwV y) (hlink : Cond.methodLink own idx y ∈ TT) (hk : k < 44) (hobj : ∃ (ci : Nat) (fs : List Value) (z : vw_C), cellF (xD X) (xad X) k (σ k) = .inr (ci, fs) ∧ vwCl[ci]? = some z ∧ z.1 = y.cls) (hroom : fr2 + 1 ≤ fr ∧ 8 + (n + 11) + lo2 ≤ lo) (hcat : (rest.map fun v => v.category).sum ≤ 8) (hq : pc + 3 = q) (hdg : decode cc pc = .ok (.invokevirtual idx, 3)) (kk : ∀ (τ : ST), Q τ → V X q lv rest τ) : V X pc lv (a2 :: a1 :: a0 :: .ref (xad X k) :: rest) σ := V_callV C (As := [a0, a1, a2]) hM hw hv hlink hk hobj hroom rfl rfl hcat hq hdg (fun v σ2 h => by obtain ⟨rfl, h2⟩ := h; exact kk σ2 h2)
theorem V_cV4q {X : CT} {own : String} {cc : ByteArray} {ret : Option FieldType} {fr lo : Nat} {pc q : Nat} {lv rest : List Value} {σ : ST} (C : Cx X own cc ret fr lo) {y : MethodName} {yc : ByteArray} {n idx k fr2 lo2 : Nat} {yret : Option FieldType} {a0 a1 a2 a3 : Value} {Q : Int32 → ST → Prop} (hM : Ct (xl X) y yc n yret fr2 lo2 (xD X) (xad X) (.ref (xad X k) :: [a0, a1, a2, a3]) σ (pq Q)) (hw : Cw y yc n yret 4) (hv : CwV y) (hlink : Cond.methodLink own idx y ∈ TT) (hk : k < 44) (hobj : ∃ (ci : Nat) (fs : List Value) (z : vw_C), cellF (xD X) (xad X) k (σ k) = .inr (ci, fs) ∧ vwCl[ci]? = some z ∧ z.1 = y.cls) (hroom : fr2 + 1 ≤ fr ∧ 8 + (n + 11) + lo2 ≤ lo) (hcat : (rest.map fun v => v.category).sum ≤ 8) (hq : pc + 3 = q) (hdg : decode cc pc = .ok (.invokevirtual idx, 3)) (kk : ∀ (r : Int32) (τ : ST), Q r τ → V X q lv (.int r :: rest) τ) : V X pc lv (a3 :: a2 :: a1 :: a0 :: .ref (xad X k) :: rest) σ := V_callV C (As := [a0, a1, a2, a3]) hM hw hv hlink hk hobj hroom rfl rfl hcat hq hdg (fun v σ2 h => by obtain ⟨r, rfl, h2⟩ := h; exact kk r σ2 h2)
theorem V_cV4p {X : CT} {own : String} {cc : ByteArray} {ret : Option FieldType} {fr lo : Nat} {pc q : Nat} {lv rest : List Value} {σ : ST} (C : Cx X own cc ret fr lo) {y : MethodName} {yc : ByteArray} {n idx k fr2 lo2 : Nat} {yret : Option FieldType} {a0 a1 a2 a3 : Value} {Q : ST → Prop} (hM : Ct (xl X) y yc n yret fr2 lo2 (xD X) (xad X) (.ref (xad X k) :: [a0, a1, a2, a3]) σ (pv Q)) (hw : Cw y yc n yret 4) (hv : CwV y) (hlink : Cond.methodLink own idx y ∈ TT) (hk : k < 44) (hobj : ∃ (ci : Nat) (fs : List Value) (z : vw_C), cellF (xD X) (xad X) k (σ k) = .inr (ci, fs) ∧ vwCl[ci]? = some z ∧ z.1 = y.cls) (hroom : fr2 + 1 ≤ fr ∧ 8 + (n + 11) + lo2 ≤ lo) (hcat : (rest.map fun v => v.category).sum ≤ 8) (hq : pc + 3 = q) (hdg : decode cc pc = .ok (.invokevirtual idx, 3)) (kk : ∀ (τ : ST), Q τ → V X q lv rest τ) : V X pc lv (a3 :: a2 :: a1 :: a0 :: .ref (xad X k) :: rest) σ := V_callV C (As := [a0, a1, a2, a3]) hM hw hv hlink hk hobj hroom rfl rfl hcat hq hdg (fun v σ2 h => by obtain ⟨rfl, h2⟩ := h; exact kk σ2 h2)
theorem V_cV5q {X : CT} {own : String} {cc : ByteArray} {ret : Option FieldType} {fr lo : Nat} {pc q : Nat} {lv rest : List Value} {σ : ST} (C : Cx X own cc ret fr lo) {y : MethodName} {yc : ByteArray} {n idx k fr2 lo2 : Nat} {yret : Option FieldType} {a0 a1 a2 a3 a4 : Value} {Q : Int32 → ST → Prop} (hM : Ct (xl X) y yc n yret fr2 lo2 (xD X) (xad X) (.ref (xad X k) :: [a0, a1, a2, a3, a4]) σ (pq Q)) (hw : Cw y yc n yret 5) (hv : CwV y) (hlink : Cond.methodLink own idx y ∈ TT) (hk : k < 44) (hobj : ∃ (ci : Nat) (fs : List Value) (z : vw_C), cellF (xD X) (xad X) k (σ k) = .inr (ci, fs) ∧ vwCl[ci]? = some z ∧ z.1 = y.cls) (hroom : fr2 + 1 ≤ fr ∧ 8 + (n + 11) + lo2 ≤ lo) (hcat : (rest.map fun v => v.category).sum ≤ 8) (hq : pc + 3 = q) (hdg : decode cc pc = .ok (.invokevirtual idx, 3)) (kk : ∀ (r : Int32) (τ : ST), Q r τ → V X q lv (.int r :: rest) τ) : V X pc lv (a4 :: a3 :: a2 :: a1 :: a0 :: .ref (xad X k) :: rest) σ := V_callV C (As := [a0, a1, a2, a3, a4]) hM hw hv hlink hk hobj hroom rfl rfl hcat hq hdg (fun v σ2 h => by obtain ⟨r, rfl, h2⟩ := h; exact kk r σ2 h2)
theorem V_cV5p {X : CT} {own : String} {cc : ByteArray} {ret : Option FieldType} {fr lo : Nat} {pc q : Nat} {lv rest : List Value} {σ : ST} (C : Cx X own cc ret fr lo) {y : MethodName} {yc : ByteArray} {n idx k fr2 lo2 : Nat} {yret : Option FieldType} {a0 a1 a2 a3 a4 : Value} {Q : ST → Prop} (hM : Ct (xl X) y yc n yret fr2 lo2 (xD X) (xad X) (.ref (xad X k) :: [a0, a1, a2, a3, a4]) σ (pv Q)) (hw : Cw y yc n yret 5) (hv : CwV y) (hlink : Cond.methodLink own idx y ∈ TT) (hk : k < 44) (hobj : ∃ (ci : Nat) (fs : List Value) (z : vw_C), cellF (xD X) (xad X) k (σ k) = .inr (ci, fs) ∧ vwCl[ci]? = some z ∧ z.1 = y.cls) (hroom : fr2 + 1 ≤ fr ∧ 8 + (n + 11) + lo2 ≤ lo) (hcat : (rest.map fun v => v.category).sum ≤ 8) (hq : pc + 3 = q) (hdg : decode cc pc = .ok (.invokevirtual idx, 3)) (kk : ∀ (τ : ST), Q τ → V X q lv rest τ) : V X pc lv (a4 :: a3 :: a2 :: a1 :: a0 :: .ref (xad X k) :: rest) σ := V_callV C (As := [a0, a1, a2, a3, a4]) hM hw hv hlink hk hobj hroom rfl rfl hcat hq hdg (fun v σ2 h => by obtain ⟨rfl, h2⟩ := h; exact kk σ2 h2)
theorem tkN_put {σ : ST} {s t : S4} {d : Int32} : ∀ n : Nat, tkN (putS σ s) d n t = tkN σ d n t := by
  intro n
  induction n with
  | zero => rfl
  | succ n ih =>
    show tkStep (putS σ s) d n (tkN (putS σ s) d n t) = tkStep σ d n (tkN σ d n t)
    rw [ih]
    rfl
theorem dayC_put {σ : ST} {s t : S4} {T P d : Nat} : dayC (putS σ s) T P d t = dayC σ T P d t := by
  show day4 σ P d (if wetC σ d then tkN (putS σ s) (nI d) T _ else _) = day4 σ P d (if wetC σ d then tkN σ (nI d) T _ else _)
  rw [tkN_put]
  rfl
theorem runU_put {σ : ST} {s t : S4} {T P : Nat} {x : Int32} : ∀ n : Nat, runU (putS σ s) T P x n t = runU σ T P x n t := by
  intro n
  induction n with
  | zero => rfl
  | succ n ih =>
    show (if (runU (putS σ s) T P x n t).2.2.2 &&& x = 0 then runU (putS σ s) T P x n t else dayC (putS σ s) T P n (runU (putS σ s) T P x n t)) = _
    rw [ih, dayC_put]
    rfl
theorem daysC_put {σ : ST} {s t : S4} {T P : Nat} : ∀ n : Nat, daysC (putS σ s) T P n t = daysC σ T P n t := by
  intro n
  induction n with
  | zero => rfl
  | succ n ih =>
    show dayC (putS σ s) T P n (daysC (putS σ s) T P n t) = _
    rw [ih, dayC_put]
    rfl

theorem V_cS0q {X : CT} {own : String} {cc : ByteArray} {ret : Option FieldType} {fr lo : Nat} {pc q : Nat} {lv rest : List Value} {σ : ST} (C : Cx X own cc ret fr lo) {y : MethodName} {yc : ByteArray} {n idx fr2 lo2 : Nat} {yret : Option FieldType} {Q : Int32 → ST → Prop} (hM : Ct (xl X) y yc n yret fr2 lo2 (xD X) (xad X) [] σ (pq Q)) (hw : Cw y yc n yret 0) (hv : Cond.static y ∈ TT) (hlink : Cond.methodLink own idx y ∈ TT) (hroom : fr2 + 1 ≤ fr ∧ 8 + (n + 11) + lo2 ≤ lo) (hcat : (rest.map fun v => v.category).sum ≤ 8) (hq : pc + 3 = q) (hdg : decode cc pc = .ok (.invokestatic idx, 3)) (kk : ∀ (r : Int32) (τ : ST), Q r τ → V X q lv (.int r :: rest) τ) : V X pc lv (rest) σ := V_callS C (As := []) hM hw hv hlink hroom rfl rfl hcat hq hdg (fun v σ2 h => by obtain ⟨r, rfl, h2⟩ := h; exact kk r σ2 h2)
theorem V_cS1q {X : CT} {own : String} {cc : ByteArray} {ret : Option FieldType} {fr lo : Nat} {pc q : Nat} {lv rest : List Value} {σ : ST} (C : Cx X own cc ret fr lo) {y : MethodName} {yc : ByteArray} {n idx fr2 lo2 : Nat} {yret : Option FieldType} {a0 : Value} {Q : Int32 → ST → Prop} (hM : Ct (xl X) y yc n yret fr2 lo2 (xD X) (xad X) [a0] σ (pq Q)) (hw : Cw y yc n yret 1) (hv : Cond.static y ∈ TT) (hlink : Cond.methodLink own idx y ∈ TT) (hroom : fr2 + 1 ≤ fr ∧ 8 + (n + 11) + lo2 ≤ lo) (hcat : (rest.map fun v => v.category).sum ≤ 8) (hq : pc + 3 = q) (hdg : decode cc pc = .ok (.invokestatic idx, 3)) (kk : ∀ (r : Int32) (τ : ST), Q r τ → V X q lv (.int r :: rest) τ) : V X pc lv (a0 :: rest) σ := V_callS C (As := [a0]) hM hw hv hlink hroom rfl rfl hcat hq hdg (fun v σ2 h => by obtain ⟨r, rfl, h2⟩ := h; exact kk r σ2 h2)
theorem V_cS2q {X : CT} {own : String} {cc : ByteArray} {ret : Option FieldType} {fr lo : Nat} {pc q : Nat} {lv rest : List Value} {σ : ST} (C : Cx X own cc ret fr lo) {y : MethodName} {yc : ByteArray} {n idx fr2 lo2 : Nat} {yret : Option FieldType} {a0 a1 : Value} {Q : Int32 → ST → Prop} (hM : Ct (xl X) y yc n yret fr2 lo2 (xD X) (xad X) [a0, a1] σ (pq Q)) (hw : Cw y yc n yret 2) (hv : Cond.static y ∈ TT) (hlink : Cond.methodLink own idx y ∈ TT) (hroom : fr2 + 1 ≤ fr ∧ 8 + (n + 11) + lo2 ≤ lo) (hcat : (rest.map fun v => v.category).sum ≤ 8) (hq : pc + 3 = q) (hdg : decode cc pc = .ok (.invokestatic idx, 3)) (kk : ∀ (r : Int32) (τ : ST), Q r τ → V X q lv (.int r :: rest) τ) : V X pc lv (a1 :: a0 :: rest) σ := V_callS C (As := [a0, a1]) hM hw hv hlink hroom rfl rfl hcat hq hdg (fun v σ2 h => by obtain ⟨r, rfl, h2⟩ := h; exact kk r σ2 h2)
theorem V_cS3q {X : CT} {own : String} {cc : ByteArray} {ret : Option FieldType} {fr lo : Nat} {pc q : Nat} {lv rest : List Value} {σ : ST} (C : Cx X own cc ret fr lo) {y : MethodName} {yc : ByteArray} {n idx fr2 lo2 : Nat} {yret : Option FieldType} {a0 a1 a2 : Value} {Q : Int32 → ST → Prop} (hM : Ct (xl X) y yc n yret fr2 lo2 (xD X) (xad X) [a0, a1, a2] σ (pq Q)) (hw : Cw y yc n yret 3) (hv : Cond.static y ∈ TT) (hlink : Cond.methodLink own idx y ∈ TT) (hroom : fr2 + 1 ≤ fr ∧ 8 + (n + 11) + lo2 ≤ lo) (hcat : (rest.map fun v => v.category).sum ≤ 8) (hq : pc + 3 = q) (hdg : decode cc pc = .ok (.invokestatic idx, 3)) (kk : ∀ (r : Int32) (τ : ST), Q r τ → V X q lv (.int r :: rest) τ) : V X pc lv (a2 :: a1 :: a0 :: rest) σ := V_callS C (As := [a0, a1, a2]) hM hw hv hlink hroom rfl rfl hcat hq hdg (fun v σ2 h => by obtain ⟨r, rfl, h2⟩ := h; exact kk r σ2 h2)
theorem V_cS4q {X : CT} {own : String} {cc : ByteArray} {ret : Option FieldType} {fr lo : Nat} {pc q : Nat} {lv rest : List Value} {σ : ST} (C : Cx X own cc ret fr lo) {y : MethodName} {yc : ByteArray} {n idx fr2 lo2 : Nat} {yret : Option FieldType} {a0 a1 a2 a3 : Value} {Q : Int32 → ST → Prop} (hM : Ct (xl X) y yc n yret fr2 lo2 (xD X) (xad X) [a0, a1, a2, a3] σ (pq Q)) (hw : Cw y yc n yret 4) (hv : Cond.static y ∈ TT) (hlink : Cond.methodLink own idx y ∈ TT) (hroom : fr2 + 1 ≤ fr ∧ 8 + (n + 11) + lo2 ≤ lo) (hcat : (rest.map fun v => v.category).sum ≤ 8) (hq : pc + 3 = q) (hdg : decode cc pc = .ok (.invokestatic idx, 3)) (kk : ∀ (r : Int32) (τ : ST), Q r τ → V X q lv (.int r :: rest) τ) : V X pc lv (a3 :: a2 :: a1 :: a0 :: rest) σ := V_callS C (As := [a0, a1, a2, a3]) hM hw hv hlink hroom rfl rfl hcat hq hdg (fun v σ2 h => by obtain ⟨r, rfl, h2⟩ := h; exact kk r σ2 h2)
theorem V_cS5q {X : CT} {own : String} {cc : ByteArray} {ret : Option FieldType} {fr lo : Nat} {pc q : Nat} {lv rest : List Value} {σ : ST} (C : Cx X own cc ret fr lo) {y : MethodName} {yc : ByteArray} {n idx fr2 lo2 : Nat} {yret : Option FieldType} {a0 a1 a2 a3 a4 : Value} {Q : Int32 → ST → Prop} (hM : Ct (xl X) y yc n yret fr2 lo2 (xD X) (xad X) [a0, a1, a2, a3, a4] σ (pq Q)) (hw : Cw y yc n yret 5) (hv : Cond.static y ∈ TT) (hlink : Cond.methodLink own idx y ∈ TT) (hroom : fr2 + 1 ≤ fr ∧ 8 + (n + 11) + lo2 ≤ lo) (hcat : (rest.map fun v => v.category).sum ≤ 8) (hq : pc + 3 = q) (hdg : decode cc pc = .ok (.invokestatic idx, 3)) (kk : ∀ (r : Int32) (τ : ST), Q r τ → V X q lv (.int r :: rest) τ) : V X pc lv (a4 :: a3 :: a2 :: a1 :: a0 :: rest) σ := V_callS C (As := [a0, a1, a2, a3, a4]) hM hw hv hlink hroom rfl rfl hcat hq hdg (fun v σ2 h => by obtain ⟨r, rfl, h2⟩ := h; exact kk r σ2 h2)
theorem V_cS6q {X : CT} {own : String} {cc : ByteArray} {ret : Option FieldType} {fr lo : Nat} {pc q : Nat} {lv rest : List Value} {σ : ST} (C : Cx X own cc ret fr lo) {y : MethodName} {yc : ByteArray} {n idx fr2 lo2 : Nat} {yret : Option FieldType} {a0 a1 a2 a3 a4 a5 : Value} {Q : Int32 → ST → Prop} (hM : Ct (xl X) y yc n yret fr2 lo2 (xD X) (xad X) [a0, a1, a2, a3, a4, a5] σ (pq Q)) (hw : Cw y yc n yret 6) (hv : Cond.static y ∈ TT) (hlink : Cond.methodLink own idx y ∈ TT) (hroom : fr2 + 1 ≤ fr ∧ 8 + (n + 11) + lo2 ≤ lo) (hcat : (rest.map fun v => v.category).sum ≤ 8) (hq : pc + 3 = q) (hdg : decode cc pc = .ok (.invokestatic idx, 3)) (kk : ∀ (r : Int32) (τ : ST), Q r τ → V X q lv (.int r :: rest) τ) : V X pc lv (a5 :: a4 :: a3 :: a2 :: a1 :: a0 :: rest) σ := V_callS C (As := [a0, a1, a2, a3, a4, a5]) hM hw hv hlink hroom rfl rfl hcat hq hdg (fun v σ2 h => by obtain ⟨r, rfl, h2⟩ := h; exact kk r σ2 h2)
theorem V_cS7q {X : CT} {own : String} {cc : ByteArray} {ret : Option FieldType} {fr lo : Nat} {pc q : Nat} {lv rest : List Value} {σ : ST} (C : Cx X own cc ret fr lo) {y : MethodName} {yc : ByteArray} {n idx fr2 lo2 : Nat} {yret : Option FieldType} {a0 a1 a2 a3 a4 a5 a6 : Value} {Q : Int32 → ST → Prop} (hM : Ct (xl X) y yc n yret fr2 lo2 (xD X) (xad X) [a0, a1, a2, a3, a4, a5, a6] σ (pq Q)) (hw : Cw y yc n yret 7) (hv : Cond.static y ∈ TT) (hlink : Cond.methodLink own idx y ∈ TT) (hroom : fr2 + 1 ≤ fr ∧ 8 + (n + 11) + lo2 ≤ lo) (hcat : (rest.map fun v => v.category).sum ≤ 8) (hq : pc + 3 = q) (hdg : decode cc pc = .ok (.invokestatic idx, 3)) (kk : ∀ (r : Int32) (τ : ST), Q r τ → V X q lv (.int r :: rest) τ) : V X pc lv (a6 :: a5 :: a4 :: a3 :: a2 :: a1 :: a0 :: rest) σ := V_callS C (As := [a0, a1, a2, a3, a4, a5, a6]) hM hw hv hlink hroom rfl rfl hcat hq hdg (fun v σ2 h => by obtain ⟨r, rfl, h2⟩ := h; exact kk r σ2 h2)
theorem V_cS8q {X : CT} {own : String} {cc : ByteArray} {ret : Option FieldType} {fr lo : Nat} {pc q : Nat} {lv rest : List Value} {σ : ST} (C : Cx X own cc ret fr lo) {y : MethodName} {yc : ByteArray} {n idx fr2 lo2 : Nat} {yret : Option FieldType} {a0 a1 a2 a3 a4 a5 a6 a7 : Value} {Q : Int32 → ST → Prop} (hM : Ct (xl X) y yc n yret fr2 lo2 (xD X) (xad X) [a0, a1, a2, a3, a4, a5, a6, a7] σ (pq Q)) (hw : Cw y yc n yret 8) (hv : Cond.static y ∈ TT) (hlink : Cond.methodLink own idx y ∈ TT) (hroom : fr2 + 1 ≤ fr ∧ 8 + (n + 11) + lo2 ≤ lo) (hcat : (rest.map fun v => v.category).sum ≤ 8) (hq : pc + 3 = q) (hdg : decode cc pc = .ok (.invokestatic idx, 3)) (kk : ∀ (r : Int32) (τ : ST), Q r τ → V X q lv (.int r :: rest) τ) : V X pc lv (a7 :: a6 :: a5 :: a4 :: a3 :: a2 :: a1 :: a0 :: rest) σ := V_callS C (As := [a0, a1, a2, a3, a4, a5, a6, a7]) hM hw hv hlink hroom rfl rfl hcat hq hdg (fun v σ2 h => by obtain ⟨r, rfl, h2⟩ := h; exact kk r σ2 h2)
theorem V_eqlv {X : CT} {pc : Nat} {lv lv2 st : List Value} {σ : ST} (h : lv = lv2) (k : V X pc lv2 st σ) : V X pc lv st σ := h ▸ k
theorem V_eqst {X : CT} {pc : Nat} {lv st st2 : List Value} {σ : ST} (h : st = st2) (k : V X pc lv st2 σ) : V X pc lv st σ := h ▸ k
def fst? (q : Nat → Prop) [DecidablePred q] : Nat → Nat → Option Nat
  | 0, _ => none
  | f + 1, i => if q i then some i else fst? q f (i + 1)
end
section
/-! the class: its public calls, a case each -/
def sel6 (w a0 a1 a2 a3 a4 a5 : Int32) : Int32 := if w = nI 0 then a0 else if w = nI 1 then a1 else if w = nI 2 then a2 else if w = nI 3 then a3 else if w = nI 4 then a4 else if w = nI 5 then a5 else -2
def sel4 (w a0 a1 a2 a3 : Int32) : Int32 := if w = nI 0 then a0 else if w = nI 1 then a1 else if w = nI 2 then a2 else if w = nI 3 then a3 else -2
def sel2 (w a0 a1 : Int32) : Int32 := if w = 0 then a0 else if w = 1 then a1 else -2
theorem setf_setf {σ : ST} {k i : Nat} {x y : Int32} : setf (setf σ k i x) k i y = setf σ k i y := by
  unfold setf
  rw [setc_setc, setc_s, upd_upd]
theorem le_of_lt31 {a : Int32} (h : ¬ a < 30) : 30 ≤ a := Int32.not_lt.mp h
theorem pl0_of {T : Nat} (h0 : 0 < T) (hT6 : T ≤ 6) : (0 : Int32) < nI T := nI_lt (a := 0) h0 (by omega)
theorem pl0_no {T : Nat} (h0 : T = 0) : ¬ (0 : Int32) < nI T := by subst h0; decide
def pl (Q : Int64 → ST → Prop) : Option Value → ST → Prop := fun v σ => ∃ r : Int64, v = some (.long r) ∧ Q r σ
def lostL : Int64 := -9223372036854775808

set_option maxHeartbeats 4000000 in
set_option maxRecDepth 100000 in
theorem c_X8_sheetOf {l : Launch} {D : DD} {ad : Nat → Nat} (σ : ST) (j : Nat) (hj : j < 4) : Ct l yX8_sheetOf cX8_sheetOf 2 (Option.some (FieldType.object "KeyOrchard$Sheet")) 0 0 D ad [.ref (ad 0), .int (nI j)] σ (ex (some (.ref (ad (2 + 2 * j)))) σ) := by
  refine Ct.of2 [.ref (ad 0), .int (nI j)] rfl (Nat.le_of_ble_eq_true rfl) rfl ?_
  rintro X C rfl rfl rfl hxn hR
  refine V_iload_n_1 (q := 1) C rfl dX8_sheetOf_0 ?_
  refine V_if_lt_f (tgt := 18) C (nI_pos (by omega)) rfl (by decide) dX8_sheetOf_1 ?_
  refine V_iload_n_1 (q := 5) C rfl dX8_sheetOf_4 ?_
  refine V_iconst (q := 6) (v := 4) C rfl rfl dX8_sheetOf_5 ?_
  refine V_icmp_ge_f (tgt := 18) C (nI_ge (b := 4) hj (by decide)) rfl (by decide) dX8_sheetOf_6 ?_
  refine V_aload_n_0 (q := 10) C rfl dX8_sheetOf_9 ?_
  refine gf_X8_13 (q := 13) C rfl dX8_sheetOf_10 ?_
  refine V_iload_n_1 (q := 14) C rfl dX8_sheetOf_13 ?_
  refine V_shald (q := 15) C j rfl hj rfl dX8_sheetOf_14 ?_
  refine V_goto (tgt := 19) C (by decide) dX8_sheetOf_15 ?_
  refine V_aret C hR (Or.inr ⟨_, rfl⟩) dX8_sheetOf_19 ?_
  exact ⟨rfl, rfl⟩

set_option maxHeartbeats 4000000 in
set_option maxRecDepth 100000 in
theorem c_X8_sheetOfN {l : Launch} {D : DD} {ad : Nat → Nat} (σ : ST) (k : Int32) (h : ¬ isT 4 k) : Ct l yX8_sheetOf cX8_sheetOf 2 (Option.some (FieldType.object "KeyOrchard$Sheet")) 0 0 D ad [.ref (ad 0), .int k] σ (ex (some .null) σ) := by
  refine Ct.of2 [.ref (ad 0), .int k] rfl (Nat.le_of_ble_eq_true rfl) rfl ?_
  rintro X C rfl rfl rfl hxn hR
  refine V_iload_n_1 (q := 1) C rfl dX8_sheetOf_0 ?_
  refine V_if_lt (tgt := 18) C rfl (by decide) dX8_sheetOf_1 (fun c1 => ?_) (fun c1 => ?_)
  · refine V_null (q := 19) C rfl dX8_sheetOf_18 ?_
    refine V_aret C hR (Or.inl rfl) dX8_sheetOf_19 ?_
    exact ⟨rfl, rfl⟩
  · refine V_iload_n_1 (q := 5) C rfl dX8_sheetOf_4 ?_
    refine V_iconst (q := 6) (v := 4) C rfl rfl dX8_sheetOf_5 ?_
    refine V_icmp_ge (tgt := 18) C rfl (by decide) dX8_sheetOf_6 (fun c6 => ?_) (fun c6 => ?_)
    · refine V_null (q := 19) C rfl dX8_sheetOf_18 ?_
      refine V_aret C hR (Or.inl rfl) dX8_sheetOf_19 ?_
      exact ⟨rfl, rfl⟩
    · exact absurd ⟨c1, c6⟩ h

set_option maxHeartbeats 4000000 in
set_option maxRecDepth 100000 in
theorem c_X8_faulted {l : Launch} {D : DD} {ad : Nat → Nat} (σ : ST) (w : Int32)  : Ct l yX8_faulted cX8_faulted 2 (Option.some FieldType.int) 0 0 D ad [.ref (ad 0), .int w] σ (ex (some (.int (-10 - w))) (setf σ 0 8 w)) := by
  refine Ct.of2 [.ref (ad 0), .int w] rfl (Nat.le_of_ble_eq_true rfl) rfl ?_
  rintro X C rfl rfl rfl hxn hR
  refine V_aload_n_0 (q := 1) C rfl dX8_faulted_0 ?_
  refine V_iload_n_1 (q := 2) C rfl dX8_faulted_1 ?_
  refine pf_X8_45 (q := 5) C rfl dX8_faulted_2 ?_
  refine V_bipush (q := 7) (v := (-10)) C (by decide) rfl dX8_faulted_5 ?_
  refine V_iload_n_1 (q := 8) C rfl dX8_faulted_7 ?_
  refine V_isub (q := 9) C rfl dX8_faulted_8 ?_
  refine V_iret C hR dX8_faulted_9 ?_
  exact ⟨rfl, rfl⟩

def paT (σ : ST) (T P C N : Nat) : ST := putS (prepF σ C) (daysC (prepF σ C) T P N (s0C σ))

set_option maxHeartbeats 4000000 in
set_option maxRecDepth 100000 in
theorem c_X8_passAsTold {l : Launch} {D : DD} {ad : Nat → Nat} (σ : ST) (T P C2 N : Nat) (ld : Int32) (hT : σ 12 0 = nI T) (hT6 : T ≤ 6) (hP : σ 12 1 = nI P) (hP6 : P ≤ 6) (hC : σ 21 5 = nI C2) (hC6 : C2 ≤ 6) (hcd : ∀ c, c < C2 → ∃ d : Nat, d < 30 ∧ σ 24 c = nI d) (hN : isLd ld N) : Ct l yX8_passAsTold cX8_passAsTold 2 (Option.none : Option FieldType) 5 111 D ad [.ref (ad 0), .int ld] σ (ex none (paT σ T P C2 N)) := by
  refine Ct.of2 [.ref (ad 0), .int ld] rfl (Nat.le_of_ble_eq_true rfl) rfl ?_
  rintro X C rfl rfl rfl hxn hR
  refine V_aload_n_0 (q := 1) C rfl dX8_passAsTold_0 ?_
  refine gf_X8_61 (q := 4) C rfl dX8_passAsTold_1 ?_
  refine V_aload_n_0 (q := 5) C rfl dX8_passAsTold_4 ?_
  refine gf_X8_27 (q := 8) C rfl dX8_passAsTold_5 ?_
  refine V_cV1v (q := 11) C (c_X4_prepare σ C2 hC hC6 hcd) cw_X4_prepare cv_X4_prepare wm_X8_195 (by decide) ob_X4 ⟨by decide, by decide⟩ (Nat.le_of_ble_eq_true rfl) rfl dX8_passAsTold_8 ?_
  refine V_aload_n_0 (q := 12) C rfl dX8_passAsTold_11 ?_
  refine gf_X8_61 (q := 15) C rfl dX8_passAsTold_12 ?_
  refine V_iload_n_1 (q := 16) C rfl dX8_passAsTold_15 ?_
  refine V_cV1v (q := 19) C (c_X4_pass (prepF σ C2) T P N ld hT hT6 hP hP6 hN) cw_X4_pass cv_X4_pass wm_X8_227 (by decide) ob_X4 ⟨by decide, by decide⟩ (Nat.le_of_ble_eq_true rfl) rfl dX8_passAsTold_16 ?_
  refine V_vret C hR dX8_passAsTold_19 ?_
  exact ⟨rfl, rfl⟩

set_option maxHeartbeats 4000000 in
set_option maxRecDepth 100000 in
theorem c_X8_ofTree_u {l : Launch} {D : DD} {ad : Nat → Nat} (σ : ST) (T : Nat) (t w : Int32) (hT : σ 12 0 = nI T) (h : ¬ isT (nI T) t) : Ct l yX8_ofTree cX8_ofTree 3 (Option.some FieldType.int) 1 22 D ad [.ref (ad 0), .int t, .int w] σ (ex (some (.int (-1))) σ) := by
  refine Ct.of2 [.ref (ad 0), .int t, .int w] rfl (Nat.le_of_ble_eq_true rfl) rfl ?_
  rintro X C rfl rfl rfl hxn hR
  refine V_aload_n_0 (q := 1) C rfl dX8_ofTree_0 ?_
  refine gf_X8_57 (q := 4) C rfl dX8_ofTree_1 ?_
  refine V_iload_n_1 (q := 5) C rfl dX8_ofTree_4 ?_
  refine V_cV1r (q := 8) C (Ct.mono (v' := some (.int (pI (isT (nI T) t)))) (c_X1_hasTree σ t) (by rw [show σ 12 0 = nI T from hT]) rfl) cw_X1_hasTree cv_X1_hasTree wm_X8_119 (by decide) ob_X1 ⟨by decide, by decide⟩ (Nat.le_of_ble_eq_true rfl) rfl dX8_ofTree_5 ?_
  refine V_ifp_ne_f (tgt := 13) C h rfl (by decide) dX8_ofTree_8 ?_
  refine V_iconst (q := 12) (v := (-1)) C rfl rfl dX8_ofTree_11 ?_
  refine V_iret C hR dX8_ofTree_12 ?_
  exact ⟨rfl, rfl⟩

theorem sel6_0 {a0 a1 a2 a3 a4 a5 : Int32} : sel6 (nI 0) a0 a1 a2 a3 a4 a5 = a0 := rfl
theorem sel6_1 {a0 a1 a2 a3 a4 a5 : Int32} : sel6 (nI 1) a0 a1 a2 a3 a4 a5 = a1 := rfl
theorem sel6_2 {a0 a1 a2 a3 a4 a5 : Int32} : sel6 (nI 2) a0 a1 a2 a3 a4 a5 = a2 := rfl
theorem sel6_3 {a0 a1 a2 a3 a4 a5 : Int32} : sel6 (nI 3) a0 a1 a2 a3 a4 a5 = a3 := rfl
theorem sel6_4 {a0 a1 a2 a3 a4 a5 : Int32} : sel6 (nI 4) a0 a1 a2 a3 a4 a5 = a4 := rfl
theorem sel6_5 {a0 a1 a2 a3 a4 a5 : Int32} : sel6 (nI 5) a0 a1 a2 a3 a4 a5 = a5 := rfl
theorem sel6_d {w a0 a1 a2 a3 a4 a5 : Int32} (h : ∀ j : Nat, j < 6 → ¬ w = nI j) : sel6 w a0 a1 a2 a3 a4 a5 = -2 := by
  unfold sel6
  rw [if_neg (h 0 (by decide)), if_neg (h 1 (by decide)), if_neg (h 2 (by decide)), if_neg (h 3 (by decide)), if_neg (h 4 (by decide)), if_neg (h 5 (by decide))]
theorem sel4_d {w a0 a1 a2 a3 : Int32} (h : ∀ j : Nat, j < 4 → ¬ w = nI j) : sel4 w a0 a1 a2 a3 = -2 := by
  unfold sel4
  rw [if_neg (h 0 (by decide)), if_neg (h 1 (by decide)), if_neg (h 2 (by decide)), if_neg (h 3 (by decide))]

set_option maxHeartbeats 4000000 in
set_option maxRecDepth 100000 in
theorem c_X8_ofTree_v {l : Launch} {D : DD} {ad : Nat → Nat} (σ : ST) (T j : Nat) (w : Int32) (hT : σ 12 0 = nI T) (hT6 : T ≤ 6) (hj : j < T) : Ct l yX8_ofTree cX8_ofTree 3 (Option.some FieldType.int) 1 22 D ad [.ref (ad 0), .int (nI j), .int w] σ (ex (some (.int (sel6 w (σ 13 j) (σ 14 j) (σ 15 j) (σ 16 j) (opensC (σ 13 j) (σ 14 j)) (pI (bit (σ 12 2) (nI j)))))) σ) := by
  refine Ct.of2 [.ref (ad 0), .int (nI j), .int w] rfl (Nat.le_of_ble_eq_true rfl) rfl ?_
  rintro X C rfl rfl rfl hxn hR
  refine V_aload_n_0 (q := 1) C rfl dX8_ofTree_0 ?_
  refine gf_X8_57 (q := 4) C rfl dX8_ofTree_1 ?_
  refine V_iload_n_1 (q := 5) C rfl dX8_ofTree_4 ?_
  refine V_cV1r (q := 8) C (Ct.mono (v' := some (.int (pI (isT (nI T) (nI j))))) (c_X1_hasTree σ (nI j)) (by rw [show σ 12 0 = nI T from hT]) rfl) cw_X1_hasTree cv_X1_hasTree wm_X8_119 (by decide) ob_X1 ⟨by decide, by decide⟩ (Nat.le_of_ble_eq_true rfl) rfl dX8_ofTree_5 ?_
  refine V_ifp_ne_t (tgt := 13) C (isT_nI hj (by omega)) (by decide) dX8_ofTree_8 ?_
  refine V_iload_n_2 (q := 14) C rfl dX8_ofTree_13 ?_
  refine V_tab (n := 6) (td := 121) C (fun j => ([52, 62, 72, 82, 92, 101] : List Nat).getD j 0) rfl (by decide) (fun j hj => by rcases (show j = 0 ∨ j = 1 ∨ j = 2 ∨ j = 3 ∨ j = 4 ∨ j = 5 by omega) with rfl | rfl | rfl | rfl | rfl | rfl <;> exact ⟨_, rfl, by decide⟩) (by decide) dX8_ofTree_14 (fun j hj c14 => ?_) (fun c14 => ?_)
  · rcases (show j = 0 ∨ j = 1 ∨ j = 2 ∨ j = 3 ∨ j = 4 ∨ j = 5 by omega) with rfl | rfl | rfl | rfl | rfl | rfl
    · show V X 52 _ _ _
      refine V_aload_n_0 (q := 53) C rfl dX8_ofTree_52 ?_
      refine gf_X8_57 (q := 56) C rfl dX8_ofTree_53 ?_
      refine gf_X8_122 (q := 59) C rfl dX8_ofTree_56 ?_
      refine V_iload_n_1 (q := 60) C rfl dX8_ofTree_59 ?_
      refine V_iald (q := 61) C _ rfl (by show _ < 6; omega) rfl (by decide) (by decide) rfl dX8_ofTree_60 ?_
      refine V_iret C hR dX8_ofTree_61 ?_
      first
      | (subst c14; exact ⟨rfl, rfl⟩)
      | (subst c14; exact ⟨by rw [sel6_5, pI_t c14], rfl⟩)
      | (subst c14; exact ⟨by rw [sel6_5, pI_f c14], rfl⟩)
      | exact ⟨by rw [sel6_d c14], rfl⟩
    · show V X 62 _ _ _
      refine V_aload_n_0 (q := 63) C rfl dX8_ofTree_62 ?_
      refine gf_X8_57 (q := 66) C rfl dX8_ofTree_63 ?_
      refine gf_X8_126 (q := 69) C rfl dX8_ofTree_66 ?_
      refine V_iload_n_1 (q := 70) C rfl dX8_ofTree_69 ?_
      refine V_iald (q := 71) C _ rfl (by show _ < 6; omega) rfl (by decide) (by decide) rfl dX8_ofTree_70 ?_
      refine V_iret C hR dX8_ofTree_71 ?_
      first
      | (subst c14; exact ⟨rfl, rfl⟩)
      | (subst c14; exact ⟨by rw [sel6_5, pI_t c14], rfl⟩)
      | (subst c14; exact ⟨by rw [sel6_5, pI_f c14], rfl⟩)
      | exact ⟨by rw [sel6_d c14], rfl⟩
    · show V X 72 _ _ _
      refine V_aload_n_0 (q := 73) C rfl dX8_ofTree_72 ?_
      refine gf_X8_57 (q := 76) C rfl dX8_ofTree_73 ?_
      refine gf_X8_129 (q := 79) C rfl dX8_ofTree_76 ?_
      refine V_iload_n_1 (q := 80) C rfl dX8_ofTree_79 ?_
      refine V_iald (q := 81) C _ rfl (by show _ < 6; omega) rfl (by decide) (by decide) rfl dX8_ofTree_80 ?_
      refine V_iret C hR dX8_ofTree_81 ?_
      first
      | (subst c14; exact ⟨rfl, rfl⟩)
      | (subst c14; exact ⟨by rw [sel6_5, pI_t c14], rfl⟩)
      | (subst c14; exact ⟨by rw [sel6_5, pI_f c14], rfl⟩)
      | exact ⟨by rw [sel6_d c14], rfl⟩
    · show V X 82 _ _ _
      refine V_aload_n_0 (q := 83) C rfl dX8_ofTree_82 ?_
      refine gf_X8_57 (q := 86) C rfl dX8_ofTree_83 ?_
      refine gf_X8_132 (q := 89) C rfl dX8_ofTree_86 ?_
      refine V_iload_n_1 (q := 90) C rfl dX8_ofTree_89 ?_
      refine V_iald (q := 91) C _ rfl (by show _ < 6; omega) rfl (by decide) (by decide) rfl dX8_ofTree_90 ?_
      refine V_iret C hR dX8_ofTree_91 ?_
      first
      | (subst c14; exact ⟨rfl, rfl⟩)
      | (subst c14; exact ⟨by rw [sel6_5, pI_t c14], rfl⟩)
      | (subst c14; exact ⟨by rw [sel6_5, pI_f c14], rfl⟩)
      | exact ⟨by rw [sel6_d c14], rfl⟩
    · show V X 92 _ _ _
      refine V_aload_n_0 (q := 93) C rfl dX8_ofTree_92 ?_
      refine gf_X8_57 (q := 96) C rfl dX8_ofTree_93 ?_
      refine V_iload_n_1 (q := 97) C rfl dX8_ofTree_96 ?_
      refine V_cV1r (q := 100) C (c_X1_locksOpenedBy σ j (by omega)) cw_X1_locksOpenedBy cv_X1_locksOpenedBy wm_X8_135 (by decide) ob_X1 ⟨by decide, by decide⟩ (Nat.le_of_ble_eq_true rfl) rfl dX8_ofTree_97 ?_
      refine V_iret C hR dX8_ofTree_100 ?_
      first
      | (subst c14; exact ⟨rfl, rfl⟩)
      | (subst c14; exact ⟨by rw [sel6_5, pI_t c14], rfl⟩)
      | (subst c14; exact ⟨by rw [sel6_5, pI_f c14], rfl⟩)
      | exact ⟨by rw [sel6_d c14], rfl⟩
    · show V X 101 _ _ _
      refine V_aload_n_0 (q := 102) C rfl dX8_ofTree_101 ?_
      refine gf_X8_57 (q := 105) C rfl dX8_ofTree_102 ?_
      refine gf_X8_138 (q := 108) C rfl dX8_ofTree_105 ?_
      refine V_iload_n_1 (q := 109) C rfl dX8_ofTree_108 ?_
      refine V_cS2r (q := 112) C (c_X8_isIn σ (σ 12 2) (nI j)) cw_X8_isIn cs_X8_isIn wm_X8_141 ⟨by decide, by decide⟩ (Nat.le_of_ble_eq_true rfl) rfl dX8_ofTree_109 ?_
      refine V_ifp_eq (tgt := 119) C rfl (by decide) dX8_ofTree_112 (fun c112 => ?_) (fun c112 => ?_)
      · refine V_iconst (q := 120) (v := 0) C rfl rfl dX8_ofTree_119 ?_
        refine V_iret C hR dX8_ofTree_120 ?_
        first
        | (subst c14; exact ⟨rfl, rfl⟩)
        | (subst c14; exact ⟨by rw [sel6_5, pI_t c112], rfl⟩)
        | (subst c14; exact ⟨by rw [sel6_5, pI_f c112], rfl⟩)
        | exact ⟨by rw [sel6_d c14], rfl⟩
      · refine V_iconst (q := 116) (v := 1) C rfl rfl dX8_ofTree_115 ?_
        refine V_goto (tgt := 120) C (by decide) dX8_ofTree_116 ?_
        refine V_iret C hR dX8_ofTree_120 ?_
        first
        | (subst c14; exact ⟨rfl, rfl⟩)
        | (subst c14; exact ⟨by rw [sel6_5, pI_t c112], rfl⟩)
        | (subst c14; exact ⟨by rw [sel6_5, pI_f c112], rfl⟩)
        | exact ⟨by rw [sel6_d c14], rfl⟩
  · refine V_bipush (q := 123) (v := (-2)) C (by decide) rfl dX8_ofTree_121 ?_
    refine V_iret C hR dX8_ofTree_123 ?_
    first
    | (subst c14; exact ⟨rfl, rfl⟩)
    | (subst c14; exact ⟨by rw [sel6_5, pI_t c14], rfl⟩)
    | (subst c14; exact ⟨by rw [sel6_5, pI_f c14], rfl⟩)
    | exact ⟨by rw [sel6_d c14], rfl⟩

set_option maxHeartbeats 4000000 in
set_option maxRecDepth 100000 in
theorem c_X8_ofPrisoner_u {l : Launch} {D : DD} {ad : Nat → Nat} (σ : ST) (P : Nat) (p w : Int32) (hP : σ 12 1 = nI P) (h : ¬ isT (nI P) p) : Ct l yX8_ofPrisoner cX8_ofPrisoner 3 (Option.some FieldType.int) 1 21 D ad [.ref (ad 0), .int p, .int w] σ (ex (some (.int (-1))) σ) := by
  refine Ct.of2 [.ref (ad 0), .int p, .int w] rfl (Nat.le_of_ble_eq_true rfl) rfl ?_
  rintro X C rfl rfl rfl hxn hR
  refine V_aload_n_0 (q := 1) C rfl dX8_ofPrisoner_0 ?_
  refine gf_X8_57 (q := 4) C rfl dX8_ofPrisoner_1 ?_
  refine V_iload_n_1 (q := 5) C rfl dX8_ofPrisoner_4 ?_
  refine V_cV1r (q := 8) C (Ct.mono (v' := some (.int (pI (isT (nI P) p)))) (c_X1_hasPrisoner σ p) (by rw [show σ 12 1 = nI P from hP]) rfl) cw_X1_hasPrisoner cv_X1_hasPrisoner wm_X8_144 (by decide) ob_X1 ⟨by decide, by decide⟩ (Nat.le_of_ble_eq_true rfl) rfl dX8_ofPrisoner_5 ?_
  refine V_ifp_ne_f (tgt := 13) C h rfl (by decide) dX8_ofPrisoner_8 ?_
  refine V_iconst (q := 12) (v := (-1)) C rfl rfl dX8_ofPrisoner_11 ?_
  refine V_iret C hR dX8_ofPrisoner_12 ?_
  exact ⟨rfl, rfl⟩

set_option maxHeartbeats 4000000 in
set_option maxRecDepth 100000 in
theorem c_X8_ofPrisoner_v {l : Launch} {D : DD} {ad : Nat → Nat} (σ : ST) (P j : Nat) (w : Int32) (hP : σ 12 1 = nI P) (hP6 : P ≤ 6) (hj : j < P) : Ct l yX8_ofPrisoner cX8_ofPrisoner 3 (Option.some FieldType.int) 1 21 D ad [.ref (ad 0), .int (nI j), .int w] σ (ex (some (.int (sel2 w (σ 18 j) (σ 19 j)))) σ) := by
  refine Ct.of2 [.ref (ad 0), .int (nI j), .int w] rfl (Nat.le_of_ble_eq_true rfl) rfl ?_
  rintro X C rfl rfl rfl hxn hR
  refine V_aload_n_0 (q := 1) C rfl dX8_ofPrisoner_0 ?_
  refine gf_X8_57 (q := 4) C rfl dX8_ofPrisoner_1 ?_
  refine V_iload_n_1 (q := 5) C rfl dX8_ofPrisoner_4 ?_
  refine V_cV1r (q := 8) C (Ct.mono (v' := some (.int (pI (isT (nI P) (nI j))))) (c_X1_hasPrisoner σ (nI j)) (by rw [show σ 12 1 = nI P from hP]) rfl) cw_X1_hasPrisoner cv_X1_hasPrisoner wm_X8_144 (by decide) ob_X1 ⟨by decide, by decide⟩ (Nat.le_of_ble_eq_true rfl) rfl dX8_ofPrisoner_5 ?_
  refine V_ifp_ne_t (tgt := 13) C (isT_nI hj (by omega)) (by decide) dX8_ofPrisoner_8 ?_
  refine V_iload_n_2 (q := 14) C rfl dX8_ofPrisoner_13 ?_
  refine V_look2 (va := 0) (vb := 1) (ta := 40) (tb := 50) (td := 60) C rfl rfl (by decide) (by decide) (by decide) (by decide) dX8_ofPrisoner_14 (fun c14 => ?_) (fun c14 => ?_) (fun c14 c15 => ?_)
  · refine V_aload_n_0 (q := 41) C rfl dX8_ofPrisoner_40 ?_
    refine gf_X8_57 (q := 44) C rfl dX8_ofPrisoner_41 ?_
    refine gf_X8_147 (q := 47) C rfl dX8_ofPrisoner_44 ?_
    refine V_iload_n_1 (q := 48) C rfl dX8_ofPrisoner_47 ?_
    refine V_iald (q := 49) C _ rfl (by show _ < 6; omega) rfl (by decide) (by decide) rfl dX8_ofPrisoner_48 ?_
    refine V_iret C hR dX8_ofPrisoner_49 ?_
    exact ⟨by simp [sel2, c14], rfl⟩
  · refine V_aload_n_0 (q := 51) C rfl dX8_ofPrisoner_50 ?_
    refine gf_X8_57 (q := 54) C rfl dX8_ofPrisoner_51 ?_
    refine gf_X8_150 (q := 57) C rfl dX8_ofPrisoner_54 ?_
    refine V_iload_n_1 (q := 58) C rfl dX8_ofPrisoner_57 ?_
    refine V_iald (q := 59) C _ rfl (by show _ < 6; omega) rfl (by decide) (by decide) rfl dX8_ofPrisoner_58 ?_
    refine V_iret C hR dX8_ofPrisoner_59 ?_
    exact ⟨by simp [sel2, c14], rfl⟩
  · refine V_bipush (q := 62) (v := (-2)) C (by decide) rfl dX8_ofPrisoner_60 ?_
    refine V_iret C hR dX8_ofPrisoner_62 ?_
    exact ⟨by simp [sel2, c14, c15], rfl⟩

set_option maxHeartbeats 4000000 in
set_option maxRecDepth 100000 in
theorem c_X8_rain_u {l : Launch} {D : DD} {ad : Nat → Nat} (σ : ST) (d v : Int32) (h : ¬ isT 30 d) : Ct l yX8_rain cX8_rain 4 (Option.some FieldType.int) 1 20 D ad [.ref (ad 0), .int d, .int v] σ (ex (some (.int (-1))) σ) := by
  refine Ct.of2 [.ref (ad 0), .int d, .int v, .float 0] rfl (Nat.le_of_ble_eq_true rfl) rfl ?_
  rintro X C rfl rfl rfl hxn hR
  refine V_iload_n_1 (q := 1) C rfl dX8_rain_0 ?_
  refine V_cS1r (q := 4) C (c_X8_isDay _ _) cw_X8_isDay cs_X8_isDay wm_X8_153 ⟨by decide, by decide⟩ (Nat.le_of_ble_eq_true rfl) rfl dX8_rain_1 ?_
  refine V_ifp_ne_f (tgt := 9) C h rfl (by decide) dX8_rain_4 ?_
  refine V_iconst (q := 8) (v := (-1)) C rfl rfl dX8_rain_7 ?_
  refine V_iret C hR dX8_rain_8 ?_
  exact ⟨rfl, rfl⟩

set_option maxHeartbeats 4000000 in
set_option maxRecDepth 100000 in
theorem c_X8_rain_o {l : Launch} {D : DD} {ad : Nat → Nat} (σ : ST) (d : Nat) (v : Int32) (hd : d < 30) (h : v < 0 ∨ 9 < v) : Ct l yX8_rain cX8_rain 4 (Option.some FieldType.int) 1 20 D ad [.ref (ad 0), .int (nI d), .int v] σ (ex (some (.int (-2))) σ) := by
  refine Ct.of2 [.ref (ad 0), .int (nI d), .int v, .float 0] rfl (Nat.le_of_ble_eq_true rfl) rfl ?_
  rintro X C rfl rfl rfl hxn hR
  refine V_iload_n_1 (q := 1) C rfl dX8_rain_0 ?_
  refine V_cS1r (q := 4) C (c_X8_isDay _ _) cw_X8_isDay cs_X8_isDay wm_X8_153 ⟨by decide, by decide⟩ (Nat.le_of_ble_eq_true rfl) rfl dX8_rain_1 ?_
  refine V_ifp_ne_t (tgt := 9) C (isT_nI (N := 30) hd (by decide)) (by decide) dX8_rain_4 ?_
  refine V_iload_n_2 (q := 10) C rfl dX8_rain_9 ?_
  refine V_if_lt (tgt := 19) C rfl (by decide) dX8_rain_10 (fun c10 => ?_) (fun c10 => ?_)
  · refine V_bipush (q := 21) (v := (-2)) C (by decide) rfl dX8_rain_19 ?_
    refine V_iret C hR dX8_rain_21 ?_
    exact ⟨rfl, rfl⟩
  · refine V_iload_n_2 (q := 14) C rfl dX8_rain_13 ?_
    refine V_bipush (q := 16) (v := 9) C (by decide) rfl dX8_rain_14 ?_
    refine V_icmp_le (tgt := 22) C rfl (by decide) dX8_rain_16 (fun c16 => ?_) (fun c16 => ?_)
    · exact absurd h (fun q => q.elim c10 (Int32.not_lt.mpr c16))
    · refine V_bipush (q := 21) (v := (-2)) C (by decide) rfl dX8_rain_19 ?_
      refine V_iret C hR dX8_rain_21 ?_
      exact ⟨rfl, rfl⟩

set_option maxHeartbeats 4000000 in
set_option maxRecDepth 100000 in
theorem c_X8_rain_s {l : Launch} {D : DD} {ad : Nat → Nat} (σ : ST) (d T : Nat) (v : Int32) (hd : d < 30) (h : ¬ (v < 0 ∨ 9 < v)) (hT : σ 12 0 = nI T) (h0 : T = 0) : Ct l yX8_rain cX8_rain 4 (Option.some FieldType.int) 1 20 D ad [.ref (ad 0), .int (nI d), .int v] σ (ex (some (.int (-3))) σ) := by
  refine Ct.of2 [.ref (ad 0), .int (nI d), .int v, .float 0] rfl (Nat.le_of_ble_eq_true rfl) rfl ?_
  rintro X C rfl rfl rfl hxn hR
  refine V_iload_n_1 (q := 1) C rfl dX8_rain_0 ?_
  refine V_cS1r (q := 4) C (c_X8_isDay _ _) cw_X8_isDay cs_X8_isDay wm_X8_153 ⟨by decide, by decide⟩ (Nat.le_of_ble_eq_true rfl) rfl dX8_rain_1 ?_
  refine V_ifp_ne_t (tgt := 9) C (isT_nI (N := 30) hd (by decide)) (by decide) dX8_rain_4 ?_
  refine V_iload_n_2 (q := 10) C rfl dX8_rain_9 ?_
  refine V_if_lt_f (tgt := 19) C (fun q => h (Or.inl q)) rfl (by decide) dX8_rain_10 ?_
  refine V_iload_n_2 (q := 14) C rfl dX8_rain_13 ?_
  refine V_bipush (q := 16) (v := 9) C (by decide) rfl dX8_rain_14 ?_
  refine V_icmp_le_t (tgt := 22) C (Int32.not_lt.mp (fun q => h (Or.inr q))) (by decide) dX8_rain_16 ?_
  refine V_aload_n_0 (q := 23) C rfl dX8_rain_22 ?_
  refine gf_X8_57 (q := 26) C rfl dX8_rain_23 ?_
  refine V_cV0r (q := 29) C (Ct.mono (v' := some (.int (pI (0 < nI T)))) (c_X1_isPlanted σ) (by rw [show σ 12 0 = nI T from hT]) rfl) cw_X1_isPlanted cv_X1_isPlanted wm_X8_156 (by decide) ob_X1 ⟨by decide, by decide⟩ (Nat.le_of_ble_eq_true rfl) rfl dX8_rain_26 ?_
  refine V_ifp_ne_f (tgt := 35) C (pl0_no h0) rfl (by decide) dX8_rain_29 ?_
  refine V_bipush (q := 34) (v := (-3)) C (by decide) rfl dX8_rain_32 ?_
  refine V_iret C hR dX8_rain_34 ?_
  exact ⟨rfl, rfl⟩

set_option maxHeartbeats 4000000 in
set_option maxRecDepth 100000 in
theorem c_X8_rain_v {l : Launch} {D : DD} {ad : Nat → Nat} (σ : ST) (d T : Nat) (v : Int32) (hd : d < 30) (h : ¬ (v < 0 ∨ 9 < v)) (hT : σ 12 0 = nI T) (hT6 : T ≤ 6) (h0 : 0 < T) : Ct l yX8_rain cX8_rain 4 (Option.some FieldType.int) 1 20 D ad [.ref (ad 0), .int (nI d), .int v] σ (ex (some (.int (σ 22 d))) (setf σ 22 d v)) := by
  refine Ct.of2 [.ref (ad 0), .int (nI d), .int v, .float 0] rfl (Nat.le_of_ble_eq_true rfl) rfl ?_
  rintro X C rfl rfl rfl hxn hR
  have hn3 : 3 < xn X := by rw [← hxn]; decide
  refine V_iload_n_1 (q := 1) C rfl dX8_rain_0 ?_
  refine V_cS1r (q := 4) C (c_X8_isDay _ _) cw_X8_isDay cs_X8_isDay wm_X8_153 ⟨by decide, by decide⟩ (Nat.le_of_ble_eq_true rfl) rfl dX8_rain_1 ?_
  refine V_ifp_ne_t (tgt := 9) C (isT_nI (N := 30) hd (by decide)) (by decide) dX8_rain_4 ?_
  refine V_iload_n_2 (q := 10) C rfl dX8_rain_9 ?_
  refine V_if_lt_f (tgt := 19) C (fun q => h (Or.inl q)) rfl (by decide) dX8_rain_10 ?_
  refine V_iload_n_2 (q := 14) C rfl dX8_rain_13 ?_
  refine V_bipush (q := 16) (v := 9) C (by decide) rfl dX8_rain_14 ?_
  refine V_icmp_le_t (tgt := 22) C (Int32.not_lt.mp (fun q => h (Or.inr q))) (by decide) dX8_rain_16 ?_
  refine V_aload_n_0 (q := 23) C rfl dX8_rain_22 ?_
  refine gf_X8_57 (q := 26) C rfl dX8_rain_23 ?_
  refine V_cV0r (q := 29) C (Ct.mono (v' := some (.int (pI (0 < nI T)))) (c_X1_isPlanted σ) (by rw [show σ 12 0 = nI T from hT]) rfl) cw_X1_isPlanted cv_X1_isPlanted wm_X8_156 (by decide) ob_X1 ⟨by decide, by decide⟩ (Nat.le_of_ble_eq_true rfl) rfl dX8_rain_26 ?_
  refine V_ifp_ne_t (tgt := 35) C (pl0_of h0 hT6) (by decide) dX8_rain_29 ?_
  refine V_aload_n_0 (q := 36) C rfl dX8_rain_35 ?_
  refine gf_X8_27 (q := 39) C rfl dX8_rain_36 ?_
  refine gf_X8_160 (q := 42) C rfl dX8_rain_39 ?_
  refine V_iload_n_1 (q := 43) C rfl dX8_rain_42 ?_
  refine V_iald (q := 44) C _ rfl (by show _ < 30; omega) rfl (by decide) (by decide) rfl dX8_rain_43 ?_
  refine V_istore_n_3 (q := 45) C hn3 rfl rfl dX8_rain_44 ?_
  refine V_aload_n_0 (q := 46) C rfl dX8_rain_45 ?_
  refine gf_X8_27 (q := 49) C rfl dX8_rain_46 ?_
  refine gf_X8_160 (q := 52) C rfl dX8_rain_49 ?_
  refine V_iload_n_1 (q := 53) C rfl dX8_rain_52 ?_
  refine V_iload_n_2 (q := 54) C rfl dX8_rain_53 ?_
  refine V_iast (q := 55) C _ rfl (by show _ < 30; omega) rfl (by decide) (by decide) rfl dX8_rain_54 ?_
  refine V_iload_n_3 (q := 56) C rfl dX8_rain_55 ?_
  refine V_iret C hR dX8_rain_56 ?_
  exact ⟨rfl, rfl⟩

set_option maxHeartbeats 4000000 in
set_option maxRecDepth 100000 in
theorem c_X8_water_u {l : Launch} {D : DD} {ad : Nat → Nat} (σ : ST) (T : Nat) (d t : Int32) (hT : σ 12 0 = nI T) (h : ¬ (isT 30 d ∧ (t = -9 ∨ isT (nI T) t))) : Ct l yX8_water cX8_water 4 (Option.some FieldType.int) 1 21 D ad [.ref (ad 0), .int d, .int t] σ (ex (some (.int (-1))) σ) := by
  refine Ct.of2 [.ref (ad 0), .int d, .int t, .float 0] rfl (Nat.le_of_ble_eq_true rfl) rfl ?_
  rintro X C rfl rfl rfl hxn hR
  refine V_iload_n_1 (q := 1) C rfl dX8_water_0 ?_
  refine V_cS1r (q := 4) C (c_X8_isDay _ _) cw_X8_isDay cs_X8_isDay wm_X8_153 ⟨by decide, by decide⟩ (Nat.le_of_ble_eq_true rfl) rfl dX8_water_1 ?_
  refine V_ifp_eq (tgt := 24) C rfl (by decide) dX8_water_4 (fun c4 => ?_) (fun c4 => ?_)
  · refine V_iconst (q := 25) (v := (-1)) C rfl rfl dX8_water_24 ?_
    refine V_iret C hR dX8_water_25 ?_
    exact ⟨rfl, rfl⟩
  · refine V_iload_n_2 (q := 8) C rfl dX8_water_7 ?_
    refine V_bipush (q := 10) (v := (-9)) C (by decide) rfl dX8_water_8 ?_
    refine V_icmp_eq (tgt := 26) C rfl (by decide) dX8_water_10 (fun c10 => ?_) (fun c10 => ?_)
    · exact absurd ⟨c4, Or.inl c10⟩ h
    · refine V_aload_n_0 (q := 14) C rfl dX8_water_13 ?_
      refine gf_X8_57 (q := 17) C rfl dX8_water_14 ?_
      refine V_iload_n_2 (q := 18) C rfl dX8_water_17 ?_
      refine V_cV1r (q := 21) C (Ct.mono (v' := some (.int (pI (isT (nI T) t)))) (c_X1_hasTree σ t) (by rw [show σ 12 0 = nI T from hT]) rfl) cw_X1_hasTree cv_X1_hasTree wm_X8_119 (by decide) ob_X1 ⟨by decide, by decide⟩ (Nat.le_of_ble_eq_true rfl) rfl dX8_water_18 ?_
      refine V_ifp_ne (tgt := 26) C rfl (by decide) dX8_water_21 (fun c21 => ?_) (fun c21 => ?_)
      · exact absurd ⟨c4, Or.inr c21⟩ h
      · refine V_iconst (q := 25) (v := (-1)) C rfl rfl dX8_water_24 ?_
        refine V_iret C hR dX8_water_25 ?_
        exact ⟨rfl, rfl⟩

set_option maxHeartbeats 4000000 in
set_option maxRecDepth 100000 in
theorem c_X8_water_s {l : Launch} {D : DD} {ad : Nat → Nat} (σ : ST) (T d : Nat) (hd : d < 30) (hT : σ 12 0 = nI T) (h0 : T = 0) : Ct l yX8_water cX8_water 4 (Option.some FieldType.int) 1 21 D ad [.ref (ad 0), .int (nI d), .int (-9)] σ (ex (some (.int (-3))) σ) := by
  refine Ct.of2 [.ref (ad 0), .int (nI d), .int (-9), .float 0] rfl (Nat.le_of_ble_eq_true rfl) rfl ?_
  rintro X C rfl rfl rfl hxn hR
  refine V_iload_n_1 (q := 1) C rfl dX8_water_0 ?_
  refine V_cS1r (q := 4) C (c_X8_isDay _ _) cw_X8_isDay cs_X8_isDay wm_X8_153 ⟨by decide, by decide⟩ (Nat.le_of_ble_eq_true rfl) rfl dX8_water_1 ?_
  refine V_ifp_eq_f (tgt := 24) C (isT_nI (N := 30) hd (by decide)) rfl (by decide) dX8_water_4 ?_
  refine V_iload_n_2 (q := 8) C rfl dX8_water_7 ?_
  refine V_bipush (q := 10) (v := (-9)) C (by decide) rfl dX8_water_8 ?_
  refine V_icmp_eq_t (tgt := 26) C rfl (by decide) dX8_water_10 ?_
  refine V_aload_n_0 (q := 27) C rfl dX8_water_26 ?_
  refine gf_X8_57 (q := 30) C rfl dX8_water_27 ?_
  refine V_cV0r (q := 33) C (Ct.mono (v' := some (.int (pI (0 < nI T)))) (c_X1_isPlanted σ) (by rw [show σ 12 0 = nI T from hT]) rfl) cw_X1_isPlanted cv_X1_isPlanted wm_X8_156 (by decide) ob_X1 ⟨by decide, by decide⟩ (Nat.le_of_ble_eq_true rfl) rfl dX8_water_30 ?_
  refine V_ifp_ne_f (tgt := 39) C (pl0_no h0) rfl (by decide) dX8_water_33 ?_
  refine V_bipush (q := 38) (v := (-3)) C (by decide) rfl dX8_water_36 ?_
  refine V_iret C hR dX8_water_38 ?_
  exact ⟨rfl, rfl⟩

set_option maxHeartbeats 4000000 in
set_option maxRecDepth 100000 in
theorem c_X8_water_v {l : Launch} {D : DD} {ad : Nat → Nat} (σ : ST) (T d : Nat) (t : Int32) (hd : d < 30) (hT : σ 12 0 = nI T) (hT6 : T ≤ 6) (h0 : 0 < T) (ht : t = -9 ∨ isT (nI T) t) : Ct l yX8_water cX8_water 4 (Option.some FieldType.int) 1 21 D ad [.ref (ad 0), .int (nI d), .int t] σ (ex (some (.int (σ 23 d))) (setf σ 23 d t)) := by
  refine Ct.of2 [.ref (ad 0), .int (nI d), .int t, .float 0] rfl (Nat.le_of_ble_eq_true rfl) rfl ?_
  rintro X C rfl rfl rfl hxn hR
  have hn3 : 3 < xn X := by rw [← hxn]; decide
  refine V_iload_n_1 (q := 1) C rfl dX8_water_0 ?_
  refine V_cS1r (q := 4) C (c_X8_isDay _ _) cw_X8_isDay cs_X8_isDay wm_X8_153 ⟨by decide, by decide⟩ (Nat.le_of_ble_eq_true rfl) rfl dX8_water_1 ?_
  refine V_ifp_eq_f (tgt := 24) C (isT_nI (N := 30) hd (by decide)) rfl (by decide) dX8_water_4 ?_
  refine V_iload_n_2 (q := 8) C rfl dX8_water_7 ?_
  refine V_bipush (q := 10) (v := (-9)) C (by decide) rfl dX8_water_8 ?_
  refine V_icmp_eq (tgt := 26) C rfl (by decide) dX8_water_10 (fun c10 => ?_) (fun c10 => ?_)
  · refine V_aload_n_0 (q := 27) C rfl dX8_water_26 ?_
    refine gf_X8_57 (q := 30) C rfl dX8_water_27 ?_
    refine V_cV0r (q := 33) C (Ct.mono (v' := some (.int (pI (0 < nI T)))) (c_X1_isPlanted σ) (by rw [show σ 12 0 = nI T from hT]) rfl) cw_X1_isPlanted cv_X1_isPlanted wm_X8_156 (by decide) ob_X1 ⟨by decide, by decide⟩ (Nat.le_of_ble_eq_true rfl) rfl dX8_water_30 ?_
    refine V_ifp_ne_t (tgt := 39) C (pl0_of h0 hT6) (by decide) dX8_water_33 ?_
    refine V_aload_n_0 (q := 40) C rfl dX8_water_39 ?_
    refine gf_X8_27 (q := 43) C rfl dX8_water_40 ?_
    refine gf_X8_163 (q := 46) C rfl dX8_water_43 ?_
    refine V_iload_n_1 (q := 47) C rfl dX8_water_46 ?_
    refine V_iald (q := 48) C _ rfl (by show _ < 30; omega) rfl (by decide) (by decide) rfl dX8_water_47 ?_
    refine V_istore_n_3 (q := 49) C hn3 rfl rfl dX8_water_48 ?_
    refine V_aload_n_0 (q := 50) C rfl dX8_water_49 ?_
    refine gf_X8_27 (q := 53) C rfl dX8_water_50 ?_
    refine gf_X8_163 (q := 56) C rfl dX8_water_53 ?_
    refine V_iload_n_1 (q := 57) C rfl dX8_water_56 ?_
    refine V_iload_n_2 (q := 58) C rfl dX8_water_57 ?_
    refine V_iast (q := 59) C _ rfl (by show _ < 30; omega) rfl (by decide) (by decide) rfl dX8_water_58 ?_
    refine V_iload_n_3 (q := 60) C rfl dX8_water_59 ?_
    refine V_iret C hR dX8_water_60 ?_
    exact ⟨rfl, rfl⟩
  · refine V_aload_n_0 (q := 14) C rfl dX8_water_13 ?_
    refine gf_X8_57 (q := 17) C rfl dX8_water_14 ?_
    refine V_iload_n_2 (q := 18) C rfl dX8_water_17 ?_
    refine V_cV1r (q := 21) C (Ct.mono (v' := some (.int (pI (isT (nI T) t)))) (c_X1_hasTree σ t) (by rw [show σ 12 0 = nI T from hT]) rfl) cw_X1_hasTree cv_X1_hasTree wm_X8_119 (by decide) ob_X1 ⟨by decide, by decide⟩ (Nat.le_of_ble_eq_true rfl) rfl dX8_water_18 ?_
    refine V_ifp_ne_t (tgt := 26) C (ht.elim (fun q => absurd q c10) id) (by decide) dX8_water_21 ?_
    refine V_aload_n_0 (q := 27) C rfl dX8_water_26 ?_
    refine gf_X8_57 (q := 30) C rfl dX8_water_27 ?_
    refine V_cV0r (q := 33) C (Ct.mono (v' := some (.int (pI (0 < nI T)))) (c_X1_isPlanted σ) (by rw [show σ 12 0 = nI T from hT]) rfl) cw_X1_isPlanted cv_X1_isPlanted wm_X8_156 (by decide) ob_X1 ⟨by decide, by decide⟩ (Nat.le_of_ble_eq_true rfl) rfl dX8_water_30 ?_
    refine V_ifp_ne_t (tgt := 39) C (pl0_of h0 hT6) (by decide) dX8_water_33 ?_
    refine V_aload_n_0 (q := 40) C rfl dX8_water_39 ?_
    refine gf_X8_27 (q := 43) C rfl dX8_water_40 ?_
    refine gf_X8_163 (q := 46) C rfl dX8_water_43 ?_
    refine V_iload_n_1 (q := 47) C rfl dX8_water_46 ?_
    refine V_iald (q := 48) C _ rfl (by show _ < 30; omega) rfl (by decide) (by decide) rfl dX8_water_47 ?_
    refine V_istore_n_3 (q := 49) C hn3 rfl rfl dX8_water_48 ?_
    refine V_aload_n_0 (q := 50) C rfl dX8_water_49 ?_
    refine gf_X8_27 (q := 53) C rfl dX8_water_50 ?_
    refine gf_X8_163 (q := 56) C rfl dX8_water_53 ?_
    refine V_iload_n_1 (q := 57) C rfl dX8_water_56 ?_
    refine V_iload_n_2 (q := 58) C rfl dX8_water_57 ?_
    refine V_iast (q := 59) C _ rfl (by show _ < 30; omega) rfl (by decide) (by decide) rfl dX8_water_58 ?_
    refine V_iload_n_3 (q := 60) C rfl dX8_water_59 ?_
    refine V_iret C hR dX8_water_60 ?_
    exact ⟨rfl, rfl⟩

set_option maxHeartbeats 4000000 in
set_option maxRecDepth 100000 in
theorem c_X8_frost_u {l : Launch} {D : DD} {ad : Nat → Nat} (σ : ST) (d b : Int32) (h : ¬ isT 30 d) : Ct l yX8_frost cX8_frost 3 (Option.some FieldType.int) 1 21 D ad [.ref (ad 0), .int d, .int b] σ (ex (some (.int (-1))) σ) := by
  refine Ct.of2 [.ref (ad 0), .int d, .int b] rfl (Nat.le_of_ble_eq_true rfl) rfl ?_
  rintro X C rfl rfl rfl hxn hR
  refine V_iload_n_1 (q := 1) C rfl dX8_frost_0 ?_
  refine V_cS1r (q := 4) C (c_X8_isDay _ _) cw_X8_isDay cs_X8_isDay wm_X8_153 ⟨by decide, by decide⟩ (Nat.le_of_ble_eq_true rfl) rfl dX8_frost_1 ?_
  refine V_ifp_ne_f (tgt := 9) C h rfl (by decide) dX8_frost_4 ?_
  refine V_iconst (q := 8) (v := (-1)) C rfl rfl dX8_frost_7 ?_
  refine V_iret C hR dX8_frost_8 ?_
  exact ⟨rfl, rfl⟩

set_option maxHeartbeats 4000000 in
set_option maxRecDepth 100000 in
theorem c_X8_frost_s {l : Launch} {D : DD} {ad : Nat → Nat} (σ : ST) (d T : Nat) (b : Int32) (hd : d < 30) (hT : σ 12 0 = nI T) (h0 : T = 0) : Ct l yX8_frost cX8_frost 3 (Option.some FieldType.int) 1 21 D ad [.ref (ad 0), .int (nI d), .int b] σ (ex (some (.int (-3))) σ) := by
  refine Ct.of2 [.ref (ad 0), .int (nI d), .int b] rfl (Nat.le_of_ble_eq_true rfl) rfl ?_
  rintro X C rfl rfl rfl hxn hR
  refine V_iload_n_1 (q := 1) C rfl dX8_frost_0 ?_
  refine V_cS1r (q := 4) C (c_X8_isDay _ _) cw_X8_isDay cs_X8_isDay wm_X8_153 ⟨by decide, by decide⟩ (Nat.le_of_ble_eq_true rfl) rfl dX8_frost_1 ?_
  refine V_ifp_ne_t (tgt := 9) C (isT_nI (N := 30) hd (by decide)) (by decide) dX8_frost_4 ?_
  refine V_aload_n_0 (q := 10) C rfl dX8_frost_9 ?_
  refine gf_X8_57 (q := 13) C rfl dX8_frost_10 ?_
  refine V_cV0r (q := 16) C (Ct.mono (v' := some (.int (pI (0 < nI T)))) (c_X1_isPlanted σ) (by rw [show σ 12 0 = nI T from hT]) rfl) cw_X1_isPlanted cv_X1_isPlanted wm_X8_156 (by decide) ob_X1 ⟨by decide, by decide⟩ (Nat.le_of_ble_eq_true rfl) rfl dX8_frost_13 ?_
  refine V_ifp_ne_f (tgt := 22) C (pl0_no h0) rfl (by decide) dX8_frost_16 ?_
  refine V_bipush (q := 21) (v := (-3)) C (by decide) rfl dX8_frost_19 ?_
  refine V_iret C hR dX8_frost_21 ?_
  exact ⟨rfl, rfl⟩

def frF (σ : ST) (d : Nat) (b : Int32) : Int32 × ST := if pI (bit (σ 21 4) (nI d)) = b then (0, σ) else (1, setf σ 21 4 (σ 21 4 ^^^ own1 (nI d)))

set_option maxHeartbeats 4000000 in
set_option maxRecDepth 100000 in
theorem c_X8_frost_v {l : Launch} {D : DD} {ad : Nat → Nat} (σ : ST) (d T : Nat) (b : Int32) (hd : d < 30) (hT : σ 12 0 = nI T) (hT6 : T ≤ 6) (h0 : 0 < T) : Ct l yX8_frost cX8_frost 3 (Option.some FieldType.int) 1 21 D ad [.ref (ad 0), .int (nI d), .int b] σ (ex (some (.int (frF σ d b).1)) (frF σ d b).2) := by
  refine Ct.of2 [.ref (ad 0), .int (nI d), .int b] rfl (Nat.le_of_ble_eq_true rfl) rfl ?_
  rintro X C rfl rfl rfl hxn hR
  refine V_iload_n_1 (q := 1) C rfl dX8_frost_0 ?_
  refine V_cS1r (q := 4) C (c_X8_isDay _ _) cw_X8_isDay cs_X8_isDay wm_X8_153 ⟨by decide, by decide⟩ (Nat.le_of_ble_eq_true rfl) rfl dX8_frost_1 ?_
  refine V_ifp_ne_t (tgt := 9) C (isT_nI (N := 30) hd (by decide)) (by decide) dX8_frost_4 ?_
  refine V_aload_n_0 (q := 10) C rfl dX8_frost_9 ?_
  refine gf_X8_57 (q := 13) C rfl dX8_frost_10 ?_
  refine V_cV0r (q := 16) C (Ct.mono (v' := some (.int (pI (0 < nI T)))) (c_X1_isPlanted σ) (by rw [show σ 12 0 = nI T from hT]) rfl) cw_X1_isPlanted cv_X1_isPlanted wm_X8_156 (by decide) ob_X1 ⟨by decide, by decide⟩ (Nat.le_of_ble_eq_true rfl) rfl dX8_frost_13 ?_
  refine V_ifp_ne_t (tgt := 22) C (pl0_of h0 hT6) (by decide) dX8_frost_16 ?_
  refine V_aload_n_0 (q := 23) C rfl dX8_frost_22 ?_
  refine gf_X8_27 (q := 26) C rfl dX8_frost_23 ?_
  refine gf_X8_166 (q := 29) C rfl dX8_frost_26 ?_
  refine V_iload_n_1 (q := 30) C rfl dX8_frost_29 ?_
  refine V_cS2r (q := 33) C (c_X8_isIn _ _ _) cw_X8_isIn cs_X8_isIn wm_X8_141 ⟨by decide, by decide⟩ (Nat.le_of_ble_eq_true rfl) rfl dX8_frost_30 ?_
  refine V_iload_n_2 (q := 34) C rfl dX8_frost_33 ?_
  refine V_icmp_ne (tgt := 39) C rfl (by decide) dX8_frost_34 (fun c34 => ?_) (fun c34 => ?_)
  · refine V_aload_n_0 (q := 40) C rfl dX8_frost_39 ?_
    refine gf_X8_27 (q := 43) C rfl dX8_frost_40 ?_
    refine V_dup (q := 44) C rfl rfl dX8_frost_43 ?_
    refine gf_X8_166 (q := 47) C rfl dX8_frost_44 ?_
    refine V_iconst (q := 48) (v := 1) C rfl rfl dX8_frost_47 ?_
    refine V_iload_n_1 (q := 49) C rfl dX8_frost_48 ?_
    refine V_ishl (q := 50) C rfl dX8_frost_49 ?_
    refine V_ixor (q := 51) C rfl dX8_frost_50 ?_
    refine pf_X8_166 (q := 54) C rfl dX8_frost_51 ?_
    refine V_iconst (q := 55) (v := 1) C rfl rfl dX8_frost_54 ?_
    refine V_iret C hR dX8_frost_55 ?_
    refine ⟨by unfold frF; rw [if_neg c34], ?_⟩
    unfold frF
    rw [if_neg c34]
    try rfl
  · refine V_iconst (q := 38) (v := 0) C rfl rfl dX8_frost_37 ?_
    refine V_iret C hR dX8_frost_38 ?_
    refine ⟨by unfold frF; rw [if_pos c34], ?_⟩
    unfold frF
    rw [if_pos c34]
    try rfl

set_option maxHeartbeats 4000000 in
set_option maxRecDepth 100000 in
theorem c_X8_crow_u {l : Launch} {D : DD} {ad : Nat → Nat} (σ : ST) (T : Nat) (d t : Int32) (hT : σ 12 0 = nI T) (h : ¬ (isT 30 d ∧ isT (nI T) t)) : Ct l yX8_crow cX8_crow 3 (Option.some FieldType.int) 1 22 D ad [.ref (ad 0), .int d, .int t] σ (ex (some (.int (-1))) σ) := by
  refine Ct.of2 [.ref (ad 0), .int d, .int t] rfl (Nat.le_of_ble_eq_true rfl) rfl ?_
  rintro X C rfl rfl rfl hxn hR
  refine V_iload_n_1 (q := 1) C rfl dX8_crow_0 ?_
  refine V_cS1r (q := 4) C (c_X8_isDay _ _) cw_X8_isDay cs_X8_isDay wm_X8_153 ⟨by decide, by decide⟩ (Nat.le_of_ble_eq_true rfl) rfl dX8_crow_1 ?_
  refine V_ifp_eq (tgt := 18) C rfl (by decide) dX8_crow_4 (fun c4 => ?_) (fun c4 => ?_)
  · refine V_iconst (q := 19) (v := (-1)) C rfl rfl dX8_crow_18 ?_
    refine V_iret C hR dX8_crow_19 ?_
    exact ⟨rfl, rfl⟩
  · refine V_aload_n_0 (q := 8) C rfl dX8_crow_7 ?_
    refine gf_X8_57 (q := 11) C rfl dX8_crow_8 ?_
    refine V_iload_n_2 (q := 12) C rfl dX8_crow_11 ?_
    refine V_cV1r (q := 15) C (Ct.mono (v' := some (.int (pI (isT (nI T) t)))) (c_X1_hasTree σ t) (by rw [show σ 12 0 = nI T from hT]) rfl) cw_X1_hasTree cv_X1_hasTree wm_X8_119 (by decide) ob_X1 ⟨by decide, by decide⟩ (Nat.le_of_ble_eq_true rfl) rfl dX8_crow_12 ?_
    refine V_ifp_ne (tgt := 20) C rfl (by decide) dX8_crow_15 (fun c15 => ?_) (fun c15 => ?_)
    · exact absurd ⟨c4, c15⟩ h
    · refine V_iconst (q := 19) (v := (-1)) C rfl rfl dX8_crow_18 ?_
      refine V_iret C hR dX8_crow_19 ?_
      exact ⟨rfl, rfl⟩

set_option maxHeartbeats 4000000 in
set_option maxRecDepth 100000 in
theorem c_X8_crow_f {l : Launch} {D : DD} {ad : Nat → Nat} (σ : ST) (T d j : Nat) (hd : d < 30) (hT : σ 12 0 = nI T) (hT6 : T ≤ 6) (hj : j < T) (hC : σ 21 5 = nI 6) : Ct l yX8_crow cX8_crow 3 (Option.some FieldType.int) 1 22 D ad [.ref (ad 0), .int (nI d), .int (nI j)] σ (ex (some (.int (-4))) σ) := by
  refine Ct.of2 [.ref (ad 0), .int (nI d), .int (nI j)] rfl (Nat.le_of_ble_eq_true rfl) rfl ?_
  rintro X C rfl rfl rfl hxn hR
  refine V_iload_n_1 (q := 1) C rfl dX8_crow_0 ?_
  refine V_cS1r (q := 4) C (c_X8_isDay _ _) cw_X8_isDay cs_X8_isDay wm_X8_153 ⟨by decide, by decide⟩ (Nat.le_of_ble_eq_true rfl) rfl dX8_crow_1 ?_
  refine V_ifp_eq_f (tgt := 18) C (isT_nI (N := 30) hd (by decide)) rfl (by decide) dX8_crow_4 ?_
  refine V_aload_n_0 (q := 8) C rfl dX8_crow_7 ?_
  refine gf_X8_57 (q := 11) C rfl dX8_crow_8 ?_
  refine V_iload_n_2 (q := 12) C rfl dX8_crow_11 ?_
  refine V_cV1r (q := 15) C (Ct.mono (v' := some (.int (pI (isT (nI T) (nI j))))) (c_X1_hasTree σ (nI j)) (by rw [show σ 12 0 = nI T from hT]) rfl) cw_X1_hasTree cv_X1_hasTree wm_X8_119 (by decide) ob_X1 ⟨by decide, by decide⟩ (Nat.le_of_ble_eq_true rfl) rfl dX8_crow_12 ?_
  refine V_ifp_ne_t (tgt := 20) C (isT_nI hj (by omega)) (by decide) dX8_crow_15 ?_
  refine V_aload_n_0 (q := 21) C rfl dX8_crow_20 ?_
  refine gf_X8_27 (q := 24) C rfl dX8_crow_21 ?_
  refine gf_X8_169 (q := 27) C rfl dX8_crow_24 ?_
  refine V_bipush (q := 29) (v := 6) C (by decide) rfl dX8_crow_27 ?_
  refine V_icmp_lt_f (tgt := 35) C (by rw [hC]; decide) rfl (by decide) dX8_crow_29 ?_
  refine V_bipush (q := 34) (v := (-4)) C (by decide) rfl dX8_crow_32 ?_
  refine V_iret C hR dX8_crow_34 ?_
  exact ⟨rfl, rfl⟩

set_option maxHeartbeats 4000000 in
set_option maxRecDepth 100000 in
theorem c_X8_crow_v {l : Launch} {D : DD} {ad : Nat → Nat} (σ : ST) (T d j C2 : Nat) (hd : d < 30) (hT : σ 12 0 = nI T) (hT6 : T ≤ 6) (hj : j < T) (hC : σ 21 5 = nI C2) (hC6 : C2 < 6) : Ct l yX8_crow cX8_crow 3 (Option.some FieldType.int) 1 22 D ad [.ref (ad 0), .int (nI d), .int (nI j)] σ (ex (some (.int (nI C2))) (setf (setf (setf σ 24 C2 (nI d)) 25 C2 (nI j)) 21 5 (nI (C2 + 1)))) := by
  refine Ct.of2 [.ref (ad 0), .int (nI d), .int (nI j)] rfl (Nat.le_of_ble_eq_true rfl) rfl ?_
  rintro X C rfl rfl rfl hxn hR
  refine V_iload_n_1 (q := 1) C rfl dX8_crow_0 ?_
  refine V_cS1r (q := 4) C (c_X8_isDay _ _) cw_X8_isDay cs_X8_isDay wm_X8_153 ⟨by decide, by decide⟩ (Nat.le_of_ble_eq_true rfl) rfl dX8_crow_1 ?_
  refine V_ifp_eq_f (tgt := 18) C (isT_nI (N := 30) hd (by decide)) rfl (by decide) dX8_crow_4 ?_
  refine V_aload_n_0 (q := 8) C rfl dX8_crow_7 ?_
  refine gf_X8_57 (q := 11) C rfl dX8_crow_8 ?_
  refine V_iload_n_2 (q := 12) C rfl dX8_crow_11 ?_
  refine V_cV1r (q := 15) C (Ct.mono (v' := some (.int (pI (isT (nI T) (nI j))))) (c_X1_hasTree σ (nI j)) (by rw [show σ 12 0 = nI T from hT]) rfl) cw_X1_hasTree cv_X1_hasTree wm_X8_119 (by decide) ob_X1 ⟨by decide, by decide⟩ (Nat.le_of_ble_eq_true rfl) rfl dX8_crow_12 ?_
  refine V_ifp_ne_t (tgt := 20) C (isT_nI hj (by omega)) (by decide) dX8_crow_15 ?_
  refine V_aload_n_0 (q := 21) C rfl dX8_crow_20 ?_
  refine gf_X8_27 (q := 24) C rfl dX8_crow_21 ?_
  refine gf_X8_169 (q := 27) C rfl dX8_crow_24 ?_
  refine V_bipush (q := 29) (v := 6) C (by decide) rfl dX8_crow_27 ?_
  refine V_icmp_lt_t (tgt := 35) C (by rw [hC]; exact nI_lt (b := 6) hC6 (by decide)) (by decide) dX8_crow_29 ?_
  refine V_aload_n_0 (q := 36) C rfl dX8_crow_35 ?_
  refine gf_X8_27 (q := 39) C rfl dX8_crow_36 ?_
  refine V_iload_n_1 (q := 40) C rfl dX8_crow_39 ?_
  refine V_iload_n_2 (q := 41) C rfl dX8_crow_40 ?_
  refine V_cV2r (q := 44) C (Ct.mono (v' := some (.int (nI C2))) (τ' := setf (setf (setf σ 24 C2 (nI d)) 25 C2 (nI j)) 21 5 (nI (C2 + 1))) (c_X7_addCrow σ (nI d) (nI j) C2 hC hC6) (by rw [hC, show nI C2 + 1 = nI (C2 + 1) from nI_1 C2, show nI (C2 + 1) - 1 = nI (C2 + 1 - 1) from pk_sub (b := 1) (by omega)]; rfl) (by rw [hC, show nI C2 + 1 = nI (C2 + 1) from nI_1 C2])) cw_X7_addCrow cv_X7_addCrow wm_X8_172 (by decide) ob_X7 ⟨by decide, by decide⟩ (Nat.le_of_ble_eq_true rfl) rfl dX8_crow_41 ?_
  refine V_iret C hR dX8_crow_44 ?_
  exact ⟨rfl, rfl⟩

set_option maxHeartbeats 4000000 in
set_option maxRecDepth 100000 in
theorem c_X8_shoo_o {l : Launch} {D : DD} {ad : Nat → Nat} (σ : ST) (C2 : Nat) (k : Int32) (hC : σ 21 5 = nI C2) (hC8 : C2 ≤ 8) (h : ¬ (¬ k < 0 ∧ ¬ nI C2 < k)) : Ct l yX8_shoo cX8_shoo 2 (Option.some FieldType.int) 0 0 D ad [.ref (ad 0), .int k] σ (ex (some (.int (-2))) σ) := by
  refine Ct.of2 [.ref (ad 0), .int k] rfl (Nat.le_of_ble_eq_true rfl) rfl ?_
  rintro X C rfl rfl rfl hxn hR
  refine V_iload_n_1 (q := 1) C rfl dX8_shoo_0 ?_
  refine V_if_lt (tgt := 15) C rfl (by decide) dX8_shoo_1 (fun c1 => ?_) (fun c1 => ?_)
  · refine V_bipush (q := 17) (v := (-2)) C (by decide) rfl dX8_shoo_15 ?_
    refine V_iret C hR dX8_shoo_17 ?_
    exact ⟨rfl, rfl⟩
  · refine V_iload_n_1 (q := 5) C rfl dX8_shoo_4 ?_
    refine V_aload_n_0 (q := 6) C rfl dX8_shoo_5 ?_
    refine gf_X8_27 (q := 9) C rfl dX8_shoo_6 ?_
    refine gf_X8_169 (q := 12) C rfl dX8_shoo_9 ?_
    rw [hC]
    refine V_icmp_le (tgt := 18) C rfl (by decide) dX8_shoo_12 (fun c12 => ?_) (fun c12 => ?_)
    · exact absurd ⟨c1, Int32.not_lt.mpr c12⟩ h
    · refine V_bipush (q := 17) (v := (-2)) C (by decide) rfl dX8_shoo_15 ?_
      refine V_iret C hR dX8_shoo_17 ?_
      exact ⟨rfl, rfl⟩

set_option maxHeartbeats 4000000 in
set_option maxRecDepth 100000 in
theorem c_X8_shoo_v {l : Launch} {D : DD} {ad : Nat → Nat} (σ : ST) (C2 j : Nat) (hC : σ 21 5 = nI C2) (hC8 : C2 ≤ 8) (hj : j ≤ C2) : Ct l yX8_shoo cX8_shoo 2 (Option.some FieldType.int) 0 0 D ad [.ref (ad 0), .int (nI j)] σ (ex (some (.int (nI (C2 - j)))) (setf σ 21 5 (nI (C2 - j)))) := by
  refine Ct.of2 [.ref (ad 0), .int (nI j)] rfl (Nat.le_of_ble_eq_true rfl) rfl ?_
  rintro X C rfl rfl rfl hxn hR
  refine V_iload_n_1 (q := 1) C rfl dX8_shoo_0 ?_
  refine V_if_lt_f (tgt := 15) C (nI_pos (by omega)) rfl (by decide) dX8_shoo_1 ?_
  refine V_iload_n_1 (q := 5) C rfl dX8_shoo_4 ?_
  refine V_aload_n_0 (q := 6) C rfl dX8_shoo_5 ?_
  refine gf_X8_27 (q := 9) C rfl dX8_shoo_6 ?_
  refine gf_X8_169 (q := 12) C rfl dX8_shoo_9 ?_
  rw [hC]
  refine V_icmp_le_t (tgt := 18) C (nI_le hj (by omega)) (by decide) dX8_shoo_12 ?_
  refine V_aload_n_0 (q := 19) C rfl dX8_shoo_18 ?_
  refine gf_X8_27 (q := 22) C rfl dX8_shoo_19 ?_
  refine V_dup (q := 23) C rfl rfl dX8_shoo_22 ?_
  refine gf_X8_169 (q := 26) C rfl dX8_shoo_23 ?_
  refine V_iload_n_1 (q := 27) C rfl dX8_shoo_26 ?_
  refine V_isub (q := 28) C rfl dX8_shoo_27 ?_
  rw [hC, show nI C2 - nI j = nI (C2 - j) from pk_sub hj]
  refine pf_X8_169 (q := 31) C rfl dX8_shoo_28 ?_
  refine V_aload_n_0 (q := 32) C rfl dX8_shoo_31 ?_
  refine gf_X8_27 (q := 35) C rfl dX8_shoo_32 ?_
  refine gf_X8_169 (q := 38) C rfl dX8_shoo_35 ?_
  refine V_iret C hR dX8_shoo_38 ?_
  exact ⟨rfl, rfl⟩

set_option maxHeartbeats 4000000 in
set_option maxRecDepth 100000 in
theorem c_X8_fell_u {l : Launch} {D : DD} {ad : Nat → Nat} (σ : ST) (T : Nat) (t b : Int32) (hT : σ 12 0 = nI T) (h : ¬ isT (nI T) t) : Ct l yX8_fell cX8_fell 3 (Option.some FieldType.int) 1 21 D ad [.ref (ad 0), .int t, .int b] σ (ex (some (.int (-1))) σ) := by
  refine Ct.of2 [.ref (ad 0), .int t, .int b] rfl (Nat.le_of_ble_eq_true rfl) rfl ?_
  rintro X C rfl rfl rfl hxn hR
  refine V_aload_n_0 (q := 1) C rfl dX8_fell_0 ?_
  refine gf_X8_57 (q := 4) C rfl dX8_fell_1 ?_
  refine V_iload_n_1 (q := 5) C rfl dX8_fell_4 ?_
  refine V_cV1r (q := 8) C (Ct.mono (v' := some (.int (pI (isT (nI T) t)))) (c_X1_hasTree σ t) (by rw [show σ 12 0 = nI T from hT]) rfl) cw_X1_hasTree cv_X1_hasTree wm_X8_119 (by decide) ob_X1 ⟨by decide, by decide⟩ (Nat.le_of_ble_eq_true rfl) rfl dX8_fell_5 ?_
  refine V_ifp_ne_f (tgt := 13) C h rfl (by decide) dX8_fell_8 ?_
  refine V_iconst (q := 12) (v := (-1)) C rfl rfl dX8_fell_11 ?_
  refine V_iret C hR dX8_fell_12 ?_
  exact ⟨rfl, rfl⟩

def feF (σ : ST) (j : Nat) (b : Int32) : Int32 × ST := if pI (bit (σ 12 2) (nI j)) = b then (0, σ) else (1, setf σ 12 2 (σ 12 2 ^^^ own1 (nI j)))

set_option maxHeartbeats 4000000 in
set_option maxRecDepth 100000 in
theorem c_X8_fell_v {l : Launch} {D : DD} {ad : Nat → Nat} (σ : ST) (T j : Nat) (b : Int32) (hT : σ 12 0 = nI T) (hT6 : T ≤ 6) (hj : j < T) : Ct l yX8_fell cX8_fell 3 (Option.some FieldType.int) 1 21 D ad [.ref (ad 0), .int (nI j), .int b] σ (ex (some (.int (feF σ j b).1)) (feF σ j b).2) := by
  refine Ct.of2 [.ref (ad 0), .int (nI j), .int b] rfl (Nat.le_of_ble_eq_true rfl) rfl ?_
  rintro X C rfl rfl rfl hxn hR
  refine V_aload_n_0 (q := 1) C rfl dX8_fell_0 ?_
  refine gf_X8_57 (q := 4) C rfl dX8_fell_1 ?_
  refine V_iload_n_1 (q := 5) C rfl dX8_fell_4 ?_
  refine V_cV1r (q := 8) C (Ct.mono (v' := some (.int (pI (isT (nI T) (nI j))))) (c_X1_hasTree σ (nI j)) (by rw [show σ 12 0 = nI T from hT]) rfl) cw_X1_hasTree cv_X1_hasTree wm_X8_119 (by decide) ob_X1 ⟨by decide, by decide⟩ (Nat.le_of_ble_eq_true rfl) rfl dX8_fell_5 ?_
  refine V_ifp_ne_t (tgt := 13) C (isT_nI hj (by omega)) (by decide) dX8_fell_8 ?_
  refine V_aload_n_0 (q := 14) C rfl dX8_fell_13 ?_
  refine gf_X8_57 (q := 17) C rfl dX8_fell_14 ?_
  refine gf_X8_138 (q := 20) C rfl dX8_fell_17 ?_
  refine V_iload_n_1 (q := 21) C rfl dX8_fell_20 ?_
  refine V_cS2r (q := 24) C (c_X8_isIn _ _ _) cw_X8_isIn cs_X8_isIn wm_X8_141 ⟨by decide, by decide⟩ (Nat.le_of_ble_eq_true rfl) rfl dX8_fell_21 ?_
  refine V_iload_n_2 (q := 25) C rfl dX8_fell_24 ?_
  refine V_icmp_ne (tgt := 30) C rfl (by decide) dX8_fell_25 (fun c25 => ?_) (fun c25 => ?_)
  · refine V_aload_n_0 (q := 31) C rfl dX8_fell_30 ?_
    refine gf_X8_57 (q := 34) C rfl dX8_fell_31 ?_
    refine V_dup (q := 35) C rfl rfl dX8_fell_34 ?_
    refine gf_X8_138 (q := 38) C rfl dX8_fell_35 ?_
    refine V_iconst (q := 39) (v := 1) C rfl rfl dX8_fell_38 ?_
    refine V_iload_n_1 (q := 40) C rfl dX8_fell_39 ?_
    refine V_ishl (q := 41) C rfl dX8_fell_40 ?_
    refine V_ixor (q := 42) C rfl dX8_fell_41 ?_
    refine pf_X8_138 (q := 45) C rfl dX8_fell_42 ?_
    refine V_iconst (q := 46) (v := 1) C rfl rfl dX8_fell_45 ?_
    refine V_iret C hR dX8_fell_46 ?_
    first
    | (refine ⟨by unfold feF; rw [if_pos c25], ?_⟩; unfold feF; rw [if_pos c25]; done)
    | (refine ⟨by unfold feF; rw [if_neg c25], ?_⟩; unfold feF; rw [if_neg c25]; try rfl)
  · refine V_iconst (q := 29) (v := 0) C rfl rfl dX8_fell_28 ?_
    refine V_iret C hR dX8_fell_29 ?_
    first
    | (refine ⟨by unfold feF; rw [if_pos c25], ?_⟩; unfold feF; rw [if_pos c25]; done)
    | (refine ⟨by unfold feF; rw [if_neg c25], ?_⟩; unfold feF; rw [if_neg c25]; try rfl)

theorem ld29 : isLd 29 30 := ⟨by decide, fun i hi => by rw [show (29 : Int32) = nI 29 from rfl, nI_leI (by omega) (by decide)]; omega⟩
theorem ldN {d : Nat} (h : d < 30) : isLd (nI d) (d + 1) := ⟨by omega, fun i hi => by rw [nI_leI (by omega) (by omega)]; omega⟩

set_option maxHeartbeats 4000000 in
set_option maxRecDepth 100000 in
theorem c_X8_out_u {l : Launch} {D : DD} {ad : Nat → Nat} (σ : ST) (P : Nat) (p : Int32) (hP : σ 12 1 = nI P) (h : ¬ isT (nI P) p) : Ct l yX8_out cX8_out 2 (Option.some FieldType.int) 6 132 D ad [.ref (ad 0), .int p] σ (ex (some (.int (-1))) σ) := by
  refine Ct.of2 [.ref (ad 0), .int p] rfl (Nat.le_of_ble_eq_true rfl) rfl ?_
  rintro X C rfl rfl rfl hxn hR
  refine V_aload_n_0 (q := 1) C rfl dX8_out_0 ?_
  refine gf_X8_57 (q := 4) C rfl dX8_out_1 ?_
  refine V_iload_n_1 (q := 5) C rfl dX8_out_4 ?_
  refine V_cV1r (q := 8) C (Ct.mono (v' := some (.int (pI (isT (nI P) p)))) (c_X1_hasPrisoner σ p) (by rw [show σ 12 1 = nI P from hP]) rfl) cw_X1_hasPrisoner cv_X1_hasPrisoner wm_X8_144 (by decide) ob_X1 ⟨by decide, by decide⟩ (Nat.le_of_ble_eq_true rfl) rfl dX8_out_5 ?_
  refine V_ifp_ne_f (tgt := 13) C h rfl (by decide) dX8_out_8 ?_
  refine V_iconst (q := 12) (v := (-1)) C rfl rfl dX8_out_11 ?_
  refine V_iret C hR dX8_out_12 ?_
  exact ⟨rfl, rfl⟩

set_option maxHeartbeats 4000000 in
set_option maxRecDepth 100000 in
theorem c_X8_out_v {l : Launch} {D : DD} {ad : Nat → Nat} (σ : ST) (T P C2 j : Nat) (hT : σ 12 0 = nI T) (hT6 : T ≤ 6) (hP : σ 12 1 = nI P) (hP6 : P ≤ 6) (hC : σ 21 5 = nI C2) (hC6 : C2 ≤ 6) (hcd : ∀ c, c < C2 → ∃ d : Nat, d < 30 ∧ σ 24 c = nI d) (hj : j < P) : Ct l yX8_out cX8_out 2 (Option.some FieldType.int) 6 132 D ad [.ref (ad 0), .int (nI j)] σ (ex (some (.int ((daysC (prepF σ C2) T P 30 (s0C σ)).2.1 j))) (paT σ T P C2 30)) := by
  refine Ct.of2 [.ref (ad 0), .int (nI j)] rfl (Nat.le_of_ble_eq_true rfl) rfl ?_
  rintro X C rfl rfl rfl hxn hR
  refine V_aload_n_0 (q := 1) C rfl dX8_out_0 ?_
  refine gf_X8_57 (q := 4) C rfl dX8_out_1 ?_
  refine V_iload_n_1 (q := 5) C rfl dX8_out_4 ?_
  refine V_cV1r (q := 8) C (Ct.mono (v' := some (.int (pI (isT (nI P) (nI j))))) (c_X1_hasPrisoner σ (nI j)) (by rw [show σ 12 1 = nI P from hP]) rfl) cw_X1_hasPrisoner cv_X1_hasPrisoner wm_X8_144 (by decide) ob_X1 ⟨by decide, by decide⟩ (Nat.le_of_ble_eq_true rfl) rfl dX8_out_5 ?_
  refine V_ifp_ne_t (tgt := 13) C (isT_nI hj (by omega)) (by decide) dX8_out_8 ?_
  refine V_aload_n_0 (q := 14) C rfl dX8_out_13 ?_
  refine V_bipush (q := 16) (v := 29) C (by decide) rfl dX8_out_14 ?_
  refine V_cV1v (q := 19) C (c_X8_passAsTold σ T P C2 30 29 hT hT6 hP hP6 hC hC6 hcd ld29) cw_X8_passAsTold cv_X8_passAsTold wm_X8_176 (by decide) ob_X8 ⟨by decide, by decide⟩ (Nat.le_of_ble_eq_true rfl) rfl dX8_out_16 ?_
  refine V_aload_n_0 (q := 20) C rfl dX8_out_19 ?_
  refine gf_X8_61 (q := 23) C rfl dX8_out_20 ?_
  refine gf_X8_180 (q := 26) C rfl dX8_out_23 ?_
  refine V_iload_n_1 (q := 27) C rfl dX8_out_26 ?_
  refine V_iald (q := 28) C _ rfl (by show _ < 6; omega) rfl (by decide) (by decide) rfl dX8_out_27 ?_
  refine V_iret C hR dX8_out_28 ?_
  exact ⟨rfl, rfl⟩

set_option maxHeartbeats 4000000 in
set_option maxRecDepth 100000 in
theorem c_X8_by_u {l : Launch} {D : DD} {ad : Nat → Nat} (σ : ST) (P : Nat) (p : Int32) (hP : σ 12 1 = nI P) (h : ¬ isT (nI P) p) : Ct l yX8_by cX8_by 2 (Option.some FieldType.int) 6 132 D ad [.ref (ad 0), .int p] σ (ex (some (.int (-1))) σ) := by
  refine Ct.of2 [.ref (ad 0), .int p] rfl (Nat.le_of_ble_eq_true rfl) rfl ?_
  rintro X C rfl rfl rfl hxn hR
  refine V_aload_n_0 (q := 1) C rfl dX8_by_0 ?_
  refine gf_X8_57 (q := 4) C rfl dX8_by_1 ?_
  refine V_iload_n_1 (q := 5) C rfl dX8_by_4 ?_
  refine V_cV1r (q := 8) C (Ct.mono (v' := some (.int (pI (isT (nI P) p)))) (c_X1_hasPrisoner σ p) (by rw [show σ 12 1 = nI P from hP]) rfl) cw_X1_hasPrisoner cv_X1_hasPrisoner wm_X8_144 (by decide) ob_X1 ⟨by decide, by decide⟩ (Nat.le_of_ble_eq_true rfl) rfl dX8_by_5 ?_
  refine V_ifp_ne_f (tgt := 13) C h rfl (by decide) dX8_by_8 ?_
  refine V_iconst (q := 12) (v := (-1)) C rfl rfl dX8_by_11 ?_
  refine V_iret C hR dX8_by_12 ?_
  exact ⟨rfl, rfl⟩

set_option maxHeartbeats 4000000 in
set_option maxRecDepth 100000 in
theorem c_X8_by_v {l : Launch} {D : DD} {ad : Nat → Nat} (σ : ST) (T P C2 j : Nat) (hT : σ 12 0 = nI T) (hT6 : T ≤ 6) (hP : σ 12 1 = nI P) (hP6 : P ≤ 6) (hC : σ 21 5 = nI C2) (hC6 : C2 ≤ 6) (hcd : ∀ c, c < C2 → ∃ d : Nat, d < 30 ∧ σ 24 c = nI d) (hj : j < P) : Ct l yX8_by cX8_by 2 (Option.some FieldType.int) 6 132 D ad [.ref (ad 0), .int (nI j)] σ (ex (some (.int ((daysC (prepF σ C2) T P 30 (s0C σ)).2.2.1 j))) (paT σ T P C2 30)) := by
  refine Ct.of2 [.ref (ad 0), .int (nI j)] rfl (Nat.le_of_ble_eq_true rfl) rfl ?_
  rintro X C rfl rfl rfl hxn hR
  refine V_aload_n_0 (q := 1) C rfl dX8_by_0 ?_
  refine gf_X8_57 (q := 4) C rfl dX8_by_1 ?_
  refine V_iload_n_1 (q := 5) C rfl dX8_by_4 ?_
  refine V_cV1r (q := 8) C (Ct.mono (v' := some (.int (pI (isT (nI P) (nI j))))) (c_X1_hasPrisoner σ (nI j)) (by rw [show σ 12 1 = nI P from hP]) rfl) cw_X1_hasPrisoner cv_X1_hasPrisoner wm_X8_144 (by decide) ob_X1 ⟨by decide, by decide⟩ (Nat.le_of_ble_eq_true rfl) rfl dX8_by_5 ?_
  refine V_ifp_ne_t (tgt := 13) C (isT_nI hj (by omega)) (by decide) dX8_by_8 ?_
  refine V_aload_n_0 (q := 14) C rfl dX8_by_13 ?_
  refine V_bipush (q := 16) (v := 29) C (by decide) rfl dX8_by_14 ?_
  refine V_cV1v (q := 19) C (c_X8_passAsTold σ T P C2 30 29 hT hT6 hP hP6 hC hC6 hcd ld29) cw_X8_passAsTold cv_X8_passAsTold wm_X8_176 (by decide) ob_X8 ⟨by decide, by decide⟩ (Nat.le_of_ble_eq_true rfl) rfl dX8_by_16 ?_
  refine V_aload_n_0 (q := 20) C rfl dX8_by_19 ?_
  refine gf_X8_61 (q := 23) C rfl dX8_by_20 ?_
  refine gf_X8_183 (q := 26) C rfl dX8_by_23 ?_
  refine V_iload_n_1 (q := 27) C rfl dX8_by_26 ?_
  refine V_iald (q := 28) C _ rfl (by show _ < 6; omega) rfl (by decide) (by decide) rfl dX8_by_27 ?_
  refine V_iret C hR dX8_by_28 ?_
  exact ⟨rfl, rfl⟩

set_option maxHeartbeats 4000000 in
set_option maxRecDepth 100000 in
theorem c_X8_free_u {l : Launch} {D : DD} {ad : Nat → Nat} (σ : ST) (d : Int32) (h : ¬ isT 30 d) : Ct l yX8_free cX8_free 2 (Option.some FieldType.int) 6 132 D ad [.ref (ad 0), .int d] σ (ex (some (.int (-1))) σ) := by
  refine Ct.of2 [.ref (ad 0), .int d] rfl (Nat.le_of_ble_eq_true rfl) rfl ?_
  rintro X C rfl rfl rfl hxn hR
  refine V_iload_n_1 (q := 1) C rfl dX8_free_0 ?_
  refine V_cS1r (q := 4) C (c_X8_isDay _ _) cw_X8_isDay cs_X8_isDay wm_X8_153 ⟨by decide, by decide⟩ (Nat.le_of_ble_eq_true rfl) rfl dX8_free_1 ?_
  refine V_ifp_ne_f (tgt := 9) C h rfl (by decide) dX8_free_4 ?_
  refine V_iconst (q := 8) (v := (-1)) C rfl rfl dX8_free_7 ?_
  refine V_iret C hR dX8_free_8 ?_
  exact ⟨rfl, rfl⟩

set_option maxHeartbeats 4000000 in
set_option maxRecDepth 100000 in
theorem c_X8_free_s {l : Launch} {D : DD} {ad : Nat → Nat} (σ : ST) (d T : Nat) (hd : d < 30) (hT : σ 12 0 = nI T) (h0 : T = 0) : Ct l yX8_free cX8_free 2 (Option.some FieldType.int) 6 132 D ad [.ref (ad 0), .int (nI d)] σ (ex (some (.int (-3))) σ) := by
  refine Ct.of2 [.ref (ad 0), .int (nI d)] rfl (Nat.le_of_ble_eq_true rfl) rfl ?_
  rintro X C rfl rfl rfl hxn hR
  refine V_iload_n_1 (q := 1) C rfl dX8_free_0 ?_
  refine V_cS1r (q := 4) C (c_X8_isDay _ _) cw_X8_isDay cs_X8_isDay wm_X8_153 ⟨by decide, by decide⟩ (Nat.le_of_ble_eq_true rfl) rfl dX8_free_1 ?_
  refine V_ifp_ne_t (tgt := 9) C (isT_nI (N := 30) hd (by decide)) (by decide) dX8_free_4 ?_
  refine V_aload_n_0 (q := 10) C rfl dX8_free_9 ?_
  refine gf_X8_57 (q := 13) C rfl dX8_free_10 ?_
  refine V_cV0r (q := 16) C (Ct.mono (v' := some (.int (pI (0 < nI T)))) (c_X1_isPlanted σ) (by rw [show σ 12 0 = nI T from hT]) rfl) cw_X1_isPlanted cv_X1_isPlanted wm_X8_156 (by decide) ob_X1 ⟨by decide, by decide⟩ (Nat.le_of_ble_eq_true rfl) rfl dX8_free_13 ?_
  refine V_ifp_ne_f (tgt := 22) C (pl0_no h0) rfl (by decide) dX8_free_16 ?_
  refine V_bipush (q := 21) (v := (-3)) C (by decide) rfl dX8_free_19 ?_
  refine V_iret C hR dX8_free_21 ?_
  exact ⟨rfl, rfl⟩

set_option maxHeartbeats 4000000 in
set_option maxRecDepth 100000 in
theorem c_X8_free_v {l : Launch} {D : DD} {ad : Nat → Nat} (σ : ST) (T P C2 d : Nat) (hT : σ 12 0 = nI T) (hT6 : T ≤ 6) (hP : σ 12 1 = nI P) (hP6 : P ≤ 6) (hC : σ 21 5 = nI C2) (hC6 : C2 ≤ 6) (hcd : ∀ c, c < C2 → ∃ d : Nat, d < 30 ∧ σ 24 c = nI d) (hd : d < 30) (h0 : 0 < T) : Ct l yX8_free cX8_free 2 (Option.some FieldType.int) 6 132 D ad [.ref (ad 0), .int (nI d)] σ (ex (some (.int (ones (nI P) &&& ((daysC (prepF σ C2) T P (d + 1) (s0C σ)).2.2.2 ^^^ -1)))) (paT σ T P C2 (d + 1))) := by
  refine Ct.of2 [.ref (ad 0), .int (nI d)] rfl (Nat.le_of_ble_eq_true rfl) rfl ?_
  rintro X C rfl rfl rfl hxn hR
  refine V_iload_n_1 (q := 1) C rfl dX8_free_0 ?_
  refine V_cS1r (q := 4) C (c_X8_isDay _ _) cw_X8_isDay cs_X8_isDay wm_X8_153 ⟨by decide, by decide⟩ (Nat.le_of_ble_eq_true rfl) rfl dX8_free_1 ?_
  refine V_ifp_ne_t (tgt := 9) C (isT_nI (N := 30) hd (by decide)) (by decide) dX8_free_4 ?_
  refine V_aload_n_0 (q := 10) C rfl dX8_free_9 ?_
  refine gf_X8_57 (q := 13) C rfl dX8_free_10 ?_
  refine V_cV0r (q := 16) C (Ct.mono (v' := some (.int (pI (0 < nI T)))) (c_X1_isPlanted σ) (by rw [show σ 12 0 = nI T from hT]) rfl) cw_X1_isPlanted cv_X1_isPlanted wm_X8_156 (by decide) ob_X1 ⟨by decide, by decide⟩ (Nat.le_of_ble_eq_true rfl) rfl dX8_free_13 ?_
  refine V_ifp_ne_t (tgt := 22) C (pl0_of h0 hT6) (by decide) dX8_free_16 ?_
  refine V_aload_n_0 (q := 23) C rfl dX8_free_22 ?_
  refine V_iload_n_1 (q := 24) C rfl dX8_free_23 ?_
  refine V_cV1v (q := 27) C (c_X8_passAsTold σ T P C2 (d + 1) (nI d) hT hT6 hP hP6 hC hC6 hcd (ldN hd)) cw_X8_passAsTold cv_X8_passAsTold wm_X8_176 (by decide) ob_X8 ⟨by decide, by decide⟩ (Nat.le_of_ble_eq_true rfl) rfl dX8_free_24 ?_
  refine V_aload_n_0 (q := 28) C rfl dX8_free_27 ?_
  refine gf_X8_57 (q := 31) C rfl dX8_free_28 ?_
  refine V_cV0r (q := 34) C (Ct.mono (v' := some (.int (ones (nI P)))) (c_X1_allPrisoners _) (by rw [show (paT σ T P C2 (d + 1)) 12 1 = nI P from hP]) rfl) cw_X1_allPrisoners cv_X1_allPrisoners wm_X8_186 (by decide) ob_X1 ⟨by decide, by decide⟩ (Nat.le_of_ble_eq_true rfl) rfl dX8_free_31 ?_
  refine V_aload_n_0 (q := 35) C rfl dX8_free_34 ?_
  refine gf_X8_61 (q := 38) C rfl dX8_free_35 ?_
  refine gf_X8_189 (q := 41) C rfl dX8_free_38 ?_
  refine V_iconst (q := 42) (v := (-1)) C rfl rfl dX8_free_41 ?_
  refine V_ixor (q := 43) C rfl dX8_free_42 ?_
  refine V_iand (q := 44) C rfl dX8_free_43 ?_
  refine V_iret C hR dX8_free_44 ?_
  exact ⟨rfl, rfl⟩

set_option maxHeartbeats 4000000 in
set_option maxRecDepth 100000 in
theorem c_X8_has_u {l : Launch} {D : DD} {ad : Nat → Nat} (σ : ST) (T : Nat) (t d : Int32) (hT : σ 12 0 = nI T) (h : ¬ (isT (nI T) t ∧ isT 30 d)) : Ct l yX8_has cX8_has 3 (Option.some FieldType.int) 6 132 D ad [.ref (ad 0), .int t, .int d] σ (ex (some (.int (-1))) σ) := by
  refine Ct.of2 [.ref (ad 0), .int t, .int d] rfl (Nat.le_of_ble_eq_true rfl) rfl ?_
  rintro X C rfl rfl rfl hxn hR
  refine V_aload_n_0 (q := 1) C rfl dX8_has_0 ?_
  refine gf_X8_57 (q := 4) C rfl dX8_has_1 ?_
  refine V_iload_n_1 (q := 5) C rfl dX8_has_4 ?_
  refine V_cV1r (q := 8) C (Ct.mono (v' := some (.int (pI (isT (nI T) t)))) (c_X1_hasTree σ t) (by rw [show σ 12 0 = nI T from hT]) rfl) cw_X1_hasTree cv_X1_hasTree wm_X8_119 (by decide) ob_X1 ⟨by decide, by decide⟩ (Nat.le_of_ble_eq_true rfl) rfl dX8_has_5 ?_
  refine V_ifp_eq (tgt := 18) C rfl (by decide) dX8_has_8 (fun c8 => ?_) (fun c8 => ?_)
  · refine V_iconst (q := 19) (v := (-1)) C rfl rfl dX8_has_18 ?_
    refine V_iret C hR dX8_has_19 ?_
    exact ⟨rfl, rfl⟩
  · refine V_iload_n_2 (q := 12) C rfl dX8_has_11 ?_
    refine V_cS1r (q := 15) C (c_X8_isDay _ _) cw_X8_isDay cs_X8_isDay wm_X8_153 ⟨by decide, by decide⟩ (Nat.le_of_ble_eq_true rfl) rfl dX8_has_12 ?_
    refine V_ifp_ne (tgt := 20) C rfl (by decide) dX8_has_15 (fun c15 => ?_) (fun c15 => ?_)
    · exact absurd ⟨c8, c15⟩ h
    · refine V_iconst (q := 19) (v := (-1)) C rfl rfl dX8_has_18 ?_
      refine V_iret C hR dX8_has_19 ?_
      exact ⟨rfl, rfl⟩

set_option maxHeartbeats 4000000 in
set_option maxRecDepth 100000 in
theorem c_X8_has_v {l : Launch} {D : DD} {ad : Nat → Nat} (σ : ST) (T P C2 j d : Nat) (hT : σ 12 0 = nI T) (hT6 : T ≤ 6) (hP : σ 12 1 = nI P) (hP6 : P ≤ 6) (hC : σ 21 5 = nI C2) (hC6 : C2 ≤ 6) (hcd : ∀ c, c < C2 → ∃ d : Nat, d < 30 ∧ σ 24 c = nI d) (hj : j < T) (hd : d < 30) : Ct l yX8_has cX8_has 3 (Option.some FieldType.int) 6 132 D ad [.ref (ad 0), .int (nI j), .int (nI d)] σ (ex (some (.int ((daysC (prepF σ C2) T P (d + 1) (s0C σ)).1 j))) (paT σ T P C2 (d + 1))) := by
  refine Ct.of2 [.ref (ad 0), .int (nI j), .int (nI d)] rfl (Nat.le_of_ble_eq_true rfl) rfl ?_
  rintro X C rfl rfl rfl hxn hR
  refine V_aload_n_0 (q := 1) C rfl dX8_has_0 ?_
  refine gf_X8_57 (q := 4) C rfl dX8_has_1 ?_
  refine V_iload_n_1 (q := 5) C rfl dX8_has_4 ?_
  refine V_cV1r (q := 8) C (Ct.mono (v' := some (.int (pI (isT (nI T) (nI j))))) (c_X1_hasTree σ (nI j)) (by rw [show σ 12 0 = nI T from hT]) rfl) cw_X1_hasTree cv_X1_hasTree wm_X8_119 (by decide) ob_X1 ⟨by decide, by decide⟩ (Nat.le_of_ble_eq_true rfl) rfl dX8_has_5 ?_
  refine V_ifp_eq_f (tgt := 18) C (isT_nI hj (by omega)) rfl (by decide) dX8_has_8 ?_
  refine V_iload_n_2 (q := 12) C rfl dX8_has_11 ?_
  refine V_cS1r (q := 15) C (c_X8_isDay _ _) cw_X8_isDay cs_X8_isDay wm_X8_153 ⟨by decide, by decide⟩ (Nat.le_of_ble_eq_true rfl) rfl dX8_has_12 ?_
  refine V_ifp_ne_t (tgt := 20) C (isT_nI (N := 30) hd (by decide)) (by decide) dX8_has_15 ?_
  refine V_aload_n_0 (q := 21) C rfl dX8_has_20 ?_
  refine V_iload_n_2 (q := 22) C rfl dX8_has_21 ?_
  refine V_cV1v (q := 25) C (c_X8_passAsTold σ T P C2 (d + 1) (nI d) hT hT6 hP hP6 hC hC6 hcd (ldN hd)) cw_X8_passAsTold cv_X8_passAsTold wm_X8_176 (by decide) ob_X8 ⟨by decide, by decide⟩ (Nat.le_of_ble_eq_true rfl) rfl dX8_has_22 ?_
  refine V_aload_n_0 (q := 26) C rfl dX8_has_25 ?_
  refine gf_X8_61 (q := 29) C rfl dX8_has_26 ?_
  refine gf_X8_192 (q := 32) C rfl dX8_has_29 ?_
  refine V_iload_n_1 (q := 33) C rfl dX8_has_32 ?_
  refine V_iald (q := 34) C _ rfl (by show _ < 6; omega) rfl (by decide) (by decide) rfl dX8_has_33 ?_
  refine V_iret C hR dX8_has_34 ?_
  exact ⟨rfl, rfl⟩

set_option maxHeartbeats 4000000 in
set_option maxRecDepth 100000 in
theorem c_X8_worth_u {l : Launch} {D : DD} {ad : Nat → Nat} (σ : ST) (T : Nat) (t : Int32) (hT : σ 12 0 = nI T) (h : ¬ isT (nI T) t) : Ct l yX8_worth cX8_worth 3 (Option.some FieldType.int) 6 132 D ad [.ref (ad 0), .int t] σ (ex (some (.int (-1))) σ) := by
  refine Ct.of2 [.ref (ad 0), .int t, .float 0] rfl (Nat.le_of_ble_eq_true rfl) rfl ?_
  rintro X C rfl rfl rfl hxn hR
  refine V_aload_n_0 (q := 1) C rfl dX8_worth_0 ?_
  refine gf_X8_57 (q := 4) C rfl dX8_worth_1 ?_
  refine V_iload_n_1 (q := 5) C rfl dX8_worth_4 ?_
  refine V_cV1r (q := 8) C (Ct.mono (v' := some (.int (pI (isT (nI T) t)))) (c_X1_hasTree σ t) (by rw [show σ 12 0 = nI T from hT]) rfl) cw_X1_hasTree cv_X1_hasTree wm_X8_119 (by decide) ob_X1 ⟨by decide, by decide⟩ (Nat.le_of_ble_eq_true rfl) rfl dX8_worth_5 ?_
  refine V_ifp_ne_f (tgt := 13) C h rfl (by decide) dX8_worth_8 ?_
  refine V_iconst (q := 12) (v := (-1)) C rfl rfl dX8_worth_11 ?_
  refine V_iret C hR dX8_worth_12 ?_
  exact ⟨rfl, rfl⟩

def felS (σ : ST) (x : Int32) : ST := setf σ 30 5 x
theorem felS_put {σ : ST} {s : S4} {x : Int32} : setf (putS σ s) 30 5 x = putS (felS σ x) s := by
  funext z
  by_cases e0 : z = 36
  · subst e0; rfl
  · by_cases e1 : z = 35
    · subst e1; rfl
    · by_cases e2 : z = 34
      · subst e2; rfl
      · by_cases e3 : z = 30
        · subst e3
          show upd (upd (σ 30) 9 _) 5 x = upd (upd (σ 30) 5 x) 9 _
          funext t
          unfold upd
          by_cases h5 : t = 5
          · subst h5; rfl
          · by_cases h9 : t = 9
            · subst h9; rfl
            · simp only [if_neg h5, if_neg h9]
        · simp only [putS, felS, setf, setc, if_neg e0, if_neg e1, if_neg e2, if_neg e3]

set_option maxHeartbeats 4000000 in
set_option maxRecDepth 100000 in
theorem c_X8_worth_v {l : Launch} {D : DD} {ad : Nat → Nat} (σ : ST) (T P C2 j : Nat) (hT : σ 12 0 = nI T) (hT6 : T ≤ 6) (hP : σ 12 1 = nI P) (hP6 : P ≤ 6) (hC : σ 21 5 = nI C2) (hC6 : C2 ≤ 6) (hcd : ∀ c, c < C2 → ∃ d : Nat, d < 30 ∧ σ 24 c = nI d) (hj : j < T) : Ct l yX8_worth cX8_worth 3 (Option.some FieldType.int) 6 132 D ad [.ref (ad 0), .int (nI j)] σ (ex (some (.int (sumO (daysC (felS (prepF σ C2) (σ 12 2 ||| own1 (nI j))) T P 30 (s0C σ)).2.1 P - sumO (daysC (prepF σ C2) T P 30 (s0C σ)).2.1 P + 10000))) (putS (felS (prepF σ C2) (σ 12 2 ||| own1 (nI j))) (daysC (felS (prepF σ C2) (σ 12 2 ||| own1 (nI j))) T P 30 (s0C σ)))) := by
  refine Ct.of2 [.ref (ad 0), .int (nI j), .float 0] rfl (Nat.le_of_ble_eq_true rfl) rfl ?_
  rintro X C rfl rfl rfl hxn hR
  have hn2 : 2 < xn X := by rw [← hxn]; decide
  refine V_aload_n_0 (q := 1) C rfl dX8_worth_0 ?_
  refine gf_X8_57 (q := 4) C rfl dX8_worth_1 ?_
  refine V_iload_n_1 (q := 5) C rfl dX8_worth_4 ?_
  refine V_cV1r (q := 8) C (Ct.mono (v' := some (.int (pI (isT (nI T) (nI j))))) (c_X1_hasTree σ (nI j)) (by rw [show σ 12 0 = nI T from hT]) rfl) cw_X1_hasTree cv_X1_hasTree wm_X8_119 (by decide) ob_X1 ⟨by decide, by decide⟩ (Nat.le_of_ble_eq_true rfl) rfl dX8_worth_5 ?_
  refine V_ifp_ne_t (tgt := 13) C (isT_nI hj (by omega)) (by decide) dX8_worth_8 ?_
  refine V_aload_n_0 (q := 14) C rfl dX8_worth_13 ?_
  refine V_bipush (q := 16) (v := 29) C (by decide) rfl dX8_worth_14 ?_
  refine V_cV1v (q := 19) C (c_X8_passAsTold σ T P C2 30 29 hT hT6 hP hP6 hC hC6 hcd ld29) cw_X8_passAsTold cv_X8_passAsTold wm_X8_176 (by decide) ob_X8 ⟨by decide, by decide⟩ (Nat.le_of_ble_eq_true rfl) rfl dX8_worth_16 ?_
  refine V_aload_n_0 (q := 20) C rfl dX8_worth_19 ?_
  refine gf_X8_61 (q := 23) C rfl dX8_worth_20 ?_
  refine V_cV0r (q := 26) C (Ct.mono (v' := some (.int (sumO (daysC (prepF σ C2) T P 30 (s0C σ)).2.1 P))) (c_X4_sumOfOutDays (paT σ T P C2 30) P hP hP6) rfl rfl) cw_X4_sumOfOutDays cv_X4_sumOfOutDays wm_X8_224 (by decide) ob_X4 ⟨by decide, by decide⟩ (Nat.le_of_ble_eq_true rfl) rfl dX8_worth_23 ?_
  refine V_istore_n_2 (q := 27) C hn2 rfl rfl dX8_worth_26 ?_
  refine V_aload_n_0 (q := 28) C rfl dX8_worth_27 ?_
  refine gf_X8_61 (q := 31) C rfl dX8_worth_28 ?_
  refine V_aload_n_0 (q := 32) C rfl dX8_worth_31 ?_
  refine gf_X8_57 (q := 35) C rfl dX8_worth_32 ?_
  refine gf_X8_138 (q := 38) C rfl dX8_worth_35 ?_
  refine V_iconst (q := 39) (v := 1) C rfl rfl dX8_worth_38 ?_
  refine V_iload_n_1 (q := 40) C rfl dX8_worth_39 ?_
  refine V_ishl (q := 41) C rfl dX8_worth_40 ?_
  refine V_ior (q := 42) C rfl dX8_worth_41 ?_
  refine pf_X8_216 (q := 45) C rfl dX8_worth_42 ?_
  refine V_eq (τ := putS (felS (prepF σ C2) (σ 12 2 ||| own1 (nI j))) (daysC (prepF σ C2) T P 30 (s0C σ))) felS_put ?_
  refine V_aload_n_0 (q := 46) C rfl dX8_worth_45 ?_
  refine gf_X8_61 (q := 49) C rfl dX8_worth_46 ?_
  refine V_bipush (q := 51) (v := 29) C (by decide) rfl dX8_worth_49 ?_
  refine V_cV1v (q := 54) C (Ct.mono (v' := none) (τ' := putS (felS (prepF σ C2) (σ 12 2 ||| own1 (nI j))) (daysC (felS (prepF σ C2) (σ 12 2 ||| own1 (nI j))) T P 30 (s0C σ))) (c_X4_pass (putS (felS (prepF σ C2) (σ 12 2 ||| own1 (nI j))) (daysC (prepF σ C2) T P 30 (s0C σ))) T P 30 29 hT hT6 hP hP6 ld29) rfl (by rw [putS_putS, daysC_put]; rfl)) cw_X4_pass cv_X4_pass wm_X8_227 (by decide) ob_X4 ⟨by decide, by decide⟩ (Nat.le_of_ble_eq_true rfl) rfl dX8_worth_51 ?_
  refine V_aload_n_0 (q := 55) C rfl dX8_worth_54 ?_
  refine gf_X8_61 (q := 58) C rfl dX8_worth_55 ?_
  refine V_cV0r (q := 61) C (Ct.mono (v' := some (.int (sumO (daysC (felS (prepF σ C2) (σ 12 2 ||| own1 (nI j))) T P 30 (s0C σ)).2.1 P))) (c_X4_sumOfOutDays (putS (felS (prepF σ C2) (σ 12 2 ||| own1 (nI j))) (daysC (felS (prepF σ C2) (σ 12 2 ||| own1 (nI j))) T P 30 (s0C σ))) P hP hP6) rfl rfl) cw_X4_sumOfOutDays cv_X4_sumOfOutDays wm_X8_224 (by decide) ob_X4 ⟨by decide, by decide⟩ (Nat.le_of_ble_eq_true rfl) rfl dX8_worth_58 ?_
  refine V_iload_n_2 (q := 62) C rfl dX8_worth_61 ?_
  refine V_isub (q := 63) C rfl dX8_worth_62 ?_
  refine V_sipush (q := 66) (v := 10000) C (by decide) rfl dX8_worth_63 ?_
  refine V_iadd (q := 67) C rfl dX8_worth_66 ?_
  refine V_iret C hR dX8_worth_67 ?_
  exact ⟨rfl, rfl⟩
end
section
/-! the class: its public calls, sheets and searches -/
abbrev scr (k : Nat) : Prop := k = 10 ∨ k = 11 ∨ (30 ≤ k ∧ k ≤ 36) ∨ k = 38
def Kp (σ τ : ST) : Prop := ∀ k, ¬ scr k → τ k = σ k
theorem hcN {a n : Int32} {L : Nat} (hL : L ≤ 50) : (¬ a < 0 ∧ ¬ nI L < a ∧ ¬ n < 0 ∧ ¬ nI L - a < n) ↔ ∃ s m : Nat, a = nI s ∧ n = nI m ∧ s + m ≤ L := by
  constructor
  · rintro ⟨h1, h2, h3, h4⟩
    obtain ⟨s, hs, rfl⟩ := nI_of h1
    obtain ⟨m, hm, rfl⟩ := nI_of h3
    have hsL : s ≤ L := by
      rcases Nat.lt_or_ge L s with h | h
      · exact absurd (nI_lt h (by omega)) h2
      · exact h
    rw [pk_sub hsL] at h4
    have : m ≤ L - s := by
      rcases Nat.lt_or_ge (L - s) m with h | h
      · exact absurd (nI_lt h (by omega)) h4
      · exact h
    exact ⟨s, m, rfl, rfl, by omega⟩
  · rintro ⟨s, m, rfl, rfl, h⟩
    refine ⟨nI_pos (by omega), nI_nlt (by omega) (by omega), nI_pos (by omega), ?_⟩
    rw [pk_sub (by omega)]
    exact nI_nlt (by omega) (by omega)
abbrev hcC (σ : ST) (j : Nat) (a n : Int32) : Prop := ¬ a < 0 ∧ ¬ σ (2 + 2 * j) 3 < a ∧ ¬ n < 0 ∧ ¬ σ (2 + 2 * j) 3 - a < n
theorem sh_ne0 {j : Nat} : ¬ 2 + 2 * j = 0 := by omega
theorem f0_sh {σ : ST} {j : Nat} {x : Int32} : (setf σ 0 8 x) (2 + 2 * j) = σ (2 + 2 * j) := setc_n (by omega)
theorem f0_sc {σ : ST} {j : Nat} {x : Int32} : (setf σ 0 8 x) (2 + 2 * j + 1) = σ (2 + 2 * j + 1) := setc_n (by omega)

set_option maxHeartbeats 4000000 in
set_option maxRecDepth 100000 in
theorem c_X8_sheet_u {l : Launch} {D : DD} {ad : Nat → Nat} (σ : ST) (k a n : Int32) (h : ¬ isT 4 k) : Ct l yX8_sheet cX8_sheet 5 (Option.some FieldType.int) 2 45 D ad [.ref (ad 0), .int k, .int a, .int n] σ (ex (some (.int (-1))) (setf σ 0 8 0)) := by
  refine Ct.of2 [.ref (ad 0), .int k, .int a, .int n, .float 0] rfl (Nat.le_of_ble_eq_true rfl) rfl ?_
  rintro X C rfl rfl rfl hxn hR
  have hn4 : 4 < xn X := by rw [← hxn]; decide
  refine V_aload_n_0 (q := 1) C rfl dX8_sheet_0 ?_
  refine V_iconst (q := 2) (v := 0) C rfl rfl dX8_sheet_1 ?_
  refine pf_X8_45 (q := 5) C rfl dX8_sheet_2 ?_
  refine V_aload_n_0 (q := 6) C rfl dX8_sheet_5 ?_
  refine V_iload_n_1 (q := 7) C rfl dX8_sheet_6 ?_
  refine V_cV1r (q := 10) C (c_X8_sheetOfN _ _ h) cw_X8_sheetOf cv_X8_sheetOf wm_X8_75 (by decide) ob_X8 ⟨by decide, by decide⟩ (Nat.le_of_ble_eq_true rfl) rfl dX8_sheet_7 ?_
  refine V_astoreN_4 (q := 12) C hn4 rfl rfl dX8_sheet_10 ?_
  refine V_aloadN_4 (q := 14) C rfl dX8_sheet_12 ?_
  refine V_ifnonnullN (q := 17) C rfl dX8_sheet_14 ?_
  refine V_iconst (q := 18) (v := (-1)) C rfl rfl dX8_sheet_17 ?_
  refine V_iret C hR dX8_sheet_18 ?_
  exact ⟨rfl, rfl⟩

set_option maxHeartbeats 4000000 in
set_option maxRecDepth 100000 in
theorem c_X8_sheet_o {l : Launch} {D : DD} {ad : Nat → Nat} (σ : ST) (j : Nat) (a n : Int32) (hj : j < 4) (h : ¬ (isT 3 a ∧ ¬ 50 < n)) : Ct l yX8_sheet cX8_sheet 5 (Option.some FieldType.int) 2 45 D ad [.ref (ad 0), .int (nI j), .int a, .int n] σ (ex (some (.int (-2))) (setf σ 0 8 0)) := by
  refine Ct.of2 [.ref (ad 0), .int (nI j), .int a, .int n, .float 0] rfl (Nat.le_of_ble_eq_true rfl) rfl ?_
  rintro X C rfl rfl rfl hxn hR
  have hn4 : 4 < xn X := by rw [← hxn]; decide
  refine V_aload_n_0 (q := 1) C rfl dX8_sheet_0 ?_
  refine V_iconst (q := 2) (v := 0) C rfl rfl dX8_sheet_1 ?_
  refine pf_X8_45 (q := 5) C rfl dX8_sheet_2 ?_
  refine V_aload_n_0 (q := 6) C rfl dX8_sheet_5 ?_
  refine V_iload_n_1 (q := 7) C rfl dX8_sheet_6 ?_
  refine V_cV1r (q := 10) C (c_X8_sheetOf _ j hj) cw_X8_sheetOf cv_X8_sheetOf wm_X8_75 (by decide) ob_X8 ⟨by decide, by decide⟩ (Nat.le_of_ble_eq_true rfl) rfl dX8_sheet_7 ?_
  refine V_astore_4 (q := 12) C hn4 rfl rfl dX8_sheet_10 ?_
  refine V_aload_4 (q := 14) C rfl dX8_sheet_12 ?_
  refine V_ifnonnull (tgt := 19) C (by decide) dX8_sheet_14 ?_
  refine V_iload_n_2 (q := 20) C rfl dX8_sheet_19 ?_
  refine V_cS1r (q := 23) C (c_X8_isLane _ _) cw_X8_isLane cs_X8_isLane wm_X8_79 ⟨by decide, by decide⟩ (Nat.le_of_ble_eq_true rfl) rfl dX8_sheet_20 ?_
  refine V_ifp_eq (tgt := 32) C rfl (by decide) dX8_sheet_23 (fun c23 => ?_) (fun c23 => ?_)
  · refine V_bipush (q := 34) (v := (-2)) C (by decide) rfl dX8_sheet_32 ?_
    refine V_iret C hR dX8_sheet_34 ?_
    exact ⟨rfl, rfl⟩
  · refine V_iload_n_3 (q := 27) C rfl dX8_sheet_26 ?_
    refine V_bipush (q := 29) (v := 50) C (by decide) rfl dX8_sheet_27 ?_
    refine V_icmp_le (tgt := 35) C rfl (by decide) dX8_sheet_29 (fun c29 => ?_) (fun c29 => ?_)
    · exact absurd ⟨c23, Int32.not_lt.mpr c29⟩ h
    · refine V_bipush (q := 34) (v := (-2)) C (by decide) rfl dX8_sheet_32 ?_
      refine V_iret C hR dX8_sheet_34 ?_
      exact ⟨rfl, rfl⟩

set_option maxHeartbeats 4000000 in
set_option maxRecDepth 100000 in
theorem c_X8_sheet_z {l : Launch} {D : DD} {ad : Nat → Nat} (σ : ST) (j : Nat) (a n : Int32) (hj : j < 4) (h : isT 3 a) (hn : n < 0) : Ct l yX8_sheet cX8_sheet 5 (Option.some FieldType.int) 2 45 D ad [.ref (ad 0), .int (nI j), .int a, .int n] σ (ex (some (.int (-14))) (setf σ 0 8 4)) := by
  refine Ct.of2 [.ref (ad 0), .int (nI j), .int a, .int n, .float 0] rfl (Nat.le_of_ble_eq_true rfl) rfl ?_
  rintro X C rfl rfl rfl hxn hR
  have hn4 : 4 < xn X := by rw [← hxn]; decide
  refine V_aload_n_0 (q := 1) C rfl dX8_sheet_0 ?_
  refine V_iconst (q := 2) (v := 0) C rfl rfl dX8_sheet_1 ?_
  refine pf_X8_45 (q := 5) C rfl dX8_sheet_2 ?_
  refine V_aload_n_0 (q := 6) C rfl dX8_sheet_5 ?_
  refine V_iload_n_1 (q := 7) C rfl dX8_sheet_6 ?_
  refine V_cV1r (q := 10) C (c_X8_sheetOf _ j hj) cw_X8_sheetOf cv_X8_sheetOf wm_X8_75 (by decide) ob_X8 ⟨by decide, by decide⟩ (Nat.le_of_ble_eq_true rfl) rfl dX8_sheet_7 ?_
  refine V_astore_4 (q := 12) C hn4 rfl rfl dX8_sheet_10 ?_
  refine V_aload_4 (q := 14) C rfl dX8_sheet_12 ?_
  refine V_ifnonnull (tgt := 19) C (by decide) dX8_sheet_14 ?_
  refine V_iload_n_2 (q := 20) C rfl dX8_sheet_19 ?_
  refine V_cS1r (q := 23) C (c_X8_isLane _ _) cw_X8_isLane cs_X8_isLane wm_X8_79 ⟨by decide, by decide⟩ (Nat.le_of_ble_eq_true rfl) rfl dX8_sheet_20 ?_
  refine V_ifp_eq_f (tgt := 32) C h rfl (by decide) dX8_sheet_23 ?_
  refine V_iload_n_3 (q := 27) C rfl dX8_sheet_26 ?_
  refine V_bipush (q := 29) (v := 50) C (by decide) rfl dX8_sheet_27 ?_
  refine V_icmp_le_t (tgt := 35) C (Int32.le_of_lt (Int32.lt_of_lt_of_le hn (by decide))) (by decide) dX8_sheet_29 ?_
  refine V_iload_n_3 (q := 36) C rfl dX8_sheet_35 ?_
  refine V_if_ge_f (tgt := 45) C (Int32.not_le.mpr hn) rfl (by decide) dX8_sheet_36 ?_
  refine V_aload_n_0 (q := 40) C rfl dX8_sheet_39 ?_
  refine V_iconst (q := 41) (v := 4) C rfl rfl dX8_sheet_40 ?_
  refine V_cV1r (q := 44) C (Ct.mono (v' := some (.int (-14))) (τ' := setf σ 0 8 4) (c_X8_faulted _ 4) rfl setf_setf) cw_X8_faulted cv_X8_faulted wm_X8_86 (by decide) ob_X8 ⟨by decide, by decide⟩ (Nat.le_of_ble_eq_true rfl) rfl dX8_sheet_41 ?_
  refine V_iret C hR dX8_sheet_44 ?_
  exact ⟨rfl, rfl⟩

set_option maxHeartbeats 4000000 in
set_option maxRecDepth 100000 in
theorem c_X8_sheet_v {l : Launch} {D : DD} {ad : Nat → Nat} (σ : ST) (j m : Nat) (a : Int32) (hj : j < 4) (h : isT 3 a) (hn : m ≤ 50) : Ct l yX8_sheet cX8_sheet 5 (Option.some FieldType.int) 2 45 D ad [.ref (ad 0), .int (nI j), .int a, .int (nI m)] σ (ex (some (.int 1)) (renewF (setf σ 0 8 0) j a (nI m))) := by
  refine Ct.of2 [.ref (ad 0), .int (nI j), .int a, .int (nI m), .float 0] rfl (Nat.le_of_ble_eq_true rfl) rfl ?_
  rintro X C rfl rfl rfl hxn hR
  have hn4 : 4 < xn X := by rw [← hxn]; decide
  refine V_aload_n_0 (q := 1) C rfl dX8_sheet_0 ?_
  refine V_iconst (q := 2) (v := 0) C rfl rfl dX8_sheet_1 ?_
  refine pf_X8_45 (q := 5) C rfl dX8_sheet_2 ?_
  refine V_aload_n_0 (q := 6) C rfl dX8_sheet_5 ?_
  refine V_iload_n_1 (q := 7) C rfl dX8_sheet_6 ?_
  refine V_cV1r (q := 10) C (c_X8_sheetOf _ j hj) cw_X8_sheetOf cv_X8_sheetOf wm_X8_75 (by decide) ob_X8 ⟨by decide, by decide⟩ (Nat.le_of_ble_eq_true rfl) rfl dX8_sheet_7 ?_
  refine V_astore_4 (q := 12) C hn4 rfl rfl dX8_sheet_10 ?_
  refine V_aload_4 (q := 14) C rfl dX8_sheet_12 ?_
  refine V_ifnonnull (tgt := 19) C (by decide) dX8_sheet_14 ?_
  refine V_iload_n_2 (q := 20) C rfl dX8_sheet_19 ?_
  refine V_cS1r (q := 23) C (c_X8_isLane _ _) cw_X8_isLane cs_X8_isLane wm_X8_79 ⟨by decide, by decide⟩ (Nat.le_of_ble_eq_true rfl) rfl dX8_sheet_20 ?_
  refine V_ifp_eq_f (tgt := 32) C h rfl (by decide) dX8_sheet_23 ?_
  refine V_iload_n_3 (q := 27) C rfl dX8_sheet_26 ?_
  refine V_bipush (q := 29) (v := 50) C (by decide) rfl dX8_sheet_27 ?_
  refine V_icmp_le_t (tgt := 35) C (nI_le (b := 50) hn (by decide)) (by decide) dX8_sheet_29 ?_
  refine V_iload_n_3 (q := 36) C rfl dX8_sheet_35 ?_
  refine V_if_ge_t (tgt := 45) C (Int32.not_lt.mp (nI_pos (by omega))) (by decide) dX8_sheet_36 ?_
  refine V_aload_4 (q := 47) C rfl dX8_sheet_45 ?_
  refine V_iload_n_2 (q := 48) C rfl dX8_sheet_47 ?_
  refine V_iload_n_3 (q := 49) C rfl dX8_sheet_48 ?_
  refine V_cV2v (q := 52) C (c_X5_renew (setf σ 0 8 0) j a (nI m) hj) cw_X5_renew cv_X5_renew wm_X8_249 (by omega) (ob_X5 hj) ⟨by decide, by decide⟩ (Nat.le_of_ble_eq_true rfl) rfl dX8_sheet_49 ?_
  refine V_iconst (q := 53) (v := 1) C rfl rfl dX8_sheet_52 ?_
  refine V_iret C hR dX8_sheet_53 ?_
  exact ⟨rfl, rfl⟩

set_option maxHeartbeats 4000000 in
set_option maxRecDepth 100000 in
theorem c_X8_put_u {l : Launch} {D : DD} {ad : Nat → Nat} (σ : ST) (k i v : Int32) (h : ¬ isT 4 k) : Ct l yX8_put cX8_put 5 (Option.some FieldType.int) 1 22 D ad [.ref (ad 0), .int k, .int i, .int v] σ (ex (some (.int (-1))) (setf σ 0 8 0)) := by
  refine Ct.of2 [.ref (ad 0), .int k, .int i, .int v, .float 0] rfl (Nat.le_of_ble_eq_true rfl) rfl ?_
  rintro X C rfl rfl rfl hxn hR
  have hn4 : 4 < xn X := by rw [← hxn]; decide
  refine V_aload_n_0 (q := 1) C rfl dX8_put_0 ?_
  refine V_iconst (q := 2) (v := 0) C rfl rfl dX8_put_1 ?_
  refine pf_X8_45 (q := 5) C rfl dX8_put_2 ?_
  refine V_aload_n_0 (q := 6) C rfl dX8_put_5 ?_
  refine V_iload_n_1 (q := 7) C rfl dX8_put_6 ?_
  refine V_cV1r (q := 10) C (c_X8_sheetOfN _ _ h) cw_X8_sheetOf cv_X8_sheetOf wm_X8_75 (by decide) ob_X8 ⟨by decide, by decide⟩ (Nat.le_of_ble_eq_true rfl) rfl dX8_put_7 ?_
  refine V_astoreN_4 (q := 12) C hn4 rfl rfl dX8_put_10 ?_
  refine V_aloadN_4 (q := 14) C rfl dX8_put_12 ?_
  refine V_ifnonnullN (q := 17) C rfl dX8_put_14 ?_
  refine V_iconst (q := 18) (v := (-1)) C rfl rfl dX8_put_17 ?_
  refine V_iret C hR dX8_put_18 ?_
  exact ⟨rfl, rfl⟩

def puF (σ : ST) (j : Nat) (i v : Int32) : Int32 × ST := if σ (2 + 2 * j) 1 = 0 then (-11, setf σ 0 8 1) else if ¬ hcC σ j i 1 then (-13, setf σ 0 8 3) else (1, setf (setf σ 0 8 0) (2 + 2 * j + 1) i.toNatClampNeg (cutL (σ (2 + 2 * j) 2) v))

set_option maxHeartbeats 4000000 in
set_option maxRecDepth 100000 in
theorem c_X8_put_v {l : Launch} {D : DD} {ad : Nat → Nat} (σ : ST) (j : Nat) (i v : Int32) (hj : j < 4) (L : Nat) (hL : σ (2 + 2 * j) 3 = nI L) (hL50 : L ≤ 50) : Ct l yX8_put cX8_put 5 (Option.some FieldType.int) 1 22 D ad [.ref (ad 0), .int (nI j), .int i, .int v] σ (ex (some (.int (puF σ j i v).1)) (puF σ j i v).2) := by
  refine Ct.of2 [.ref (ad 0), .int (nI j), .int i, .int v, .float 0] rfl (Nat.le_of_ble_eq_true rfl) rfl ?_
  rintro X C rfl rfl rfl hxn hR
  have hn4 : 4 < xn X := by rw [← hxn]; decide
  refine V_aload_n_0 (q := 1) C rfl dX8_put_0 ?_
  refine V_iconst (q := 2) (v := 0) C rfl rfl dX8_put_1 ?_
  refine pf_X8_45 (q := 5) C rfl dX8_put_2 ?_
  refine V_aload_n_0 (q := 6) C rfl dX8_put_5 ?_
  refine V_iload_n_1 (q := 7) C rfl dX8_put_6 ?_
  refine V_cV1r (q := 10) C (c_X8_sheetOf _ j hj) cw_X8_sheetOf cv_X8_sheetOf wm_X8_75 (by decide) ob_X8 ⟨by decide, by decide⟩ (Nat.le_of_ble_eq_true rfl) rfl dX8_put_7 ?_
  refine V_astore_4 (q := 12) C hn4 rfl rfl dX8_put_10 ?_
  refine V_aload_4 (q := 14) C rfl dX8_put_12 ?_
  refine V_ifnonnull (tgt := 19) C (by decide) dX8_put_14 ?_
  refine V_aload_4 (q := 21) C rfl dX8_put_19 ?_
  refine gf_X8_90 (q := 24) C hj rfl dX8_put_21 ?_
  rw [f0_sh]
  refine V_if_ne (tgt := 33) C rfl (by decide) dX8_put_24 (fun c24 => ?_) (fun c24 => ?_)
  · refine V_aload_4 (q := 35) C rfl dX8_put_33 ?_
    refine V_iload_n_2 (q := 36) C rfl dX8_put_35 ?_
    refine V_iconst (q := 37) (v := 1) C rfl rfl dX8_put_36 ?_
    refine V_cV2r (q := 40) C (Ct.mono (v' := some (.int (pI (hcC σ j i 1)))) (c_X5_hasCells (setf σ 0 8 0) j i 1 hj) (by rw [f0_sh]) rfl) cw_X5_hasCells cv_X5_hasCells wm_X8_94 (by omega) (ob_X5 hj) ⟨by decide, by decide⟩ (Nat.le_of_ble_eq_true rfl) rfl dX8_put_37 ?_
    refine V_ifp_ne (tgt := 49) C rfl (by decide) dX8_put_40 (fun c40 => ?_) (fun c40 => ?_)
    · have hc := c40
      unfold hcC at hc
      rw [hL] at hc
      obtain ⟨t, m, et, em, htm⟩ := (hcN hL50).mp hc
      have htL : t < 50 := by have : m = 1 := ((nI_eq (b := 1) (by have := em; rcases Nat.lt_or_ge m (2 ^ 31) with h | h; exact h; exfalso; omega) (by decide)).mp em.symm); omega
      refine V_aload_4 (q := 51) C rfl dX8_put_49 ?_
      refine gf_X8_252 (q := 54) C hj rfl dX8_put_51 ?_
      refine V_iload_n_2 (q := 55) C rfl dX8_put_54 ?_
      refine V_aload_4 (q := 57) C rfl dX8_put_55 ?_
      refine V_iload_n_3 (q := 58) C rfl dX8_put_57 ?_
      refine V_cV1r (q := 61) C (Ct.mono (v' := some (.int (cutL (σ (2 + 2 * j) 2) v))) (c_X5_cutToLane (setf σ 0 8 0) j v hj) (by rw [f0_sh]) rfl) cw_X5_cutToLane cv_X5_cutToLane wm_X8_255 (by omega) (ob_X5 hj) ⟨by decide, by decide⟩ (Nat.le_of_ble_eq_true rfl) rfl dX8_put_58 ?_
      refine V_iast (q := 62) C t et (by rw [sh_al hj]; omega) (sh_ak hj) (by omega) (by rw [sh_al hj]; decide) rfl dX8_put_61 ?_
      refine V_iconst (q := 63) (v := 1) C rfl rfl dX8_put_62 ?_
      refine V_iret C hR dX8_put_63 ?_
      refine ⟨by unfold puF; rw [if_neg c24, if_neg (nn c40)], ?_⟩
      unfold puF
      rw [if_neg c24, if_neg (nn c40), et, nI_clamp (by omega)]
    · refine V_aload_n_0 (q := 44) C rfl dX8_put_43 ?_
      refine V_iconst (q := 45) (v := 3) C rfl rfl dX8_put_44 ?_
      refine V_cV1r (q := 48) C (Ct.mono (v' := some (.int (-13))) (τ' := setf σ 0 8 3) (c_X8_faulted _ 3) rfl setf_setf) cw_X8_faulted cv_X8_faulted wm_X8_86 (by decide) ob_X8 ⟨by decide, by decide⟩ (Nat.le_of_ble_eq_true rfl) rfl dX8_put_45 ?_
      refine V_iret C hR dX8_put_48 ?_
      refine ⟨by unfold puF; rw [if_neg c24, if_pos c40], ?_⟩
      unfold puF
      rw [if_neg c24, if_pos c40]
  · refine V_aload_n_0 (q := 28) C rfl dX8_put_27 ?_
    refine V_iconst (q := 29) (v := 1) C rfl rfl dX8_put_28 ?_
    refine V_cV1r (q := 32) C (Ct.mono (v' := some (.int (-11))) (τ' := setf σ 0 8 1) (c_X8_faulted _ 1) rfl setf_setf) cw_X8_faulted cv_X8_faulted wm_X8_86 (by decide) ob_X8 ⟨by decide, by decide⟩ (Nat.le_of_ble_eq_true rfl) rfl dX8_put_29 ?_
    refine V_iret C hR dX8_put_32 ?_
    have e0 : σ (2 + 2 * j) 1 = 0 := c24
    refine ⟨by unfold puF; rw [if_pos e0], ?_⟩
    unfold puF
    rw [if_pos e0]

theorem one_of {L m t : Nat} {i : Int32} (hL : L ≤ 50) (em : (1 : Int32) = nI m) (h : t + m ≤ L) : t < 50 := by
  have : m = 1 := ((nI_eq (b := 1) (by omega) (by decide)).mp em.symm)
  omega
end
section
/-! the class: its public calls, green keys, thieves, texts -/
set_option maxHeartbeats 4000000 in
set_option maxRecDepth 100000 in
theorem c_X8_orchard_u {l : Launch} {D : DD} {ad : Nat → Nat} (σ : ST) (k a i n : Int32) (h : ¬ isT 4 k) : Ct l yX8_orchard cX8_orchard 7 (Option.some FieldType.int) 4 87 D ad [.ref (ad 0), .int k, .int a, .int i, .int n] σ (ex (some (.int (-1))) (setf σ 0 8 0)) := by
  refine Ct.of2 [.ref (ad 0), .int k, .int a, .int i, .int n, .float 0, .float 0] rfl (Nat.le_of_ble_eq_true rfl) rfl ?_
  rintro X C rfl rfl rfl hxn hR
  have hn5 : 5 < xn X := by rw [← hxn]; decide
  refine V_aload_n_0 (q := 1) C rfl dX8_orchard_0 ?_
  refine V_iconst (q := 2) (v := 0) C rfl rfl dX8_orchard_1 ?_
  refine pf_X8_45 (q := 5) C rfl dX8_orchard_2 ?_
  refine V_aload_n_0 (q := 6) C rfl dX8_orchard_5 ?_
  refine V_iload_n_1 (q := 7) C rfl dX8_orchard_6 ?_
  refine V_cV1r (q := 10) C (c_X8_sheetOfN _ _ h) cw_X8_sheetOf cv_X8_sheetOf wm_X8_75 (by decide) ob_X8 ⟨by decide, by decide⟩ (Nat.le_of_ble_eq_true rfl) rfl dX8_orchard_7 ?_
  refine V_astoreN_5 (q := 12) C hn5 rfl rfl dX8_orchard_10 ?_
  refine V_aloadN_5 (q := 14) C rfl dX8_orchard_12 ?_
  refine V_ifnonnullN (q := 17) C rfl dX8_orchard_14 ?_
  refine V_iconst (q := 18) (v := (-1)) C rfl rfl dX8_orchard_17 ?_
  refine V_iret C hR dX8_orchard_18 ?_
  exact ⟨rfl, rfl⟩

set_option maxHeartbeats 4000000 in
set_option maxRecDepth 100000 in
theorem c_X8_orchard_o {l : Launch} {D : DD} {ad : Nat → Nat} (σ : ST) (j : Nat) (a i n : Int32) (hj : j < 4) (h : ¬ isT 3 a) : Ct l yX8_orchard cX8_orchard 7 (Option.some FieldType.int) 4 87 D ad [.ref (ad 0), .int (nI j), .int a, .int i, .int n] σ (ex (some (.int (-2))) (setf σ 0 8 0)) := by
  refine Ct.of2 [.ref (ad 0), .int (nI j), .int a, .int i, .int n, .float 0, .float 0] rfl (Nat.le_of_ble_eq_true rfl) rfl ?_
  rintro X C rfl rfl rfl hxn hR
  have hn5 : 5 < xn X := by rw [← hxn]; decide
  refine V_aload_n_0 (q := 1) C rfl dX8_orchard_0 ?_
  refine V_iconst (q := 2) (v := 0) C rfl rfl dX8_orchard_1 ?_
  refine pf_X8_45 (q := 5) C rfl dX8_orchard_2 ?_
  refine V_aload_n_0 (q := 6) C rfl dX8_orchard_5 ?_
  refine V_iload_n_1 (q := 7) C rfl dX8_orchard_6 ?_
  refine V_cV1r (q := 10) C (c_X8_sheetOf _ j hj) cw_X8_sheetOf cv_X8_sheetOf wm_X8_75 (by decide) ob_X8 ⟨by decide, by decide⟩ (Nat.le_of_ble_eq_true rfl) rfl dX8_orchard_7 ?_
  refine V_astore_5 (q := 12) C hn5 rfl rfl dX8_orchard_10 ?_
  refine V_aload_5 (q := 14) C rfl dX8_orchard_12 ?_
  refine V_ifnonnull (tgt := 19) C (by decide) dX8_orchard_14 ?_
  refine V_iload_n_2 (q := 20) C rfl dX8_orchard_19 ?_
  refine V_cS1r (q := 23) C (c_X8_isLane _ _) cw_X8_isLane cs_X8_isLane wm_X8_79 ⟨by decide, by decide⟩ (Nat.le_of_ble_eq_true rfl) rfl dX8_orchard_20 ?_
  refine V_ifp_ne_f (tgt := 29) C h rfl (by decide) dX8_orchard_23 ?_
  refine V_bipush (q := 28) (v := (-2)) C (by decide) rfl dX8_orchard_26 ?_
  refine V_iret C hR dX8_orchard_28 ?_
  exact ⟨rfl, rfl⟩

def orE (σ : ST) (j : Nat) (a n : Int32) : Int32 := if ¬ σ (2 + 2 * j) 1 = 0 ∧ ¬ σ (2 + 2 * j) 2 = a then 2 else if σ (2 + 2 * j) 1 = 0 then 1 else if n < 0 then 4 else 3

set_option maxHeartbeats 4000000 in
set_option maxRecDepth 100000 in
theorem c_X8_orchard_e {l : Launch} {D : DD} {ad : Nat → Nat} (σ : ST) (j : Nat) (a i n : Int32) (hj : j < 4) (h : isT 3 a) (hok : ¬ (¬ (¬ σ (2 + 2 * j) 1 = 0 ∧ ¬ σ (2 + 2 * j) 2 = a) ∧ ¬ σ (2 + 2 * j) 1 = 0 ∧ hcC σ j i n)) : Ct l yX8_orchard cX8_orchard 7 (Option.some FieldType.int) 4 87 D ad [.ref (ad 0), .int (nI j), .int a, .int i, .int n] σ (ex (some (.int (-10 - orE σ j a n))) (setf σ 0 8 (orE σ j a n))) := by
  refine Ct.of2 [.ref (ad 0), .int (nI j), .int a, .int i, .int n, .float 0, .float 0] rfl (Nat.le_of_ble_eq_true rfl) rfl ?_
  rintro X C rfl rfl rfl hxn hR
  have hn5 : 5 < xn X := by rw [← hxn]; decide
  refine V_aload_n_0 (q := 1) C rfl dX8_orchard_0 ?_
  refine V_iconst (q := 2) (v := 0) C rfl rfl dX8_orchard_1 ?_
  refine pf_X8_45 (q := 5) C rfl dX8_orchard_2 ?_
  refine V_aload_n_0 (q := 6) C rfl dX8_orchard_5 ?_
  refine V_iload_n_1 (q := 7) C rfl dX8_orchard_6 ?_
  refine V_cV1r (q := 10) C (c_X8_sheetOf _ j hj) cw_X8_sheetOf cv_X8_sheetOf wm_X8_75 (by decide) ob_X8 ⟨by decide, by decide⟩ (Nat.le_of_ble_eq_true rfl) rfl dX8_orchard_7 ?_
  refine V_astore_5 (q := 12) C hn5 rfl rfl dX8_orchard_10 ?_
  refine V_aload_5 (q := 14) C rfl dX8_orchard_12 ?_
  refine V_ifnonnull (tgt := 19) C (by decide) dX8_orchard_14 ?_
  refine V_iload_n_2 (q := 20) C rfl dX8_orchard_19 ?_
  refine V_cS1r (q := 23) C (c_X8_isLane _ _) cw_X8_isLane cs_X8_isLane wm_X8_79 ⟨by decide, by decide⟩ (Nat.le_of_ble_eq_true rfl) rfl dX8_orchard_20 ?_
  refine V_ifp_ne_t (tgt := 29) C h (by decide) dX8_orchard_23 ?_
  refine V_aload_5 (q := 31) C rfl dX8_orchard_29 ?_
  refine V_iload_n_2 (q := 32) C rfl dX8_orchard_31 ?_
  refine V_cV1r (q := 35) C (Ct.mono (v' := some (.int (pI (¬ σ (2 + 2 * j) 1 = 0 ∧ ¬ σ (2 + 2 * j) 2 = a)))) (c_X5_isOfOtherLane (setf σ 0 8 0) j a hj) (by rw [f0_sh]) rfl) cw_X5_isOfOtherLane cv_X5_isOfOtherLane wm_X8_83 (by omega) (ob_X5 hj) ⟨by decide, by decide⟩ (Nat.le_of_ble_eq_true rfl) rfl dX8_orchard_32 ?_
  refine V_ifp_eq (tgt := 44) C rfl (by decide) dX8_orchard_35 (fun c35 => ?_) (fun c35 => ?_)
  · refine V_aload_5 (q := 46) C rfl dX8_orchard_44 ?_
    refine gf_X8_90 (q := 49) C hj rfl dX8_orchard_46 ?_
    rw [f0_sh]
    refine V_if_ne (tgt := 58) C rfl (by decide) dX8_orchard_49 (fun c49 => ?_) (fun c49 => ?_)
    · refine V_iload_4 (q := 60) C rfl dX8_orchard_58 ?_
      refine V_if_ge (tgt := 69) C rfl (by decide) dX8_orchard_60 (fun c60 => ?_) (fun c60 => ?_)
      · refine V_aload_5 (q := 71) C rfl dX8_orchard_69 ?_
        refine V_iload_n_3 (q := 72) C rfl dX8_orchard_71 ?_
        refine V_iload_4 (q := 74) C rfl dX8_orchard_72 ?_
        refine V_cV2r (q := 77) C (Ct.mono (v' := some (.int (pI (hcC σ j i n)))) (c_X5_hasCells (setf σ 0 8 0) j i n hj) (by rw [f0_sh]) rfl) cw_X5_hasCells cv_X5_hasCells wm_X8_94 (by omega) (ob_X5 hj) ⟨by decide, by decide⟩ (Nat.le_of_ble_eq_true rfl) rfl dX8_orchard_74 ?_
        refine V_ifp_ne (tgt := 86) C rfl (by decide) dX8_orchard_77 (fun c77 => ?_) (fun c77 => ?_)
        · exact absurd ⟨c35, c49, c77⟩ hok
        · refine V_aload_n_0 (q := 81) C rfl dX8_orchard_80 ?_
          refine V_iconst (q := 82) (v := 3) C rfl rfl dX8_orchard_81 ?_
          refine V_cV1r (q := 85) C (Ct.mono (v' := some (.int (-10 - 3))) (τ' := setf σ 0 8 3) (c_X8_faulted _ 3) rfl setf_setf) cw_X8_faulted cv_X8_faulted wm_X8_86 (by decide) ob_X8 ⟨by decide, by decide⟩ (Nat.le_of_ble_eq_true rfl) rfl dX8_orchard_82 ?_
          refine V_iret C hR dX8_orchard_85 ?_
          have e0 : ¬ n < 0 := Int32.not_lt.mpr c60
          exact ⟨by unfold orE; rw [if_neg c35, if_neg c49, if_neg e0], by unfold orE; rw [if_neg c35, if_neg c49, if_neg e0]⟩
      · refine V_aload_n_0 (q := 64) C rfl dX8_orchard_63 ?_
        refine V_iconst (q := 65) (v := 4) C rfl rfl dX8_orchard_64 ?_
        refine V_cV1r (q := 68) C (Ct.mono (v' := some (.int (-10 - 4))) (τ' := setf σ 0 8 4) (c_X8_faulted _ 4) rfl setf_setf) cw_X8_faulted cv_X8_faulted wm_X8_86 (by decide) ob_X8 ⟨by decide, by decide⟩ (Nat.le_of_ble_eq_true rfl) rfl dX8_orchard_65 ?_
        refine V_iret C hR dX8_orchard_68 ?_
        have e0 : n < 0 := Int32.not_le.mp c60
        exact ⟨by unfold orE; rw [if_neg c35, if_neg c49, if_pos e0], by unfold orE; rw [if_neg c35, if_neg c49, if_pos e0]⟩
    · refine V_aload_n_0 (q := 53) C rfl dX8_orchard_52 ?_
      refine V_iconst (q := 54) (v := 1) C rfl rfl dX8_orchard_53 ?_
      refine V_cV1r (q := 57) C (Ct.mono (v' := some (.int (-10 - 1))) (τ' := setf σ 0 8 1) (c_X8_faulted _ 1) rfl setf_setf) cw_X8_faulted cv_X8_faulted wm_X8_86 (by decide) ob_X8 ⟨by decide, by decide⟩ (Nat.le_of_ble_eq_true rfl) rfl dX8_orchard_54 ?_
      refine V_iret C hR dX8_orchard_57 ?_
      have e0 : σ (2 + 2 * j) 1 = 0 := c49
      exact ⟨by unfold orE; rw [if_neg c35, if_pos e0], by unfold orE; rw [if_neg c35, if_pos e0]⟩
  · refine V_aload_n_0 (q := 39) C rfl dX8_orchard_38 ?_
    refine V_iconst (q := 40) (v := 2) C rfl rfl dX8_orchard_39 ?_
    refine V_cV1r (q := 43) C (Ct.mono (v' := some (.int (-10 - 2))) (τ' := setf σ 0 8 2) (c_X8_faulted _ 2) rfl setf_setf) cw_X8_faulted cv_X8_faulted wm_X8_86 (by decide) ob_X8 ⟨by decide, by decide⟩ (Nat.le_of_ble_eq_true rfl) rfl dX8_orchard_40 ?_
    refine V_iret C hR dX8_orchard_43 ?_
    exact ⟨by unfold orE; rw [if_pos c35], by unfold orE; rw [if_pos c35]⟩

def orT (σ : ST) (j s m : Nat) : ST := setf (setc (setf σ 0 8 0) 11 (va_cpy (σ (2 + 2 * j + 1)) (σ 11) s 0 m)) 10 1 (nI m)
def orP (σ : ST) (j s m : Nat) : ST := setf (setf (setf (setc (setc (plC (ffS (orT σ j s m) (ffR (orT σ j s m) m).2.1 (ffR (orT σ j s m) m).2.2) m (ffR (orT σ j s m) m).2.1 (ffR (orT σ j s m) m).2.2 (ffR (orT σ j s m) m).2.1) 22 (fun _ => 0)) 23 (fun _ => -9)) 21 4 0) 21 5 0) 26 3 0
def orQ (σ : ST) (j s m : Nat) (v : Int32) (τ : ST) : Prop := if (ffR (orT σ j s m) m).1 = -1 then v = nI (ffR (orT σ j s m) m).2.1 ∧ τ = orP σ j s m else v = -100 - (ffR (orT σ j s m) m).1 ∧ Kp (setf σ 0 8 0) τ
theorem ffA_le {σ : ST} {n : Nat} : ∀ f m : Nat, (ffA σ n f m).1 ≤ m + f := by
  intro f
  induction f with
  | zero => intro m; exact Nat.le_refl _
  | succ f ih =>
    intro m
    rw [ffA_s]
    have := ih (m + 1)
    split
    · show m ≤ _; omega
    · split
      · show m ≤ _; omega
      · split
        · show m ≤ _; omega
        · omega
theorem ffB_le {σ : ST} {n q : Nat} : ∀ f m : Nat, (ffB σ n q f m).1 ≤ m + f := by
  intro f
  induction f with
  | zero => intro m; exact Nat.le_refl _
  | succ f ih =>
    intro m
    rw [ffB_s]
    have := ih (m + 1)
    split
    · show m ≤ _; omega
    · split
      · show m ≤ _; omega
      · split
        · show m ≤ _; omega
        · split
          · show m ≤ _; omega
          · omega
theorem ffR_le {σ : ST} {n : Nat} : (ffR σ n).2.1 ≤ 6 ∧ (ffR σ n).2.2 ≤ 6 := by
  unfold ffR
  have hA := ffA_le (σ := σ) (n := n) 6 0
  split
  · exact ⟨Nat.zero_le _, Nat.zero_le _⟩
  · split
    next m k e => rw [e] at hA; exact ⟨by show m ≤ 6; omega, Nat.zero_le _⟩
    next m e =>
      rw [e] at hA
      split
      · exact ⟨Nat.zero_le _, Nat.zero_le _⟩
      · have hB := ffB_le (σ := σ) (n := n) (q := 1 + 3 * m) 6 0
        split
        next b k e2 => rw [e2] at hB; exact ⟨by show m ≤ 6; omega, by show b ≤ 6; omega⟩
        next b e2 =>
          rw [e2] at hB
          split
          · exact ⟨by show m ≤ 6; omega, by show b ≤ 6; omega⟩
          · exact ⟨by show m ≤ 6; omega, by show b ≤ 6; omega⟩

set_option maxHeartbeats 4000000 in
set_option maxRecDepth 100000 in
theorem c_X8_orchard_v {l : Launch} {D : DD} {ad : Nat → Nat} (σ : ST) (j s m : Nat) (a : Int32) (hj : j < 4) (h : isT 3 a) (hr : ¬ σ (2 + 2 * j) 1 = 0) (hla : σ (2 + 2 * j) 2 = a) (L : Nat) (hL : σ (2 + 2 * j) 3 = nI L) (hL50 : L ≤ 50) (hsm : s + m ≤ L) : Ct l yX8_orchard cX8_orchard 7 (Option.some FieldType.int) 4 87 D ad [.ref (ad 0), .int (nI j), .int a, .int (nI s), .int (nI m)] σ (pq (orQ σ j s m)) := by
  refine Ct.of2 [.ref (ad 0), .int (nI j), .int a, .int (nI s), .int (nI m), .float 0, .float 0] rfl (Nat.le_of_ble_eq_true rfl) rfl ?_
  rintro X C rfl rfl rfl hxn hR
  have hn5 : 5 < xn X := by rw [← hxn]; decide
  have hn6 : 6 < xn X := by rw [← hxn]; decide
  refine V_aload_n_0 (q := 1) C rfl dX8_orchard_0 ?_
  refine V_iconst (q := 2) (v := 0) C rfl rfl dX8_orchard_1 ?_
  refine pf_X8_45 (q := 5) C rfl dX8_orchard_2 ?_
  refine V_aload_n_0 (q := 6) C rfl dX8_orchard_5 ?_
  refine V_iload_n_1 (q := 7) C rfl dX8_orchard_6 ?_
  refine V_cV1r (q := 10) C (c_X8_sheetOf _ j hj) cw_X8_sheetOf cv_X8_sheetOf wm_X8_75 (by decide) ob_X8 ⟨by decide, by decide⟩ (Nat.le_of_ble_eq_true rfl) rfl dX8_orchard_7 ?_
  refine V_astore_5 (q := 12) C hn5 rfl rfl dX8_orchard_10 ?_
  refine V_aload_5 (q := 14) C rfl dX8_orchard_12 ?_
  refine V_ifnonnull (tgt := 19) C (by decide) dX8_orchard_14 ?_
  refine V_iload_n_2 (q := 20) C rfl dX8_orchard_19 ?_
  refine V_cS1r (q := 23) C (c_X8_isLane _ _) cw_X8_isLane cs_X8_isLane wm_X8_79 ⟨by decide, by decide⟩ (Nat.le_of_ble_eq_true rfl) rfl dX8_orchard_20 ?_
  refine V_ifp_ne_t (tgt := 29) C h (by decide) dX8_orchard_23 ?_
  refine V_aload_5 (q := 31) C rfl dX8_orchard_29 ?_
  refine V_iload_n_2 (q := 32) C rfl dX8_orchard_31 ?_
  refine V_cV1r (q := 35) C (Ct.mono (v' := some (.int (pI (¬ σ (2 + 2 * j) 1 = 0 ∧ ¬ σ (2 + 2 * j) 2 = a)))) (c_X5_isOfOtherLane (setf σ 0 8 0) j a hj) (by rw [f0_sh]) rfl) cw_X5_isOfOtherLane cv_X5_isOfOtherLane wm_X8_83 (by omega) (ob_X5 hj) ⟨by decide, by decide⟩ (Nat.le_of_ble_eq_true rfl) rfl dX8_orchard_32 ?_
  refine V_ifp_eq_t (tgt := 44) C (fun q => q.2 hla) (by decide) dX8_orchard_35 ?_
  refine V_aload_5 (q := 46) C rfl dX8_orchard_44 ?_
  refine gf_X8_90 (q := 49) C hj rfl dX8_orchard_46 ?_
  rw [f0_sh]
  refine V_if_ne_t (tgt := 58) C hr (by decide) dX8_orchard_49 ?_
  refine V_iload_4 (q := 60) C rfl dX8_orchard_58 ?_
  refine V_if_ge_t (tgt := 69) C (nI_pos' (by omega)) (by decide) dX8_orchard_60 ?_
  refine V_aload_5 (q := 71) C rfl dX8_orchard_69 ?_
  refine V_iload_n_3 (q := 72) C rfl dX8_orchard_71 ?_
  refine V_iload_4 (q := 74) C rfl dX8_orchard_72 ?_
  refine V_cV2r (q := 77) C (Ct.mono (v' := some (.int (pI (hcC σ j (nI s) (nI m))))) (c_X5_hasCells (setf σ 0 8 0) j (nI s) (nI m) hj) (by rw [f0_sh]) rfl) cw_X5_hasCells cv_X5_hasCells wm_X8_94 (by omega) (ob_X5 hj) ⟨by decide, by decide⟩ (Nat.le_of_ble_eq_true rfl) rfl dX8_orchard_74 ?_
  refine V_ifp_ne_t (tgt := 86) C (by unfold hcC; rw [hL]; exact (hcN hL50).mpr ⟨s, m, rfl, rfl, hsm⟩) (by decide) dX8_orchard_77 ?_
  refine V_aload_n_0 (q := 87) C rfl dX8_orchard_86 ?_
  refine gf_X8_20 (q := 90) C rfl dX8_orchard_87 ?_
  refine V_aload_5 (q := 92) C rfl dX8_orchard_90 ?_
  refine V_iload_n_3 (q := 93) C rfl dX8_orchard_92 ?_
  refine V_iload_4 (q := 95) C rfl dX8_orchard_93 ?_
  refine V_cV3v (q := 98) C (Ct.mono (v' := none) (τ' := orT σ j s m) (c_X6_take (setf σ 0 8 0) j s m hj (by omega)) (rfl) (by rw [f0_sc]; rfl)) cw_X6_take cv_X6_take wm_X8_98 (by decide) ob_X6 ⟨by decide, by decide⟩ (Nat.le_of_ble_eq_true rfl) rfl dX8_orchard_95 ?_
  refine V_aload_n_0 (q := 99) C rfl dX8_orchard_98 ?_
  refine gf_X8_20 (q := 102) C rfl dX8_orchard_99 ?_
  refine V_cV0r (q := 105) C (c_X6_firstFault (orT σ j s m) m rfl (by omega)) cw_X6_firstFault cv_X6_firstFault wm_X8_102 (by decide) ob_X6 ⟨by decide, by decide⟩ (Nat.le_of_ble_eq_true rfl) rfl dX8_orchard_102 ?_
  refine V_istore_6 (q := 107) C hn6 rfl rfl dX8_orchard_105 ?_
  refine V_iload_6 (q := 109) C rfl dX8_orchard_107 ?_
  refine V_iconst (q := 110) (v := (-1)) C rfl rfl dX8_orchard_109 ?_
  refine V_icmp_eq (tgt := 119) C rfl (by decide) dX8_orchard_110 (fun c110 => ?_) (fun c110 => ?_)
  · refine V_aload_n_0 (q := 120) C rfl dX8_orchard_119 ?_
    refine gf_X8_57 (q := 123) C rfl dX8_orchard_120 ?_
    refine V_aload_n_0 (q := 124) C rfl dX8_orchard_123 ?_
    refine gf_X8_20 (q := 127) C rfl dX8_orchard_124 ?_
    refine V_cV1v (q := 130) C (c_X1_plant (ffS (orT σ j s m) (ffR (orT σ j s m) m).2.1 (ffR (orT σ j s m) m).2.2) m (ffR (orT σ j s m) m).2.1 (ffR (orT σ j s m) m).2.2 rfl (by omega) rfl ffR_le.1 rfl ffR_le.2) cw_X1_plant cv_X1_plant wm_X8_106 (by decide) ob_X1 ⟨by decide, by decide⟩ (Nat.le_of_ble_eq_true rfl) rfl dX8_orchard_127 ?_
    refine V_aload_n_0 (q := 131) C rfl dX8_orchard_130 ?_
    refine gf_X8_27 (q := 134) C rfl dX8_orchard_131 ?_
    refine V_cV0v (q := 137) C (c_X7_clear _) cw_X7_clear cv_X7_clear wm_X8_110 (by decide) ob_X7 ⟨by decide, by decide⟩ (Nat.le_of_ble_eq_true rfl) rfl dX8_orchard_134 ?_
    refine V_aload_n_0 (q := 138) C rfl dX8_orchard_137 ?_
    refine gf_X8_34 (q := 141) C rfl dX8_orchard_138 ?_
    refine V_iconst (q := 142) (v := 0) C rfl rfl dX8_orchard_141 ?_
    refine pf_X8_113 (q := 145) C rfl dX8_orchard_142 ?_
    refine V_aload_n_0 (q := 146) C rfl dX8_orchard_145 ?_
    refine gf_X8_57 (q := 149) C rfl dX8_orchard_146 ?_
    refine gf_X8_116 (q := 152) C rfl dX8_orchard_149 ?_
    refine V_iret C hR dX8_orchard_152 ?_
    refine ⟨_, rfl, ?_⟩
    unfold orQ
    rw [if_pos c110]
    exact ⟨rfl, rfl⟩
  · refine V_bipush (q := 115) (v := (-100)) C (by decide) rfl dX8_orchard_113 ?_
    refine V_iload_6 (q := 117) C rfl dX8_orchard_115 ?_
    refine V_isub (q := 118) C rfl dX8_orchard_117 ?_
    refine V_iret C hR dX8_orchard_118 ?_
    refine ⟨_, rfl, ?_⟩
    unfold orQ
    rw [if_neg c110]
    refine ⟨rfl, fun k hk => ?_⟩
    unfold scr at hk
    unfold ffS orT setf
    rw [setc_n (by omega), setc_n (by omega), setc_n (by omega), setc_n (by omega)]
end
section
/-! bits of a number as places of its word -/
theorem amt32 {i : Nat} (h : i < 32) : (nI i &&& 31).toBitVec.smod 32 = BitVec.ofNat 32 i := by
  have hh : ∀ j : Fin 32, (nI j.val &&& 31).toBitVec.smod 32 = BitVec.ofNat 32 j.val := by decide
  exact hh ⟨i, h⟩
theorem lsb1 {y : BitVec 32} : y &&& 1#32 = 0#32 ↔ y.getLsbD 0 = false := by
  constructor
  · intro h
    have h1 := congrArg (fun z : BitVec 32 => z.getLsbD 0) h
    simpa using h1
  · intro h
    refine BitVec.eq_of_getLsbD_eq fun i hi => ?_
    rw [BitVec.getLsbD_and]
    rcases Nat.eq_zero_or_pos i with e | e
    · subst e; rw [h]; rfl
    · rw [show (1#32).getLsbD i = false from by rw [BitVec.getLsbD_one]; simp; omega]
      simp
theorem bit_lsb {x : Int32} {i : Nat} (h : i < 32) : bit x (nI i) ↔ x.toBitVec.getLsbD i = true := by
  have e : ((x >>> (nI i &&& 31)) &&& 1 = 0) ↔ x.toBitVec.getLsbD i = false := by
    rw [← Int32.toBitVec_inj, Int32.toBitVec_and, Int32.toBitVec_shiftRight, amt32 h]
    show (x.toBitVec.sshiftRight' (BitVec.ofNat 32 i)) &&& 1#32 = 0#32 ↔ _
    rw [lsb1, BitVec.sshiftRight', BitVec.toNat_ofNat, Nat.mod_eq_of_lt (by omega), BitVec.getLsbD_sshiftRight]
    simp [h]
  unfold bit
  rw [e]
  simp
theorem own_lsb {i j : Nat} (hi : i < 32) (hj : j < 32) : (own1 (nI i)).toBitVec.getLsbD j = true ↔ j = i := by
  have hh : ∀ a b : Fin 32, (own1 (nI a.val)).toBitVec.getLsbD b.val = true ↔ b.val = a.val := by decide
  exact hh ⟨i, hi⟩ ⟨j, hj⟩
theorem bit_and {x y : Int32} {i : Nat} (h : i < 32) : bit (x &&& y) (nI i) ↔ bit x (nI i) ∧ bit y (nI i) := by
  rw [bit_lsb h, bit_lsb h, bit_lsb h, Int32.toBitVec_and, BitVec.getLsbD_and, Bool.and_eq_true]
theorem bit_or {x y : Int32} {i : Nat} (h : i < 32) : bit (x ||| y) (nI i) ↔ bit x (nI i) ∨ bit y (nI i) := by
  rw [bit_lsb h, bit_lsb h, bit_lsb h, Int32.toBitVec_or, BitVec.getLsbD_or, Bool.or_eq_true]
theorem bit_not {x : Int32} {i : Nat} (h : i < 32) : bit (x ^^^ -1) (nI i) ↔ ¬ bit x (nI i) := by
  have e : (-1 : Int32).toBitVec.getLsbD i = true := by
    have hh : ∀ a : Fin 32, (-1 : Int32).toBitVec.getLsbD a.val = true := by decide
    exact hh ⟨i, h⟩
  rw [bit_lsb h, bit_lsb h, Int32.toBitVec_xor, BitVec.getLsbD_xor, e]
  simp
theorem bit_xor {x y : Int32} {i : Nat} (h : i < 32) : bit (x ^^^ y) (nI i) ↔ ¬ (bit x (nI i) ↔ bit y (nI i)) := by
  rw [bit_lsb h, bit_lsb h, bit_lsb h, Int32.toBitVec_xor, BitVec.getLsbD_xor]
  cases x.toBitVec.getLsbD i <;> cases y.toBitVec.getLsbD i <;> simp
theorem bit_own {i j : Nat} (hi : i < 32) (hj : j < 32) : bit (own1 (nI i)) (nI j) ↔ j = i := by
  rw [bit_lsb hj, own_lsb hi hj]
theorem bit_0 {i : Nat} (h : i < 32) : ¬ bit 0 (nI i) := by
  rw [bit_lsb h]
  have hh : ∀ a : Fin 32, ¬ (0 : Int32).toBitVec.getLsbD a.val = true := by decide
  exact hh ⟨i, h⟩
theorem bit_ext {x y : Int32} (h : ∀ i, i < 32 → (bit x (nI i) ↔ bit y (nI i))) : x = y := by
  rw [← Int32.toBitVec_inj]
  refine BitVec.eq_of_getLsbD_eq fun i hi => ?_
  have := h i hi
  rw [bit_lsb hi, bit_lsb hi] at this
  exact Bool.eq_iff_iff.mpr this
theorem bit_ne0 {x : Int32} : ¬ x = 0 ↔ ∃ i, i < 32 ∧ bit x (nI i) := by
  constructor
  · intro h
    rcases Classical.em (∃ i, i < 32 ∧ bit x (nI i)) with h2 | h2
    · exact h2
    · exact absurd (bit_ext fun i hi => ⟨fun q => absurd ⟨i, hi, q⟩ h2, fun q => absurd q (bit_0 hi)⟩) h
  · rintro ⟨i, hi, q⟩ h
    subst h
    exact bit_0 hi q
theorem bit_setB {q : Nat → Prop} [DecidablePred q] : ∀ n : Nat, n ≤ 32 → ∀ i, i < 32 → (bit (setB q n) (nI i) ↔ i < n ∧ q i) := by
  intro n
  induction n with
  | zero => intro _ i hi; exact ⟨fun h => absurd h (bit_0 hi), fun h => absurd h.1 (Nat.not_lt_zero _)⟩
  | succ n ih =>
    intro hn i hi
    have h1 := ih (by omega) i hi
    show bit (if q n then setB q n ||| own1 (nI n) else setB q n) (nI i) ↔ _
    by_cases hq : q n
    · rw [if_pos hq, bit_or hi, h1, bit_own (by omega) hi]
      constructor
      · rintro (⟨a, b⟩ | rfl)
        · exact ⟨by omega, b⟩
        · exact ⟨by omega, hq⟩
      · rintro ⟨a, b⟩
        by_cases e : i = n
        · exact Or.inr e
        · exact Or.inl ⟨by omega, b⟩
    · rw [if_neg hq, h1]
      constructor
      · rintro ⟨a, b⟩; exact ⟨by omega, b⟩
      · rintro ⟨a, b⟩
        by_cases e : i = n
        · subst e; exact absurd b hq
        · exact ⟨by omega, b⟩
theorem bit_ones {n i : Nat} (hn : n ≤ 6) (hi : i < 32) : bit (ones (nI n)) (nI i) ↔ i < n := by
  rw [bit_lsb hi]
  have hh : ∀ (a : Fin 7) (b : Fin 32), (ones (nI a.val)).toBitVec.getLsbD b.val = true ↔ b.val < a.val := by decide
  exact hh ⟨n, by omega⟩ ⟨i, hi⟩
theorem and1_01 {x : Int32} : x &&& 1 = 0 ∨ x &&& 1 = 1 := by
  have e : ∀ b : Bool, b = true ∨ b = false := by decide
  rcases e (x.toBitVec.getLsbD 0) with h | h
  · right
    rw [← Int32.toBitVec_inj, Int32.toBitVec_and]
    refine BitVec.eq_of_getLsbD_eq fun i hi => ?_
    show (x.toBitVec &&& 1#32).getLsbD i = (1#32).getLsbD i
    rw [BitVec.getLsbD_and]
    rcases Nat.eq_zero_or_pos i with e | e
    · subst e; rw [h]; rfl
    · rw [show (1#32).getLsbD i = false from by rw [BitVec.getLsbD_one]; simp; omega]
      simp
  · left
    rw [← Int32.toBitVec_inj, Int32.toBitVec_and]
    exact lsb1.mpr h
theorem bit_1 {x i : Int32} : (x >>> (i &&& 31)) &&& 1 = 1 ↔ bit x i := by
  unfold bit
  rcases and1_01 (x := x >>> (i &&& 31)) with h | h
  · rw [h]; exact ⟨fun q => absurd q (by decide), fun q => absurd rfl q⟩
  · rw [h]; exact ⟨fun _ => by decide, fun _ => rfl⟩
def szN : Nat → Nat → Nat
  | 0, _ => 0
  | f + 1, m => szN f (m / 2) + m % 2
theorem szN_0 : ∀ f : Nat, szN f 0 = 0 := by
  intro f
  induction f with
  | zero => rfl
  | succ f ih => show szN f (0 / 2) + 0 % 2 = 0; rw [Nat.zero_div, ih]
theorem szN_le : ∀ f m : Nat, szN f m ≤ f := by
  intro f
  induction f with
  | zero => intro m; exact Nat.le_refl _
  | succ f ih => intro m; show szN f (m / 2) + m % 2 ≤ f + 1; have := ih (m / 2); omega
theorem pop_sz {m : Nat} (h : m < 64) : popc (nI m) = nI (szN 6 m) := by
  have hh : ∀ a : Fin 64, popc (nI a.val) = nI (szN 6 a.val) := by decide
  exact hh ⟨m, h⟩
theorem sh1 {m : Nat} (h : m < 64) : nI m >>> (1 &&& 31) = nI (m / 2) := by
  have hh : ∀ a : Fin 64, nI a.val >>> (1 &&& 31) = nI (a.val / 2) := by decide
  exact hh ⟨m, h⟩
end
section
/-! THE MODEL OF THE DAYS: what the law's own arrays say, in words of their own -/
theorem upd_eq {k i : Nat} {f g : Nat → Int32} {x y : Int32} (hx : x = y) (h : f i = g i) : upd f k x i = upd g k y i := by
  unfold upd
  by_cases e : i = k
  · rw [if_pos e, if_pos e, hx]
  · rw [if_neg e, if_neg e, h]
theorem upd_at {f : Nat → Int32} {k : Nat} {x : Int32} : upd f k x k = x := if_pos rfl
theorem upd_ne {f : Nat → Int32} {k i : Nat} {x : Int32} (h : i ≠ k) : upd f k x i = f i := if_neg h
theorem setf_n {σ : ST} {k i j : Nat} {x : Int32} (h : j ≠ k) : setf σ k i x j = σ j := setc_n h
theorem nI_ne9 {k : Nat} (h : k < 2 ^ 31) : ¬ nI k = -9 := fun e => by
  have := congrArg Int32.toInt e
  rw [nI_toInt h] at this
  exact absurd this (by show ¬ ((k : Int) = -9); omega)
theorem fst?_congr {q r : Nat → Prop} [DecidablePred q] [DecidablePred r] : ∀ (f i : Nat), (∀ j, i ≤ j → j < i + f → (q j ↔ r j)) → fst? q f i = fst? r f i := by
  intro f
  induction f with
  | zero => intro i _; rfl
  | succ f ih =>
    intro i h
    show (if q i then some i else fst? q f (i + 1)) = (if r i then some i else fst? r f (i + 1))
    rw [ih (i + 1) (fun j h1 h2 => h j (by omega) (by omega))]
    by_cases hq : q i
    · rw [if_pos hq, if_pos ((h i (Nat.le_refl _) (by omega)).mp hq)]
    · rw [if_neg hq, if_neg (fun hr => hq ((h i (Nat.le_refl _) (by omega)).mpr hr))]
theorem fst?_lt {q : Nat → Prop} [DecidablePred q] : ∀ (f i k : Nat), fst? q f i = some k → i ≤ k ∧ k < i + f ∧ q k := by
  intro f
  induction f with
  | zero => intro i k h; cases h
  | succ f ih =>
    intro i k h
    have h2 : (if q i then some i else fst? q f (i + 1)) = some k := h
    by_cases hq : q i
    · rw [if_pos hq] at h2; cases h2; exact ⟨Nat.le_refl _, by omega, hq⟩
    · rw [if_neg hq] at h2
      have := ih (i + 1) k h2
      exact ⟨by omega, by omega, this.2.2⟩
theorem setB_cg {q r : Nat → Prop} [DecidablePred q] [DecidablePred r] {n : Nat} (hn : n ≤ 32) (h : ∀ i, i < n → (q i ↔ r i)) : setB q n = setB r n := bit_ext fun i hi => by
  rw [bit_setB n hn i hi, bit_setB n hn i hi]
  exact and_congr_right fun hin => h i hin
def wantM (k n : Int32) : Int32 := if k = 0 then n else if k = 1 then n + 1 else 2 * n + 2
def opM (k lk : Int32) : Int32 := if k = 2 then 63 else if k = 0 then own1 lk else own1 lk ||| own1 (remI (lk + 1) 6)
abbrev S3 : Type := (Nat → Int32) × (Nat → Int32) × (Nat → Int32)
def woM (σ : ST) (d : Nat) : Int32 := if σ 40 31 = -9 then σ 51 d else if nI d < σ 40 31 then σ 63 d else -9
def gwM (T : Nat) (f a x : Int32) (w : Nat → Int32) : Nat → Int32 := if ¬ f = 0 then w else if x = -9 then pre T (fun t => w t + a) w else upd (pre T (fun t => w t + a) w) x.toNatClampNeg (pre T (fun t => w t + a) w x.toNatClampNeg + 3)
abbrev ukQ (σ : ST) (j : Nat) (on : Nat → Int32) (p : Nat) : Prop := on p = -9 ∧ (opM (σ 44 j) (σ 45 j) >>> (σ 48 p &&& 31)) &&& 1 = 1
def ukM (σ : ST) (P j : Nat) (d : Int32) (s : S3) : S3 := match fst? (ukQ σ j s.2.1) P 0 with
  | some p => (upd s.1 j 0, upd s.2.1 p d, upd s.2.2 p (nI j))
  | none => s
def crM (σ : ST) (d : Nat) : Nat → (Nat → Int32) → Nat → Int32
  | 0, w => w
  | c + 1, w => if σ 58 c = nI d ∧ wantM (σ 44 (σ 59 c).toNatClampNeg) (σ 46 (σ 59 c).toNatClampNeg) ≤ crM σ d c w (σ 59 c).toNatClampNeg then upd (crM σ d c w) (σ 59 c).toNatClampNeg 0 else crM σ d c w
def kyM (σ : ST) (P d : Nat) : Nat → S3 → S3
  | 0, s => s
  | t + 1, s => if σ 47 t = 0 ∧ wantM (σ 44 t) (σ 46 t) ≤ (kyM σ P d t s).1 t then ukM σ P t (nI d) (kyM σ P d t s) else kyM σ P d t s
def tmM (σ : ST) (d : Nat) (o : Nat → Int32) (p : Nat) : Int32 := if o p = -9 ∧ σ 49 p = nI d then nI d else o p
def md1 (σ : ST) (T d : Nat) (s : S3) : S3 := (gwM T (σ 52 d) (σ 50 d) (woM σ d) s.1, s.2)
def md2 (σ : ST) (C d : Nat) (s : S3) : S3 := (crM σ d C s.1, s.2)
def md4 (σ : ST) (P d : Nat) (s : S3) : S3 := (s.1, pre P (tmM σ d s.2.1) s.2.1, s.2.2)
def mDay (σ : ST) (T P C d : Nat) (s : S3) : S3 := md4 σ P d (kyM σ P d T (md2 σ C d (md1 σ T d s)))
def mDays (σ : ST) (T P C : Nat) : Nat → S3 → S3
  | 0, s => s
  | n + 1, s => mDay σ T P C n (mDays σ T P C n s)
theorem crM_s {σ : ST} {d c : Nat} {w : Nat → Int32} : crM σ d (c + 1) w = if σ 58 c = nI d ∧ wantM (σ 44 (σ 59 c).toNatClampNeg) (σ 46 (σ 59 c).toNatClampNeg) ≤ crM σ d c w (σ 59 c).toNatClampNeg then upd (crM σ d c w) (σ 59 c).toNatClampNeg 0 else crM σ d c w := rfl
theorem kyM_s {σ : ST} {P d t : Nat} {s : S3} : kyM σ P d (t + 1) s = if σ 47 t = 0 ∧ wantM (σ 44 t) (σ 46 t) ≤ (kyM σ P d t s).1 t then ukM σ P t (nI d) (kyM σ P d t s) else kyM σ P d t s := rfl
def mc0 : S3 := (fun _ => 0, fun _ => -9, fun _ => -9)
def mDC (σ : ST) (T P C N : Nat) : S3 := mDays σ T P C N mc0
/-! the law's arrays as such a model: g, rain, wet, frost -/
def vL (g rn wt fr : Nat → Int32) : ST := fun k => match k with
  | 40 => fun i => if i = 31 then -9 else 0
  | 44 => fun t => g (3 + t)
  | 45 => fun t => g (9 + t)
  | 46 => fun t => g (15 + t)
  | 47 => fun t => (g 21 >>> (nI t &&& 31)) &&& 1
  | 48 => fun p => g (22 + p)
  | 49 => fun p => g (28 + p)
  | 50 => rn
  | 51 => wt
  | 52 => fr
  | 58 => fun c => g (34 + 2 * c)
  | 59 => fun c => g (35 + 2 * c)
  | _ => fun _ => 0
abbrev vM (σ : ST) : ST := vL (σ 40) (σ 41) (σ 42) (σ 43)
/-- the row r as the law keeps it: water 0 .. 5, the day on which one is out 6 .. 11, by which tree 12 .. 17 -/
def rOf (m : S3) : Nat → Int32 := fun k => if k < 6 then m.1 k else if k < 12 then m.2.1 (k - 6) else m.2.2 (k - 12)
theorem rOf_w {m : S3} {t : Nat} (h : t < 6) : rOf m t = m.1 t := if_pos h
theorem rOf_o {m : S3} {p : Nat} (h : p < 6) : rOf m (6 + p) = m.2.1 p := by
  unfold rOf
  rw [if_neg (by omega), if_pos (by omega), show 6 + p - 6 = p by omega]
theorem rOf_b {m : S3} {p : Nat} : rOf m (12 + p) = m.2.2 p := by
  unfold rOf
  rw [if_neg (by omega), if_neg (by omega), show 12 + p - 12 = p by omega]
theorem rset {σ : ST} {m m2 : S3} {k : Nat} {x : Int32} (h : upd (rOf m) k x = rOf m2) : setf (setc σ 44 (rOf m)) 44 k x = setc σ 44 (rOf m2) := by
  unfold setf
  rw [setc_s, setc_setc, h]
theorem rset_w {σ : ST} {m m2 : S3} {t : Nat} {x : Int32} (ht : t < 6) (h : (upd m.1 t x, m.2) = m2) : setf (setc σ 44 (rOf m)) 44 t x = setc σ 44 (rOf m2) := by
  refine rset (funext fun k => ?_)
  subst h
  unfold rOf upd
  dsimp only
  by_cases e : k = t
  · subst e; rw [if_pos rfl, if_pos ht]; exact (if_pos rfl).symm
  · rw [if_neg e]
    by_cases h6 : k < 6
    · rw [if_pos h6, if_pos h6]; exact (if_neg e).symm
    · rw [if_neg h6, if_neg h6]
theorem rset_o {σ : ST} {m m2 : S3} {p : Nat} {x : Int32} (hp : p < 6) (h : (m.1, upd m.2.1 p x, m.2.2) = m2) : setf (setc σ 44 (rOf m)) 44 (6 + p) x = setc σ 44 (rOf m2) := by
  refine rset (funext fun k => ?_)
  subst h
  unfold rOf upd
  dsimp only
  by_cases e : k = 6 + p
  · subst e; rw [if_pos rfl, if_neg (by omega), if_pos (by omega)]; exact (if_pos (by omega)).symm
  · rw [if_neg e]
    by_cases h6 : k < 6
    · rw [if_pos h6, if_pos h6]
    · rw [if_neg h6, if_neg h6]
      by_cases h12 : k < 12
      · rw [if_pos h12, if_pos h12]; exact (if_neg (by omega)).symm
      · rw [if_neg h12, if_neg h12]
theorem rset_b {σ : ST} {m m2 : S3} {p : Nat} {x : Int32} (h : (m.1, m.2.1, upd m.2.2 p x) = m2) : setf (setc σ 44 (rOf m)) 44 (12 + p) x = setc σ 44 (rOf m2) := by
  refine rset (funext fun k => ?_)
  subst h
  unfold rOf upd
  dsimp only
  by_cases e : k = 12 + p
  · subst e; rw [if_pos rfl, if_neg (by omega), if_neg (by omega)]; exact (if_pos (by omega)).symm
  · rw [if_neg e]
    by_cases h6 : k < 6
    · rw [if_pos h6, if_pos h6]
    · rw [if_neg h6, if_neg h6]
      by_cases h12 : k < 12
      · rw [if_pos h12, if_pos h12]
      · rw [if_neg h12, if_neg h12]; exact (if_neg (by omega)).symm
/-! the water of a day, tree by tree -/
def gwL (μ : ST) (d : Nat) (w : Nat → Int32) (t : Nat) : Int32 := w t + (μ 50 d + if μ 51 d = nI t then 3 else 0)
def gwA (μ : ST) (d i : Nat) (m : S3) : S3 := (if μ 52 d = 0 then pre i (gwL μ d m.1) m.1 else m.1, m.2)
theorem gwA_0 {μ : ST} {d : Nat} {m : S3} : gwA μ d 0 m = m := by
  unfold gwA
  rw [pre_0]
  split <;> rfl
theorem gwA_n {μ : ST} {d i j : Nat} {m : S3} (h : ¬ μ 52 d = 0) : gwA μ d i m = gwA μ d j m := by
  unfold gwA
  rw [if_neg h, if_neg h]
theorem gwA_y {μ : ST} {d t : Nat} {m : S3} {v : Int32} (ht : t < 6) (hf : μ 52 d = 0) (hv : v = if μ 51 d = nI t then 3 else 0) : (upd (gwA μ d t m).1 t (rOf (gwA μ d t m) t + (μ 50 d + v)), (gwA μ d t m).2) = gwA μ d (t + 1) m := by
  subst hv
  rw [rOf_w ht]
  unfold gwA
  rw [if_pos hf, if_pos hf]
  show (upd (pre t (gwL μ d m.1) m.1) t (pre t (gwL μ d m.1) m.1 t + _), m.2) = _
  rw [pre_ge (Nat.lt_irrefl t)]
  exact congrArg (fun z => (z, m.2)) (pre_step rfl)
theorem gwA_T {g rn wt fr : Nat → Int32} {T d : Nat} {m : S3} (hT6 : T ≤ 6) (h : wt d = -9 ∨ ∃ t : Nat, t < T ∧ wt d = nI t) : gwA (vL g rn wt fr) d T m = md1 (vL g rn wt fr) T d m := by
  have ew : woM (vL g rn wt fr) d = wt d := if_pos rfl
  unfold gwA md1 gwM
  rw [ew]
  refine congrArg (fun z => (z, m.2)) ?_
  by_cases hf : vL g rn wt fr 52 d = 0
  · rw [if_pos hf, if_neg (nn hf)]
    rcases h with h | ⟨x, hx, h⟩
    · rw [if_pos h]
      funext t
      by_cases ht : t < T
      · rw [pre_lt ht, pre_lt ht]
        show m.1 t + (rn d + if wt d = nI t then 3 else 0) = m.1 t + rn d
        rw [if_neg (fun e => nI_ne9 (k := t) (by omega) (e.symm.trans h)), Int32.add_zero]
      · rw [pre_ge ht, pre_ge ht]
    · rw [h, if_neg (nI_ne9 (by omega)), nI_clamp (by omega)]
      funext t
      unfold upd
      by_cases ht : t < T
      · rw [pre_lt ht, pre_lt ht]
        show m.1 t + (rn d + if wt d = nI t then 3 else 0) = _
        by_cases e : t = x
        · subst e
          rw [if_pos h, if_pos rfl, pre_lt ht, Int32.add_assoc]
          rfl
        · rw [if_neg e, if_neg (fun z => e ((nI_eq (by omega) (by omega)).mp (h.symm.trans z)).symm), Int32.add_zero]
          rfl
      · rw [pre_ge ht, if_neg (fun e => ht (by omega)), pre_ge ht]
  · rw [if_neg hf, if_pos hf]
/-! who is out has a day on which -/
def OkM (P : Nat) (s : S3) : Prop := ∀ p, p < P → s.2.1 p = -9 ∨ ∃ d : Nat, d < 30 ∧ s.2.1 p = nI d
theorem ukM_ok {μ : ST} {P j d : Nat} {s : S3} (hd : d < 30) (h : OkM P s) : OkM P (ukM μ P j (nI d) s) := by
  unfold ukM
  split
  · next q _ =>
    intro p hp
    show upd s.2.1 q (nI d) p = -9 ∨ ∃ e : Nat, e < 30 ∧ upd s.2.1 q (nI d) p = nI e
    by_cases e : p = q
    · subst e; rw [upd_at]; exact Or.inr ⟨d, hd, rfl⟩
    · rw [upd_ne e]; exact h p hp
  · exact h
theorem kyM_ok {μ : ST} {P d : Nat} {s : S3} (hd : d < 30) (h : OkM P s) : ∀ n, OkM P (kyM μ P d n s) := by
  intro n
  induction n with
  | zero => exact h
  | succ n ih =>
    rw [kyM_s]
    split
    · exact ukM_ok hd ih
    · exact ih
theorem mDay_ok {μ : ST} {T P C d : Nat} {s : S3} (hd : d < 30) (h : OkM P s) : OkM P (mDay μ T P C d s) := by
  have h1 : OkM P (md2 μ C d (md1 μ T d s)) := h
  have h2 := kyM_ok (μ := μ) hd h1 T
  intro p hp
  show pre P (tmM μ d (kyM μ P d T (md2 μ C d (md1 μ T d s))).2.1) (kyM μ P d T (md2 μ C d (md1 μ T d s))).2.1 p = -9 ∨ ∃ e : Nat, e < 30 ∧ pre P (tmM μ d (kyM μ P d T (md2 μ C d (md1 μ T d s))).2.1) (kyM μ P d T (md2 μ C d (md1 μ T d s))).2.1 p = nI e
  rw [pre_lt hp]
  unfold tmM
  split
  · exact Or.inr ⟨d, hd, rfl⟩
  · exact h2 p hp
theorem mDays_ok {μ : ST} {T P C : Nat} : ∀ n, n ≤ 30 → OkM P (mDays μ T P C n mc0) := by
  intro n
  induction n with
  | zero => intro _ p _; exact Or.inl rfl
  | succ n ih => intro hn; exact mDay_ok (by omega) (ih (by omega))
end
section
/-! both sides' days -/
def DI (κ μ : ST) (T P C : Nat) : Prop := T ≤ 6 ∧ P ≤ 6 ∧ (∀ c, c < C → ∃ t : Nat, t < T ∧ μ 59 c = nI t) ∧ (∀ t, t < T → κ 16 t = wantM (μ 44 t) (μ 46 t) ∧ (0 : Int32) < κ 16 t ∧ (bit (κ 30 5) (nI t) ↔ ¬ μ 47 t = 0) ∧ ∀ p, p < 32 → (bit (κ 17 t) (nI p) ↔ p < P ∧ bit (opM (μ 44 t) (μ 45 t)) (μ 48 p))) ∧ ∀ d, d < 30 → (bit (κ 30 4) (nI d) ↔ ¬ μ 52 d = 0) ∧ κ 31 d = μ 50 d ∧ ¬ κ 31 d < 0 ∧ κ 32 d = woM μ d ∧ (woM μ d = -9 ∨ ∃ t : Nat, t < T ∧ woM μ d = nI t) ∧ (∀ t, t < T → (bit (κ 33 d) (nI t) ↔ ∃ c, c < C ∧ μ 58 c = nI d ∧ μ 59 c = nI t)) ∧ ∀ p, p < 32 → (bit (κ 20 d) (nI p) ↔ p < P ∧ μ 49 p = nI d)
def EqC (T P : Nat) (s : S4) (m : S3) : Prop := (∀ t, t < T → s.1 t = m.1 t) ∧ (∀ p, p < P → s.2.1 p = m.2.1 p ∧ s.2.2.1 p = m.2.2 p ∧ (m.2.1 p = -9 → m.2.2 p = -9)) ∧ ∀ p, p < 32 → (bit s.2.2.2 (nI p) ↔ p < P ∧ m.2.1 p = -9)
def NoK (κ : ST) (T : Nat) (s : S4) : Prop := ∀ t, t < T → ¬ tkC κ s t
theorem nle_of_pos {x y : Int32} (h : (0 : Int32) < x) (hy : y = 0) : ¬ x ≤ y := by
  rw [hy]
  exact Int32.not_le.mpr h
theorem gw_wet {κ μ : ST} {T P C d : Nat} {w v : Nat → Int32} (hI : DI κ μ T P C) (hd : d < 30) (hw : ∀ t, t < T → w t = v t) (hwet : wetC κ d) : ∀ t, t < T → gwF T (κ 31 d) (κ 32 d) w t = gwM T (μ 52 d) (μ 50 d) (woM μ d) v t := by
  obtain ⟨hT6, -, -, -, hD⟩ := hI
  obtain ⟨h1, h2, -, h3, h4, -, -⟩ := hD d hd
  have hf : μ 52 d = 0 := Decidable.of_not_not (fun h => hwet.1 (h1.mpr h))
  have hp : ∀ t, t < T → pre T (fun t => w t + μ 50 d) w t = pre T (fun t => v t + μ 50 d) v t := fun t ht => by rw [pre_lt ht, pre_lt ht, hw t ht]
  intro t ht
  unfold gwF gwM
  rw [if_neg (nn hf), h2, h3]
  rcases h4 with h4 | ⟨x, hx, h4⟩
  · rw [h4, if_pos rfl, if_neg (fun h => h.1 (by decide))]
    exact hp t ht
  · rw [h4, if_pos (isT_nI hx (by omega)), if_neg (nI_ne9 (by omega)), nI_clamp (by omega)]
    exact upd_eq (by rw [hp x hx]) (hp t ht)
theorem gw_dry {κ μ : ST} {T P C d : Nat} {v : Nat → Int32} (hI : DI κ μ T P C) (hd : d < 30) (hwet : ¬ wetC κ d) : ∀ t, t < T → v t = gwM T (μ 52 d) (μ 50 d) (woM μ d) v t := by
  obtain ⟨hT6, -, -, -, hD⟩ := hI
  obtain ⟨h1, h2, h5, h3, h4, -, -⟩ := hD d hd
  intro t ht
  unfold gwM
  by_cases hf : μ 52 d = 0
  · rw [if_neg (nn hf)]
    have hb : ¬ bit (κ 30 4) (nI d) := fun h => (h1.mp h) hf
    have h9 : woM μ d = -9 := Decidable.of_not_not (fun h => hwet ⟨hb, Or.inr (by rw [h3]; exact h)⟩)
    have h0 : μ 50 d = 0 := by
      have a1 : ¬ (0 : Int32) < κ 31 d := fun h => hwet ⟨hb, Or.inl h⟩
      rw [← h2]
      exact Int32.le_antisymm (Int32.not_lt.mp a1) (Int32.not_lt.mp h5)
    rw [if_pos h9, pre_lt ht, h0, Int32.add_zero]
  · rw [if_pos hf]
theorem cr_in {μ : ST} {T d : Nat} {w : Nat → Int32} (hT6 : T ≤ 6) (hpos : ∀ t, t < T → (0 : Int32) < wantM (μ 44 t) (μ 46 t)) : ∀ C : Nat, (∀ c, c < C → ∃ t : Nat, t < T ∧ μ 59 c = nI t) → ∀ t, t < T → (((∃ c, c < C ∧ μ 58 c = nI d ∧ μ 59 c = nI t) ∧ wantM (μ 44 t) (μ 46 t) ≤ w t → crM μ d C w t = 0) ∧ (¬ ((∃ c, c < C ∧ μ 58 c = nI d ∧ μ 59 c = nI t) ∧ wantM (μ 44 t) (μ 46 t) ≤ w t) → crM μ d C w t = w t)) := by
  intro C
  induction C with
  | zero => intro _ t ht; exact ⟨fun h => by obtain ⟨⟨c, hc, -⟩, -⟩ := h; exact absurd hc (Nat.not_lt_zero _), fun _ => rfl⟩
  | succ C ih =>
    intro hc t ht
    have ih2 := ih (fun c h => hc c (by omega)) t ht
    obtain ⟨x, hx, ex⟩ := hc C (by omega)
    have ih3 := ih (fun c h => hc c (by omega)) x hx
    rw [crM_s, ex, nI_clamp (by omega)]
    by_cases e : t = x
    · subst e
      by_cases hd : μ 58 C = nI d
      · by_cases hr : wantM (μ 44 t) (μ 46 t) ≤ w t
        · refine ⟨fun _ => ?_, fun h => absurd ⟨⟨C, by omega, hd, ex⟩, hr⟩ h⟩
          by_cases h1 : ∃ c, c < C ∧ μ 58 c = nI d ∧ μ 59 c = nI t
          · have e0 := ih2.1 ⟨h1, hr⟩
            rw [if_neg (fun h => nle_of_pos (hpos t ht) e0 h.2), e0]
          · have e0 := ih2.2 (fun h => h1 h.1)
            rw [if_pos ⟨hd, by rw [e0]; exact hr⟩]
            exact if_pos rfl
        · refine ⟨fun h => absurd h.2 hr, fun _ => ?_⟩
          have e0 := ih2.2 (fun h => hr h.2)
          rw [if_neg (fun h => hr (by rw [← e0]; exact h.2)), e0]
      · rw [if_neg (fun h => hd h.1)]
        refine ⟨fun h => ih2.1 ⟨?_, h.2⟩, fun h => ih2.2 (fun q => h ⟨?_, q.2⟩)⟩
        · obtain ⟨⟨c, h1, h2, h3⟩, -⟩ := h
          rcases Nat.lt_or_ge c C with h4 | h4
          · exact ⟨c, h4, h2, h3⟩
          · rw [show c = C by omega] at h2; exact absurd h2 hd
        · obtain ⟨c, h1, h2⟩ := q.1
          exact ⟨c, by omega, h2⟩
    · have hv : (if μ 58 C = nI d ∧ wantM (μ 44 x) (μ 46 x) ≤ crM μ d C w x then upd (crM μ d C w) x 0 else crM μ d C w) t = crM μ d C w t := by
        split
        · exact if_neg e
        · rfl
      rw [hv]
      refine ⟨fun h => ih2.1 ⟨?_, h.2⟩, fun h => ih2.2 (fun q => h ⟨?_, q.2⟩)⟩
      · obtain ⟨⟨c, h1, h2, h3⟩, -⟩ := h
        rcases Nat.lt_or_ge c C with h4 | h4
        · exact ⟨c, h4, h2, h3⟩
        · rw [show c = C by omega, ex] at h3
          exact absurd ((nI_eq (by omega) (by omega)).mp h3) (fun h => e h.symm)
      · obtain ⟨c, h1, h2⟩ := q.1
        exact ⟨c, by omega, h2⟩
theorem day2_at {κ : ST} {T d t : Nat} {s : S4} (hT6 : T ≤ 6) (ht : t < T) : (day2 κ T d s).1 t = crG (κ 16) (κ 33 d) s.1 t := by
  unfold day2
  by_cases h : κ 33 d = 0
  · rw [if_neg (nn h)]
    unfold crG
    rw [if_neg (fun q => by rw [h] at q; exact bit_0 (by omega) q.1)]
  · rw [if_pos h]
    exact pre_lt ht
theorem day2_rest {κ : ST} {T d : Nat} {s : S4} : (day2 κ T d s).2 = s.2 := by
  unfold day2
  split <;> rfl
theorem cr_eq {κ μ : ST} {T P C d : Nat} {s : S4} {m : S3} (hI : DI κ μ T P C) (hd : d < 30) (hE : EqC T P s m) : EqC T P (day2 κ T d s) (md2 μ C d m) := by
  obtain ⟨hT6, -, hC, hTr, hD⟩ := hI
  obtain ⟨-, -, -, -, -, h6, -⟩ := hD d hd
  refine ⟨fun t ht => ?_, ?_⟩
  · rw [day2_at hT6 ht]
    show crG (κ 16) (κ 33 d) s.1 t = crM μ d C m.1 t
    have h := cr_in (w := m.1) (d := d) hT6 (fun t ht => by rw [← (hTr t ht).1]; exact (hTr t ht).2.1) C hC t ht
    unfold crG
    rw [(hTr t ht).1, hE.1 t ht]
    by_cases hb : bit (κ 33 d) (nI t) ∧ wantM (μ 44 t) (μ 46 t) ≤ m.1 t
    · rw [if_pos hb, h.1 ⟨(h6 t ht).mp hb.1, hb.2⟩]
    · rw [if_neg hb, h.2 (fun q => hb ⟨(h6 t ht).mpr q.1, q.2⟩)]
  · rw [day2_rest]
    exact hE.2
theorem fst_N {q : Nat → Prop} [DecidablePred q] : ∀ f g i : Nat, (∃ j, i ≤ j ∧ j < i + f ∧ q j) → f ≤ g + 1 → fst? q f i = some (fstN q g i) := by
  intro f
  induction f with
  | zero => intro g i h _; obtain ⟨j, h1, h2, -⟩ := h; omega
  | succ f ih =>
    intro g i h hg
    show (if q i then some i else fst? q f (i + 1)) = _
    by_cases hq : q i
    · rw [if_pos hq]
      cases g with
      | zero => rfl
      | succ g => show _ = some (if q i then i else fstN q g (i + 1)); rw [if_pos hq]
    · rw [if_neg hq]
      obtain ⟨j, h1, h2, h3⟩ := h
      have hj : i + 1 ≤ j := by
        rcases Nat.lt_or_ge i j with h4 | h4
        · exact h4
        · rw [show j = i by omega] at h3; exact absurd h3 hq
      cases g with
      | zero => omega
      | succ g =>
        show _ = some (if q i then i else fstN q g (i + 1))
        rw [if_neg hq]
        exact ih g (i + 1) ⟨j, hj, by omega, h3⟩ (by omega)
theorem fst_none {q : Nat → Prop} [DecidablePred q] : ∀ f i : Nat, (∀ j, i ≤ j → j < i + f → ¬ q j) → fst? q f i = none := by
  intro f
  induction f with
  | zero => intro i _; rfl
  | succ f ih =>
    intro i h
    show (if q i then some i else fst? q f (i + 1)) = none
    rw [if_neg (h i (Nat.le_refl _) (by omega))]
    exact ih (i + 1) (fun j h1 h2 => h j (by omega) (by omega))
theorem fstN_q {q : Nat → Prop} [DecidablePred q] {f g i : Nat} (h : ∃ j, i ≤ j ∧ j < i + f ∧ q j) (hg : f ≤ g + 1) : q (fstN q g i) ∧ fstN q g i < i + f := by
  have e := fst_N f g i h hg
  have := fst?_lt f i _ e
  exact ⟨this.2.2, this.2.1⟩
/-! both sides' days: keys, terms, a day -/
theorem uk_q {κ μ : ST} {T P C n : Nat} {s : S4} {m : S3} (hI : DI κ μ T P C) (hn : n < T) (hE : EqC T P s m) {p : Nat} (hp : p < 32) : bit (κ 17 n &&& s.2.2.2) (nI p) ↔ p < P ∧ ukQ μ n m.2.1 p := by
  rw [bit_and hp, (hI.2.2.2.1 n hn).2.2.2 p hp, hE.2.2 p hp]
  constructor
  · rintro ⟨⟨a, b⟩, c, d⟩; exact ⟨a, d, bit_1.mpr b⟩
  · rintro ⟨a, b, c⟩; exact ⟨⟨a, bit_1.mp c⟩, a, b⟩
theorem uk_none {κ μ : ST} {T P C n : Nat} {s : S4} {m : S3} {x : Int32} (hI : DI κ μ T P C) (hn : n < T) (hE : EqC T P s m) (h : κ 17 n &&& s.2.2.2 = 0) : ukM μ P n x m = m := by
  unfold ukM
  rw [show fst? (ukQ μ n m.2.1) P 0 = none from fst_none P 0 (fun p h1 h2 hq => by
    have h3 : p < P := by omega
    have hP6 := hI.2.1
    have := (uk_q hI hn hE (p := p) (by omega)).mpr ⟨h3, hq⟩
    rw [h] at this
    exact bit_0 (by omega) this)]
theorem uk_some {κ μ : ST} {T P C n : Nat} {s : S4} {m : S3} {x : Int32} (hI : DI κ μ T P C) (hn : n < T) (hE : EqC T P s m) (h : ¬ κ 17 n &&& s.2.2.2 = 0) : lo6 (κ 17 n &&& s.2.2.2) < P ∧ ukQ μ n m.2.1 (lo6 (κ 17 n &&& s.2.2.2)) ∧ ukM μ P n x m = (upd m.1 n 0, upd m.2.1 (lo6 (κ 17 n &&& s.2.2.2)) x, upd m.2.2 (lo6 (κ 17 n &&& s.2.2.2)) (nI n)) := by
  have hP6 := hI.2.1
  obtain ⟨j, hj, hb⟩ := bit_ne0.mp h
  have hjP := (uk_q hI hn hE hj).mp hb
  have e1 : fst? (fun j => bit (κ 17 n &&& s.2.2.2) (nI j)) P 0 = some (lo6 (κ 17 n &&& s.2.2.2)) := fst_N P 5 0 ⟨j, Nat.zero_le _, by omega, hb⟩ (by omega)
  have e2 : fst? (ukQ μ n m.2.1) P 0 = some (lo6 (κ 17 n &&& s.2.2.2)) := by
    rw [← e1]
    exact fst?_congr P 0 (fun p _ h2 => ⟨fun q => (uk_q hI hn hE (p := p) (by omega)).mpr ⟨by omega, q⟩, fun q => ((uk_q hI hn hE (p := p) (by omega)).mp q).2⟩)
  have h3 := fst?_lt P 0 _ e2
  refine ⟨by omega, h3.2.2, ?_⟩
  unfold ukM
  rw [e2]
theorem in_off {x : Int32} {p q : Nat} (hp : p < 32) (hq : q < 32) : bit (x &&& (own1 (nI p) ^^^ -1)) (nI q) ↔ bit x (nI q) ∧ ¬ q = p := by
  rw [bit_and hq, bit_not hq, bit_own hp hq]
theorem tk_step {κ μ : ST} {T P C n d : Nat} {s : S4} {m : S3} (hI : DI κ μ T P C) (hd : d < 30) (hn : n < T) (hE : EqC T P s m) : EqC T P (tkStep κ (nI d) n s) (if μ 47 n = 0 ∧ wantM (μ 44 n) (μ 46 n) ≤ m.1 n then ukM μ P n (nI d) m else m) := by
  have hP6 := hI.2.1
  obtain ⟨t1, t2, t3, -⟩ := hI.2.2.2.1 n hn
  unfold tkStep
  by_cases hc : tkC κ s n
  · obtain ⟨c1, c2, c3⟩ := hc
    obtain ⟨u1, u2, u3⟩ := uk_some (x := nI d) hI hn hE c1
    rw [if_pos ⟨c1, c2, c3⟩, if_pos ⟨Decidable.of_not_not (fun h => c3 (t3.mpr h)), by rw [← t1, ← hE.1 n hn]; exact c2⟩, u3]
    generalize lo6 (κ 17 n &&& s.2.2.2) = p at u1 u2
    refine ⟨fun t ht => upd_eq rfl (hE.1 t ht), fun q hq => ?_, fun q hq => ?_⟩
    · refine ⟨upd_eq rfl (hE.2.1 q hq).1, upd_eq rfl (hE.2.1 q hq).2.1, ?_⟩
      show upd m.2.1 p (nI d) q = -9 → upd m.2.2 p (nI n) q = -9
      unfold upd
      by_cases e : q = p
      · rw [if_pos e]; exact fun h => absurd h (nI_ne9 (by omega))
      · rw [if_neg e, if_neg e]; exact (hE.2.1 q hq).2.2
    · show bit (s.2.2.2 &&& (own1 (nI p) ^^^ -1)) (nI q) ↔ q < P ∧ upd m.2.1 p (nI d) q = -9
      rw [in_off (by omega) hq, hE.2.2 q hq]
      unfold upd
      by_cases e : q = p
      · rw [if_pos e]
        exact ⟨fun h => absurd e h.2, fun h => absurd h.2 (nI_ne9 (by omega))⟩
      · rw [if_neg e]
        exact ⟨fun h => h.1, fun h => ⟨h, e⟩⟩
  · rw [if_neg hc]
    split
    next h =>
      have hz : κ 17 n &&& s.2.2.2 = 0 := Decidable.of_not_not (fun h2 => hc ⟨h2, by rw [t1, hE.1 n hn]; exact h.2, fun h3 => (t3.mp h3) h.1⟩)
      rw [uk_none hI hn hE hz]
      exact hE
    next h => exact hE
theorem tk_eq {κ μ : ST} {T P C d : Nat} {s : S4} {m : S3} (hI : DI κ μ T P C) (hd : d < 30) (hE : EqC T P s m) : ∀ n, n ≤ T → EqC T P (tkN κ (nI d) n s) (kyM μ P d n m) := by
  intro n
  induction n with
  | zero => intro _; exact hE
  | succ n ih =>
    intro hn
    rw [kyM_s]
    exact tk_step hI hd (by omega) (ih (by omega))
theorem ky_still {κ μ : ST} {T P C d : Nat} {s : S4} {m : S3} (hI : DI κ μ T P C) (hE : EqC T P s m) (hN : NoK κ T s) : ∀ n, n ≤ T → kyM μ P d n m = m := by
  intro n
  induction n with
  | zero => intro _; rfl
  | succ n ih =>
    intro hn
    rw [kyM_s, ih (by omega)]
    split
    next h =>
      obtain ⟨t1, t2, t3, -⟩ := hI.2.2.2.1 n (by omega)
      exact uk_none hI (by omega) hE (Decidable.of_not_not (fun h2 => hN n (by omega) ⟨h2, by rw [t1, hE.1 n (by omega)]; exact h.2, fun h3 => (t3.mp h3) h.1⟩))
    next h => rfl
theorem and_sub {a x y : Int32} (h : ∀ i, i < 32 → bit y (nI i) → bit x (nI i)) (hz : ¬ a &&& y = 0) : ¬ a &&& x = 0 := by
  obtain ⟨i, hi, hb⟩ := bit_ne0.mp hz
  have := (bit_and hi).mp hb
  exact bit_ne0.mpr ⟨i, hi, (bit_and hi).mpr ⟨this.1, h i hi this.2⟩⟩
theorem noK_sub {κ : ST} {t : Nat} {s s2 : S4} (h : ¬ tkC κ s t) (hw : s2.1 t = s.1 t) (hi : ∀ i, i < 32 → bit s2.2.2.2 (nI i) → bit s.2.2.2 (nI i)) : ¬ tkC κ s2 t := fun q => h ⟨and_sub hi q.1, by rw [← hw]; exact q.2.1, q.2.2⟩
theorem tk_in {κ : ST} {d : Int32} {n : Nat} {s : S4} : ∀ i, i < 32 → bit (tkStep κ d n s).2.2.2 (nI i) → bit s.2.2.2 (nI i) := by
  intro i hi
  unfold tkStep
  split
  · intro h
    have h2 : bit (s.2.2.2 &&& (own1 (nI (lo6 (κ 17 n &&& s.2.2.2))) ^^^ -1)) (nI i) := h
    exact ((bit_and hi).mp h2).1
  · exact fun h => h
theorem tk_noK {κ : ST} {d : Int32} {T : Nat} {s : S4} (hpos : ∀ t, t < T → (0 : Int32) < κ 16 t) : ∀ n, n ≤ T → ∀ t, t < n → ¬ tkC κ (tkN κ d n s) t := by
  intro n
  induction n with
  | zero => intro _ t ht; exact absurd ht (Nat.not_lt_zero _)
  | succ n ih =>
    intro hn t ht
    show ¬ tkC κ (tkStep κ d n (tkN κ d n s)) t
    by_cases hc : tkC κ (tkN κ d n s) n
    · by_cases e : t = n
      · subst e
        intro q
        have hz : (tkStep κ d t (tkN κ d t s)).1 t = 0 := by
          unfold tkStep
          rw [if_pos hc]
          exact if_pos rfl
        exact nle_of_pos (hpos t (by omega)) hz q.2.1
      · refine noK_sub (ih (by omega) t (by omega)) ?_ tk_in
        unfold tkStep
        rw [if_pos hc]
        exact if_neg e
    · have e : tkStep κ d n (tkN κ d n s) = tkN κ d n s := by unfold tkStep; rw [if_neg hc]
      rw [e]
      by_cases e2 : t = n
      · rw [e2]; exact hc
      · exact ih (by omega) t (by omega)
theorem et_at {set d : Int32} {s : S4} : ∀ n, n ≤ 32 → (etN set d n s).1 = s.1 ∧ (∀ p, p < 32 → (etN set d n s).2.1 p = (if p < n ∧ bit set (nI p) then d else s.2.1 p) ∧ (etN set d n s).2.2.1 p = (if p < n ∧ bit set (nI p) then -9 else s.2.2.1 p) ∧ (bit (etN set d n s).2.2.2 (nI p) ↔ bit s.2.2.2 (nI p) ∧ ¬ (p < n ∧ bit set (nI p)))) := by
  intro n
  induction n with
  | zero => intro _; exact ⟨rfl, fun p hp => ⟨(if_neg (fun h => absurd h.1 (Nat.not_lt_zero _))).symm, (if_neg (fun h => absurd h.1 (Nat.not_lt_zero _))).symm, ⟨fun h => ⟨h, fun q => absurd q.1 (Nat.not_lt_zero _)⟩, fun h => h.1⟩⟩⟩
  | succ n ih =>
    intro hn
    obtain ⟨i1, i2⟩ := ih (by omega)
    show (etStep set d n (etN set d n s)).1 = s.1 ∧ (∀ p, p < 32 → (etStep set d n (etN set d n s)).2.1 p = (if p < n + 1 ∧ bit set (nI p) then d else s.2.1 p) ∧ (etStep set d n (etN set d n s)).2.2.1 p = (if p < n + 1 ∧ bit set (nI p) then -9 else s.2.2.1 p) ∧ (bit (etStep set d n (etN set d n s)).2.2.2 (nI p) ↔ bit s.2.2.2 (nI p) ∧ ¬ (p < n + 1 ∧ bit set (nI p))))
    unfold etStep
    by_cases hb : bit set (nI n)
    · rw [if_pos hb]
      refine ⟨i1, fun p hp => ?_⟩
      obtain ⟨j1, j2, j3⟩ := i2 p hp
      by_cases e : p = n
      · subst e
        rw [if_pos ⟨Nat.lt_succ_self _, hb⟩, if_pos ⟨Nat.lt_succ_self _, hb⟩]
        refine ⟨if_pos rfl, if_pos rfl, ?_⟩
        show bit ((etN set d p s).2.2.2 &&& (own1 (nI p) ^^^ -1)) (nI p) ↔ _
        rw [in_off hp hp]
        exact ⟨fun h => absurd rfl h.2, fun h => absurd ⟨Nat.lt_succ_self _, hb⟩ h.2⟩
      · have ei : (p < n + 1 ∧ bit set (nI p)) ↔ (p < n ∧ bit set (nI p)) := ⟨fun h => ⟨by omega, h.2⟩, fun h => ⟨by omega, h.2⟩⟩
        have e1 : (lout (etN set d n s) n d (-9)).2.1 p = (etN set d n s).2.1 p := if_neg e
        have e2 : (lout (etN set d n s) n d (-9)).2.2.1 p = (etN set d n s).2.2.1 p := if_neg e
        rw [e1, e2, j1, j2]
        refine ⟨by simp only [ei], by simp only [ei], ?_⟩
        show bit ((etN set d n s).2.2.2 &&& (own1 (nI n) ^^^ -1)) (nI p) ↔ _
        rw [in_off (by omega) hp, j3, ei]
        exact ⟨fun h => h.1, fun h => ⟨h, e⟩⟩
    · rw [if_neg hb]
      refine ⟨i1, fun p hp => ?_⟩
      obtain ⟨j1, j2, j3⟩ := i2 p hp
      have ei : (p < n + 1 ∧ bit set (nI p)) ↔ (p < n ∧ bit set (nI p)) := ⟨fun h => ⟨by
        rcases Nat.lt_or_ge p n with h2 | h2
        · exact h2
        · rw [show p = n by omega] at h; exact absurd h.2 hb, h.2⟩, fun h => ⟨by omega, h.2⟩⟩
      rw [j1, j2, j3]
      exact ⟨by simp only [ei], by simp only [ei], by rw [ei]⟩
theorem d4_eq {κ μ : ST} {T P C d : Nat} {s : S4} {m : S3} (hI : DI κ μ T P C) (hd : d < 30) (hE : EqC T P s m) : EqC T P (day4 κ P d s) (md4 μ P d m) ∧ (day4 κ P d s).1 = s.1 ∧ ∀ i, i < 32 → bit (day4 κ P d s).2.2.2 (nI i) → bit s.2.2.2 (nI i) := by
  have hP6 := hI.2.1
  obtain ⟨-, -, -, -, -, -, h7⟩ := hI.2.2.2.2 d hd
  have hx : ∀ p, p < 32 → (bit (κ 20 d &&& s.2.2.2) (nI p) ↔ p < P ∧ m.2.1 p = -9 ∧ μ 49 p = nI d) := fun p hp => by
    rw [bit_and hp, h7 p hp, hE.2.2 p hp]
    exact ⟨fun h => ⟨h.1.1, h.2.2, h.1.2⟩, fun h => ⟨⟨h.1, h.2.2⟩, h.1, h.2.1⟩⟩
  have hm : ∀ p, p < P → (md4 μ P d m).2.1 p = if m.2.1 p = -9 ∧ μ 49 p = nI d then nI d else m.2.1 p := fun p hp => pre_lt hp
  unfold day4
  by_cases hz : κ 20 d &&& s.2.2.2 = 0
  · rw [if_neg (nn hz)]
    refine ⟨⟨hE.1, fun p hp => ?_, fun p hp => ?_⟩, rfl, fun _ _ h => h⟩
    · have hn : ¬ (m.2.1 p = -9 ∧ μ 49 p = nI d) := fun h => by
        have := (hx p (by omega)).mpr ⟨hp, h⟩
        rw [hz] at this
        exact bit_0 (by omega) this
      rw [hm p hp, if_neg hn]
      exact hE.2.1 p hp
    · rw [hE.2.2 p hp]
      refine and_congr_right fun hpP => ?_
      have hn : ¬ (m.2.1 p = -9 ∧ μ 49 p = nI d) := fun h => by
        have := (hx p hp).mpr ⟨hpP, h⟩
        rw [hz] at this
        exact bit_0 hp this
      rw [hm p hpP, if_neg hn]
  · rw [if_pos hz]
    obtain ⟨e1, e2⟩ := et_at (set := κ 20 d &&& s.2.2.2) (d := nI d) (s := s) P (by omega)
    refine ⟨⟨fun t ht => by rw [e1]; exact hE.1 t ht, fun p hp => ?_, fun p hp => ?_⟩, e1, fun i hi h => ((e2 i hi).2.2.mp h).1⟩
    · obtain ⟨f1, f2, -⟩ := e2 p (by omega)
      have hh := hx p (by omega)
      rw [f1, f2, hm p hp]
      by_cases hc : m.2.1 p = -9 ∧ μ 49 p = nI d
      · have g1 : p < P ∧ bit (κ 20 d &&& s.2.2.2) (nI p) := ⟨hp, hh.mpr ⟨hp, hc⟩⟩
        rw [if_pos g1, if_pos g1, if_pos hc]
        exact ⟨rfl, ((hE.2.1 p hp).2.2 hc.1).symm, fun _ => (hE.2.1 p hp).2.2 hc.1⟩
      · have g1 : ¬ (p < P ∧ bit (κ 20 d &&& s.2.2.2) (nI p)) := fun q => hc (hh.mp q.2).2
        rw [if_neg g1, if_neg g1, if_neg hc]
        exact hE.2.1 p hp
    · obtain ⟨-, -, f3⟩ := e2 p hp
      have hh := hx p hp
      rw [f3, hE.2.2 p hp]
      constructor
      · rintro ⟨⟨a, b⟩, c⟩
        refine ⟨a, ?_⟩
        rw [hm p a, if_neg (fun q => c ⟨a, hh.mpr ⟨a, q⟩⟩)]
        exact b
      · rintro ⟨a, b⟩
        rw [hm p a] at b
        by_cases hc : m.2.1 p = -9 ∧ μ 49 p = nI d
        · rw [if_pos hc] at b; exact absurd b (nI_ne9 (by omega))
        · rw [if_neg hc] at b
          exact ⟨⟨a, b⟩, fun q => hc (hh.mp q.2).2⟩
theorem day_eq {κ μ : ST} {T P C d : Nat} {s : S4} {m : S3} (hI : DI κ μ T P C) (hd : d < 30) (hE : EqC T P s m) (hN : NoK κ T s) : EqC T P (dayC κ T P d s) (mDay μ T P C d m) ∧ NoK κ T (dayC κ T P d s) := by
  have hT6 := hI.1
  have hpos : ∀ t, t < T → (0 : Int32) < κ 16 t := fun t ht => (hI.2.2.2.1 t ht).2.1
  have hE1 : EqC T P (day1 κ T d s) (md1 μ T d m) := by
    unfold day1
    by_cases hw : wetC κ d
    · rw [if_pos hw]
      exact ⟨gw_wet hI hd hE.1 hw, hE.2⟩
    · rw [if_neg hw]
      exact ⟨fun t ht => (hE.1 t ht).trans (gw_dry hI hd hw t ht), hE.2⟩
  have hE2 := cr_eq hI hd hE1
  have key : EqC T P (day3 κ T d (day2 κ T d (day1 κ T d s))) (kyM μ P d T (md2 μ C d (md1 μ T d m))) ∧ NoK κ T (day3 κ T d (day2 κ T d (day1 κ T d s))) := by
    unfold day3
    by_cases hw : wetC κ d
    · rw [if_pos hw]
      exact ⟨tk_eq hI hd hE2 T (Nat.le_refl _), tk_noK hpos T (Nat.le_refl _)⟩
    · rw [if_neg hw]
      have hN2 : NoK κ T (day2 κ T d (day1 κ T d s)) := by
        intro t ht
        rw [show day1 κ T d s = s from if_neg hw]
        have hi : ∀ i, i < 32 → bit (day2 κ T d s).2.2.2 (nI i) → bit s.2.2.2 (nI i) := fun i _ h => by rw [day2_rest] at h; exact h
        by_cases hb : bit (κ 33 d) (nI t) ∧ κ 16 t ≤ s.1 t
        · intro q
          have hz : (day2 κ T d s).1 t = 0 := by rw [day2_at hT6 ht]; exact if_pos hb
          exact nle_of_pos (hpos t ht) hz q.2.1
        · exact noK_sub (hN t ht) (by rw [day2_at hT6 ht]; exact if_neg hb) hi
      rw [ky_still hI hE2 hN2 T (Nat.le_refl _)]
      exact ⟨hE2, hN2⟩
  obtain ⟨k1, k2, k3⟩ := d4_eq hI hd key.1
  exact ⟨k1, fun t ht => noK_sub (key.2 t ht) (by show (day4 κ P d _).1 t = _; rw [k2]) k3⟩
theorem days_eq {κ μ : ST} {T P C : Nat} {s : S4} {m : S3} (hI : DI κ μ T P C) (hE : EqC T P s m) (hN : NoK κ T s) : ∀ n, n ≤ 30 → EqC T P (daysC κ T P n s) (mDays μ T P C n m) ∧ NoK κ T (daysC κ T P n s) := by
  intro n
  induction n with
  | zero => intro _; exact ⟨hE, hN⟩
  | succ n ih => intro hn; exact day_eq hI (by omega) (ih (by omega)).1 (ih (by omega)).2
theorem s0_eq {κ μ ν : ST} {T P C : Nat} (hI : DI κ μ T P C) (hP : ν 12 1 = nI P) : EqC T P (s0C ν) mc0 ∧ NoK κ T (s0C ν) := by
  have hP6 := hI.2.1
  refine ⟨⟨fun _ _ => rfl, fun _ _ => ⟨rfl, rfl, fun _ => rfl⟩, fun p hp => ?_⟩, fun t ht q => nle_of_pos (hI.2.2.2.1 t ht).2.1 rfl q.2.1⟩
  show bit (ones (ν 12 1)) (nI p) ↔ _
  rw [hP, bit_ones hP6 hp]
  exact ⟨fun h => ⟨h, rfl⟩, fun h => h.1⟩
theorem run_full {κ μ ν : ST} {T P C N : Nat} (hI : DI κ μ T P C) (hP : ν 12 1 = nI P) (hN : N ≤ 30) : EqC T P (daysC κ T P N (s0C ν)) (mDC μ T P C N) := (days_eq hI (s0_eq hI hP).1 (s0_eq hI hP).2 N hN).1
end
section
/-! THE RELATION of the class's cells and the law's arrays, and the days under it -/
def LG (σ : ST) (T P : Nat) : Prop := (0 < T ∧ T ≤ 6 ∧ 0 < P ∧ P ≤ 6) ∧ (σ 12 0 = nI T ∧ σ 12 1 = nI P ∧ σ 40 0 = nI T ∧ σ 40 1 = nI P) ∧ (∀ t, t < T → (σ 13 t = σ 40 (3 + t) ∧ σ 14 t = σ 40 (9 + t) ∧ σ 15 t = σ 40 (15 + t) ∧ σ 16 t = wantM (σ 40 (3 + t)) (σ 40 (15 + t)) ∧ σ 17 t = setB (fun p => bit (opM (σ 40 (3 + t)) (σ 40 (9 + t))) (σ 40 (22 + p))) P) ∧ (σ 40 (3 + t) = 0 ∨ σ 40 (3 + t) = 1 ∨ σ 40 (3 + t) = 2) ∧ (∃ l : Nat, l < 6 ∧ σ 40 (9 + t) = nI l) ∧ ∃ n : Nat, 1 ≤ n ∧ n ≤ 9 ∧ σ 40 (15 + t) = nI n) ∧ (∀ p, p < P → σ 18 p = σ 40 (22 + p) ∧ σ 19 p = σ 40 (28 + p) ∧ (∃ l : Nat, l < 6 ∧ σ 40 (22 + p) = nI l) ∧ ∃ d : Nat, d < 30 ∧ σ 40 (28 + p) = nI d) ∧ ∀ d, d < 30 → σ 20 d = setB (fun p => σ 40 (28 + p) = nI d) P
def LW (σ : ST) (T : Nat) : Prop := (∀ d, d < 30 → (bit (σ 21 4) (nI d) ↔ ¬ σ 43 d = 0)) ∧ ∀ d, d < 30 → σ 22 d = σ 41 d ∧ σ 23 d = σ 42 d ∧ (∃ v : Nat, v ≤ 9 ∧ σ 41 d = nI v) ∧ (σ 42 d = -9 ∨ ∃ t : Nat, t < T ∧ σ 42 d = nI t) ∧ (σ 43 d = 0 ∨ σ 43 d = 1)
def LC (σ : ST) (T C : Nat) : Prop := C ≤ 6 ∧ σ 21 5 = nI C ∧ σ 40 2 = nI C ∧ ∀ c, c < C → σ 24 c = σ 40 (34 + 2 * c) ∧ σ 25 c = σ 40 (35 + 2 * c) ∧ (∃ d : Nat, d < 30 ∧ σ 40 (34 + 2 * c) = nI d) ∧ ∃ t : Nat, t < T ∧ σ 40 (35 + 2 * c) = nI t
def LI (σ : ST) (T P C : Nat) : Prop := LG σ T P ∧ LW σ T ∧ LC σ T C ∧ σ 12 2 = σ 40 21
section LIL
variable {σ : ST} {T P C : Nat}
theorem LI.T0 (h : LI σ T P C) : 0 < T := h.1.1.1
theorem LI.T6 (h : LI σ T P C) : T ≤ 6 := h.1.1.2.1
theorem LI.P0 (h : LI σ T P C) : 0 < P := h.1.1.2.2.1
theorem LI.P6 (h : LI σ T P C) : P ≤ 6 := h.1.1.2.2.2
theorem LI.T12 (h : LI σ T P C) : σ 12 0 = nI T := h.1.2.1.1
theorem LI.P12 (h : LI σ T P C) : σ 12 1 = nI P := h.1.2.1.2.1
theorem LI.T40 (h : LI σ T P C) : σ 40 0 = nI T := h.1.2.1.2.2.1
theorem LI.P40 (h : LI σ T P C) : σ 40 1 = nI P := h.1.2.1.2.2.2
theorem LI.C6 (h : LI σ T P C) : C ≤ 6 := h.2.2.1.1
theorem LI.C21 (h : LI σ T P C) : σ 21 5 = nI C := h.2.2.1.2.1
theorem LI.C40 (h : LI σ T P C) : σ 40 2 = nI C := h.2.2.1.2.2.1
theorem LI.cd (h : LI σ T P C) : ∀ c, c < C → ∃ d : Nat, d < 30 ∧ σ 24 c = nI d := fun c hc => by
  obtain ⟨e1, -, ⟨d, hd, e⟩, -⟩ := h.2.2.1.2.2.2 c hc
  exact ⟨d, hd, e1.trans e⟩
end LIL
theorem LG.cg {σ τ : ST} {T P : Nat} (h : LG σ T P) (h0 : τ 12 0 = σ 12 0) (h1 : τ 12 1 = σ 12 1) (hc : ∀ k, 13 ≤ k → k ≤ 20 → τ k = σ k) (hg : ∀ i, i < 34 → i ≠ 2 → i ≠ 21 → τ 40 i = σ 40 i) : LG τ T P := by
  obtain ⟨a, ⟨b1, b2, b3, b4⟩, c, d, e⟩ := h
  have hP6 := a.2.2.2
  have hT6 := a.2.1
  refine ⟨a, ⟨by rw [h0]; exact b1, by rw [h1]; exact b2, by rw [hg 0 (by decide) (by decide) (by decide)]; exact b3, by rw [hg 1 (by decide) (by decide) (by decide)]; exact b4⟩, fun t ht => ?_, fun p hp => ?_, fun x hx => ?_⟩
  · obtain ⟨⟨c1, c2, c3, c4, c5⟩, c6⟩ := c t ht
    rw [hc 13 (by decide) (by decide), hc 14 (by decide) (by decide), hc 15 (by decide) (by decide), hc 16 (by decide) (by decide), hc 17 (by decide) (by decide), hg (3 + t) (by omega) (by omega) (by omega), hg (9 + t) (by omega) (by omega) (by omega), hg (15 + t) (by omega) (by omega) (by omega)]
    refine ⟨⟨c1, c2, c3, c4, c5.trans (setB_cg (by omega) fun p hp => ?_)⟩, c6⟩
    rw [hg (22 + p) (by omega) (by omega) (by omega)]
  · rw [hc 18 (by decide) (by decide), hc 19 (by decide) (by decide), hg (22 + p) (by omega) (by omega) (by omega), hg (28 + p) (by omega) (by omega) (by omega)]
    exact d p hp
  · rw [hc 20 (by decide) (by decide), e x hx]
    exact setB_cg (by omega) fun p hp => by rw [hg (28 + p) (by omega) (by omega) (by omega)]
theorem LW.cg {σ τ : ST} {T : Nat} (h : LW σ T) (h0 : τ 21 4 = σ 21 4) (hc : ∀ k, 22 ≤ k → k ≤ 23 → τ k = σ k) (hg : ∀ k, 41 ≤ k → k ≤ 43 → τ k = σ k) : LW τ T := by
  unfold LW
  rw [h0, hc 22 (by decide) (by decide), hc 23 (by decide) (by decide), hg 41 (by decide) (by decide), hg 42 (by decide) (by decide), hg 43 (by decide) (by decide)]
  exact h
theorem LC.cg {σ τ : ST} {T C : Nat} (h : LC σ T C) (h0 : τ 21 5 = σ 21 5) (hc : ∀ k, 24 ≤ k → k ≤ 25 → τ k = σ k) (h2 : τ 40 2 = σ 40 2) (hg : ∀ i, 34 ≤ i → τ 40 i = σ 40 i) : LC τ T C := by
  refine ⟨h.1, by rw [h0]; exact h.2.1, by rw [h2]; exact h.2.2.1, fun c hcc => ?_⟩
  rw [hc 24 (by decide) (by decide), hc 25 (by decide) (by decide), hg (34 + 2 * c) (by omega), hg (35 + 2 * c) (by omega)]
  exact h.2.2.2 c hcc
/-- what is not scratch is as it was -/
theorem LI.cg {σ τ : ST} {T P C : Nat} (h : LI σ T P C) (hc : ∀ k, 12 ≤ k → k ≤ 25 → τ k = σ k) (h40 : τ 40 = σ 40) (hg : ∀ k, 41 ≤ k → k ≤ 43 → τ k = σ k) : LI τ T P C :=
  ⟨h.1.cg (by rw [hc 12 (by decide) (by decide)]) (by rw [hc 12 (by decide) (by decide)]) (fun k h1 h2 => hc k (by omega) (by omega)) (fun i _ _ _ => by rw [h40]), h.2.1.cg (by rw [hc 21 (by decide) (by decide)]) (fun k h1 h2 => hc k (by omega) (by omega)) hg, h.2.2.1.cg (by rw [hc 21 (by decide) (by decide)]) (fun k h1 h2 => hc k (by omega) (by omega)) (by rw [h40]) (fun i _ => by rw [h40]), by rw [hc 12 (by decide) (by decide), h40]; exact h.2.2.2⟩
theorem LI.kp {σ τ : ST} {T P C : Nat} (h : LI σ T P C) (hk : Kp σ τ) : LI τ T P C := by
  have hh : ∀ k, ¬ (k = 10 ∨ k = 11 ∨ (30 ≤ k ∧ k ≤ 36) ∨ k = 38) → τ k = σ k := hk
  exact h.cg (fun k h1 h2 => hh k (by omega)) (hh 40 (by omega)) (fun k h1 h2 => hh k (by omega))
theorem LI.r {σ : ST} {T P C : Nat} {f : Nat → Int32} (h : LI σ T P C) : LI (setc σ 44 f) T P C := h.cg (fun k h1 h2 => setc_n (by omega)) (setc_n (by decide)) (fun k h1 h2 => setc_n (by omega))
theorem Kp.refl {σ : ST} : Kp σ σ := fun _ _ => rfl
theorem Kp.trans {σ τ υ : ST} (h : Kp σ τ) (h2 : Kp τ υ) : Kp σ υ := fun k hk => (h2 k hk).trans (h k hk)
theorem Kp.setc {σ : ST} {k : Nat} {f : Nat → Int32} (h : scr k) : Kp σ (setc σ k f) := fun j hj => setc_n (fun e => hj (e ▸ h))
theorem Kp.put {σ : ST} {s : S4} : Kp σ (putS σ s) := fun k hk => by
  unfold putS setf
  unfold scr at hk
  rw [setc_n (by omega), setc_n (by omega), setc_n (by omega), setc_n (by omega)]
theorem Kp.prep {σ : ST} {C : Nat} : Kp σ (prepF σ C) := fun k hk => by
  unfold prepF setf
  unfold scr at hk
  rw [setc_n (by omega), setc_n (by omega), setc_n (by omega), setc_n (by omega), setc_n (by omega)]
theorem Kp.pa {σ : ST} {T P C N : Nat} : Kp σ (paT σ T P C N) := Kp.prep.trans Kp.put
theorem Kp.fel {σ : ST} {x : Int32} : Kp σ (felS σ x) := Kp.setc (Or.inr (Or.inr (Or.inl ⟨by decide, by decide⟩)))
theorem Kp.vM {σ τ : ST} (h : Kp σ τ) : vM τ = vM σ := by
  have hh : ∀ k, ¬ (k = 10 ∨ k = 11 ∨ (30 ≤ k ∧ k ≤ 36) ∨ k = 38) → τ k = σ k := h
  show vL (τ 40) (τ 41) (τ 42) (τ 43) = _
  rw [hh 40 (by omega), hh 41 (by omega), hh 42 (by omega), hh 43 (by omega)]
theorem want_pos {k : Int32} {n : Nat} (hk : k = 0 ∨ k = 1 ∨ k = 2) (h1 : 1 ≤ n) (h9 : n ≤ 9) : (0 : Int32) < wantM k (nI n) := by
  have hh : ∀ m : Fin 10, 1 ≤ m.val → (0 : Int32) < wantM 0 (nI m.val) ∧ (0 : Int32) < wantM 1 (nI m.val) ∧ (0 : Int32) < wantM 2 (nI m.val) := by decide
  have h2 := hh ⟨n, by omega⟩ h1
  rcases hk with rfl | rfl | rfl
  · exact h2.1
  · exact h2.2.1
  · exact h2.2.2
theorem crs_bit {cd ct : Nat → Int32} : ∀ C : Nat, (∀ c, c < C → (∃ d : Nat, d < 30 ∧ cd c = nI d) ∧ ∃ t : Nat, t < 6 ∧ ct c = nI t) → ∀ d t, d < 30 → t < 6 → (bit (crsF cd ct C d) (nI t) ↔ ∃ c, c < C ∧ cd c = nI d ∧ ct c = nI t) := by
  intro C
  induction C with
  | zero => intro _ d t _ ht; exact ⟨fun h => absurd h (bit_0 (by omega)), fun h => by obtain ⟨c, hc, -⟩ := h; exact absurd hc (Nat.not_lt_zero _)⟩
  | succ C ih =>
    intro hc d t hd ht
    have ih2 := ih (fun c h => hc c (by omega)) d t hd ht
    obtain ⟨⟨x, hx, ex⟩, y, hy, ey⟩ := hc C (by omega)
    show bit (upd (crsF cd ct C) (cd C).toNatClampNeg (crsF cd ct C (cd C).toNatClampNeg ||| own1 (ct C)) d) (nI t) ↔ _
    rw [ex, ey, nI_clamp (by omega)]
    have split : (∃ c, c < C + 1 ∧ cd c = nI d ∧ ct c = nI t) ↔ (∃ c, c < C ∧ cd c = nI d ∧ ct c = nI t) ∨ (d = x ∧ t = y) := by
      constructor
      · rintro ⟨c, h1, h2, h3⟩
        rcases Nat.lt_or_ge c C with h4 | h4
        · exact Or.inl ⟨c, h4, h2, h3⟩
        · rw [show c = C by omega] at h2 h3
          exact Or.inr ⟨((nI_eq (by omega) (by omega)).mp (ex.symm.trans h2)).symm, ((nI_eq (by omega) (by omega)).mp (ey.symm.trans h3)).symm⟩
      · rintro (⟨c, h1, h2⟩ | ⟨rfl, rfl⟩)
        · exact ⟨c, by omega, h2⟩
        · exact ⟨C, by omega, ex, ey⟩
    rw [split]
    unfold upd
    by_cases e : d = x
    · rw [if_pos e]
      subst e
      rw [bit_or (by omega), ih2, bit_own (by omega) (by omega)]
      exact ⟨fun h => h.elim Or.inl (fun q => Or.inr ⟨rfl, q⟩), fun h => h.elim Or.inl (fun q => Or.inr q.2)⟩
    · rw [if_neg e, ih2]
      exact ⟨Or.inl, fun h => h.elim id (fun q => absurd q.1 e)⟩
/-- the days of both sides, with x felled -/
theorem DI_of {σ : ST} {T P C : Nat} (x : Int32) (hG : LG σ T P) (hW : LW σ T) (hC : LC σ T C) : DI (felS (prepF σ C) x) (vL (upd (σ 40) 21 x) (σ 41) (σ 42) (σ 43)) T P C := by
  obtain ⟨⟨hT0, hT6, hP0, hP6⟩, -, hTr, hPr, hE⟩ := hG
  have u : ∀ i, i ≠ 21 → upd (σ 40) 21 x i = σ 40 i := fun i h => upd_ne h
  refine ⟨hT6, hP6, fun c hc => ?_, fun t ht => ?_, fun d hd => ?_⟩
  · show ∃ t : Nat, t < T ∧ upd (σ 40) 21 x (35 + 2 * c) = nI t
    rw [u _ (by omega)]
    exact (hC.2.2.2 c hc).2.2.2
  · obtain ⟨⟨t1, t2, t3, t4, t5⟩, t6, ⟨l, hl, el⟩, n, n1, n9, en⟩ := hTr t ht
    show σ 16 t = wantM (upd (σ 40) 21 x (3 + t)) (upd (σ 40) 21 x (15 + t)) ∧ (0 : Int32) < σ 16 t ∧ (bit x (nI t) ↔ ¬ (upd (σ 40) 21 x 21 >>> (nI t &&& 31)) &&& 1 = 0) ∧ ∀ p, p < 32 → (bit (σ 17 t) (nI p) ↔ p < P ∧ bit (opM (upd (σ 40) 21 x (3 + t)) (upd (σ 40) 21 x (9 + t))) (upd (σ 40) 21 x (22 + p)))
    rw [u (3 + t) (by omega), u (9 + t) (by omega), u (15 + t) (by omega), upd_at]
    refine ⟨t4, ?_, Iff.rfl, fun p hp => ?_⟩
    · rw [t4, en]; exact want_pos t6 n1 n9
    · rw [t5, u (22 + p) (by omega)]; exact bit_setB P (by omega) p hp
  · obtain ⟨w1, w2, ⟨v, hv, ev⟩, w4, w5⟩ := hW.2 d hd
    have ew : woM (vL (upd (σ 40) 21 x) (σ 41) (σ 42) (σ 43)) d = σ 42 d := if_pos rfl
    rw [ew]
    refine ⟨hW.1 d hd, w1, ?_, w2, w4, fun t ht => ?_, fun p hp => ?_⟩
    · show ¬ σ 22 d < 0
      rw [w1, ev]; exact nI_pos (by omega)
    · show bit (crsF (σ 24) (σ 25) C d) (nI t) ↔ ∃ c, c < C ∧ upd (σ 40) 21 x (34 + 2 * c) = nI d ∧ upd (σ 40) 21 x (35 + 2 * c) = nI t
      rw [crs_bit C (fun c hc => by
        obtain ⟨e1, e2, ⟨a, ha, ea⟩, b, hb, eb⟩ := hC.2.2.2 c hc
        exact ⟨⟨a, ha, e1.trans ea⟩, b, by omega, e2.trans eb⟩) d t hd (by omega)]
      constructor
      · rintro ⟨c, h1, h2, h3⟩
        obtain ⟨e1, e2, -⟩ := hC.2.2.2 c h1
        exact ⟨c, h1, by rw [u _ (by omega), ← e1]; exact h2, by rw [u _ (by omega), ← e2]; exact h3⟩
      · rintro ⟨c, h1, h2, h3⟩
        rw [u _ (by omega)] at h2 h3
        obtain ⟨e1, e2, -⟩ := hC.2.2.2 c h1
        exact ⟨c, h1, e1.trans h2, e2.trans h3⟩
    · show bit (σ 20 d) (nI p) ↔ p < P ∧ upd (σ 40) 21 x (28 + p) = nI d
      rw [hE d hd, u _ (by omega)]
      exact bit_setB P (by omega) p hp
theorem days_fel {σ : ST} {T P C N : Nat} (x : Int32) (h : LI σ T P C) (hN : N ≤ 30) : EqC T P (daysC (felS (prepF σ C) x) T P N (s0C σ)) (mDC (vL (upd (σ 40) 21 x) (σ 41) (σ 42) (σ 43)) T P C N) := run_full (DI_of x h.1 h.2.1 h.2.2.1) h.P12 hN
theorem days_LI {σ : ST} {T P C N : Nat} (h : LI σ T P C) (hN : N ≤ 30) : EqC T P (daysC (prepF σ C) T P N (s0C σ)) (mDC (vM σ) T P C N) := by
  have h1 := days_fel (σ 12 2) h hN
  have e : felS (prepF σ C) (σ 12 2) = prepF σ C := setf_setf
  rw [e, h.2.2.2, upd_id] at h1
  exact h1
/-! what class and law tell of the days -/
theorem sum_eq {f g : Nat → Int32} : ∀ P, (∀ p, p < P → f p = g p) → sumO f P = sumO g P := by
  intro P
  induction P with
  | zero => intro _; rfl
  | succ P ih =>
    intro h
    show sumO f P + f P = sumO g P + g P
    rw [ih (fun p hp => h p (by omega)), h P (by omega)]
theorem free_eq {T P N : Nat} {s : S4} {m : S3} (hP6 : P ≤ 6) (hE : EqC T P s m) (hk : OkM P m) : ones (nI P) &&& (s.2.2.2 ^^^ -1) = setB (fun p => ¬ rOf m (6 + p) < 0) P := by
  refine bit_ext fun i hi => ?_
  rw [bit_and hi, bit_ones hP6 hi, bit_not hi, hE.2.2 i hi, bit_setB P (by omega) i hi]
  refine and_congr_right fun hiP => ?_
  rw [rOf_o (by omega)]
  rcases hk i hiP with e | ⟨d, hd, e⟩
  · rw [e]
    exact ⟨fun h => absurd ⟨hiP, rfl⟩ h, fun h => absurd (by decide) h⟩
  · rw [e]
    exact ⟨fun _ => nI_pos (by omega), fun _ h => nI_ne9 (by omega) h.2⟩
theorem worth_eq {a b c : Int32} : a - b + c = c + a - b := by
  rw [Int32.sub_eq_add_neg, Int32.sub_eq_add_neg, Int32.add_comm, Int32.add_assoc]
end
section
/-! THE LAW: its small methods, and its days -/
def wk : List Value → List Value → Prop
  | [], [] => True
  | a :: l, b :: m => (b = a ∨ isDead b = true) ∧ wk l m
  | _, _ => False
theorem wk_at : ∀ {l m : List Value}, wk l m → ∀ {i : Nat} {v : Value}, m[i]? = some v → isDead v = false → l[i]? = some v := by
  intro l
  induction l with
  | nil => intro m h i v hi _; cases m with
    | nil => exact hi
    | cons b m => exact h.elim
  | cons a l ih => intro m h i v hi hd; cases m with
    | nil => exact h.elim
    | cons b m =>
      cases i with
      | zero =>
        rcases h.1 with e | e
        · rw [← e]; exact hi
        · have : b = v := Option.some.inj hi
          rw [this] at e
          rw [e] at hd
          exact absurd hd (by decide)
      | succ i => exact ih h.2 hi hd
/-- what stands in a local may be forgotten -/
theorem V_wk {X : CT} {pc : Nat} {lv lv2 st : List Value} {σ : ST} (h : wk lv lv2) (k : V X pc lv2 st σ) : V X pc lv st σ := fun H locs ls hP hS hl => k H locs ls hP hS (LV.of hl fun i v hi hd => mem_al.mpr ⟨wk_at h hi hd, hd⟩)
def someL (x n : Int32) : Int32 := remI (x &&& 2147483647) n
theorem pos31 (x : Int32) : ∃ a : Nat, a < 2 ^ 31 ∧ x &&& 2147483647 = nI a := by
  refine ⟨(x &&& 2147483647).toBitVec.toNat, ?_, ?_⟩
  · rw [Int32.toBitVec_and, BitVec.toNat_and]
    exact Nat.lt_of_le_of_lt Nat.and_le_right (by decide)
  · rw [← Int32.toBitVec_inj]
    show _ = BitVec.ofNat 32 _
    rw [BitVec.ofNat_toNat, BitVec.setWidth_eq]
theorem some_nI {x n : Int32} (N : Nat) (h : n = nI N) (h0 : 0 < N) (hN : N < 2 ^ 31) : ∃ j : Nat, j < N ∧ someL x n = nI j := by
  obtain ⟨a, ha, e⟩ := pos31 x
  unfold someL remI
  rw [e, h, pk_rem ha h0 hN]
  exact ⟨a % N, Nat.mod_lt _ h0, rfl⟩
theorem ix2 (a c : Nat) : nI a + 2 * nI c = nI (a + 2 * c) := by
  rw [show (2 : Int32) * nI c = nI (2 * c) from pk_mul 2 c, nI_add]

set_option maxHeartbeats 4000000 in
set_option maxRecDepth 100000 in
theorem c_L_cell {l : Launch} {D : DD} {ad : Nat → Nat} (σ : ST) (j : Nat) (hsm : sN D < 2 ^ 31) (hj : j < 2 ^ 31) : Ct l yL_cell cL_cell 2 (Option.some FieldType.int) 0 0 D ad [.ref (sB D), .int (nI j)] σ (pq (fun _ τ => τ = σ)) := by
  refine Ct.of2 [.ref (sB D), .int (nI j)] rfl (Nat.le_of_ble_eq_true rfl) rfl ?_
  rintro X C rfl rfl rfl hxn hR
  refine V_iload_n_1 (q := 1) C rfl dL_cell_0 ?_
  refine V_aload_n_0 (q := 2) C rfl dL_cell_1 ?_
  refine V_slen (q := 3) C rfl dL_cell_2 ?_
  refine V_icmp_ge (tgt := 12) C rfl (by decide) dL_cell_3 (fun c3 => ?_) (fun c3 => ?_)
  · refine V_ldc (q := 14) C wc_L_7 rfl dL_cell_12 ?_
    refine V_iload_n_1 (q := 15) C rfl dL_cell_14 ?_
    refine V_iconst (q := 16) (v := 1) C rfl rfl dL_cell_15 ?_
    refine V_iadd (q := 17) C rfl dL_cell_16 ?_
    refine V_imul (q := 18) C rfl dL_cell_17 ?_
    refine V_iret C hR dL_cell_18 ?_
    exact ⟨_, rfl, rfl⟩
  · refine V_aload_n_0 (q := 7) C rfl dL_cell_6 ?_
    refine V_iload_n_1 (q := 8) C rfl dL_cell_7 ?_
    refine V_sld (q := 9) C hsm j rfl (by rcases Nat.lt_or_ge j (sN (xD X)) with h | h; exact h; exact absurd (nI_le h (by omega)) c3) rfl dL_cell_8 ?_
    refine V_goto (tgt := 18) C (by decide) dL_cell_9 ?_
    refine V_iret C hR dL_cell_18 ?_
    exact ⟨_, rfl, rfl⟩

set_option maxHeartbeats 4000000 in
set_option maxRecDepth 100000 in
theorem c_L_some {l : Launch} {D : DD} {ad : Nat → Nat} (σ : ST) (x n : Int32) (hn : ¬ n = 0) : Ct l yL_some cL_some 2 (Option.some FieldType.int) 0 0 D ad [.int x, .int n] σ (ex (some (.int (someL x n))) σ) := by
  refine Ct.of2 [.int x, .int n] rfl (Nat.le_of_ble_eq_true rfl) rfl ?_
  rintro X C rfl rfl rfl hxn hR
  refine V_iload_n_0 (q := 1) C rfl dL_some_0 ?_
  refine V_ldc (q := 3) C wc_L_8 rfl dL_some_1 ?_
  refine V_iand (q := 4) C rfl dL_some_3 ?_
  refine V_iload_n_1 (q := 5) C rfl dL_some_4 ?_
  refine V_irem (q := 6) C hn rfl dL_some_5 ?_
  refine V_iret C hR dL_some_6 ?_
  exact ⟨rfl, rfl⟩

theorem want_dec (n : Nat) (hn : n ≤ 9) : nI n + 0 = wantM 0 (nI n) ∧ nI n + 1 = wantM 1 (nI n) ∧ nI n + 1 + (nI n + 1) = wantM 2 (nI n) := by
  have hh : ∀ m : Fin 10, nI m.val + 0 = wantM 0 (nI m.val) ∧ nI m.val + 1 = wantM 1 (nI m.val) ∧ nI m.val + 1 + (nI m.val + 1) = wantM 2 (nI m.val) := by decide
  exact hh ⟨n, by omega⟩
set_option maxRecDepth 100000 in
theorem open_dec (k a l : Nat) (hk : k < 3) (ha : a < 6) (hl : l < 6) : bit (opM (nI k) (nI a)) (nI l) ↔ nI k = 2 ∨ nI a = nI l ∨ (nI k = 1 ∧ remI (nI a + 1) 6 = nI l) := by
  have hh : ∀ (k : Fin 3) (a l : Fin 6), bit (opM (nI k.val) (nI a.val)) (nI l.val) ↔ nI k.val = 2 ∨ nI a.val = nI l.val ∨ (nI k.val = 1 ∧ remI (nI a.val + 1) 6 = nI l.val) := by decide
  exact hh ⟨k, hk⟩ ⟨a, ha⟩ ⟨l, hl⟩
theorem k012 {x : Int32} (h : x = 0 ∨ x = 1 ∨ x = 2) : ∃ k : Nat, k < 3 ∧ x = nI k := by
  rcases h with rfl | rfl | rfl
  · exact ⟨0, by decide, rfl⟩
  · exact ⟨1, by decide, rfl⟩
  · exact ⟨2, by decide, rfl⟩

set_option maxHeartbeats 4000000 in
set_option maxRecDepth 100000 in
theorem c_L_wants {l : Launch} {D : DD} {ad : Nat → Nat} (σ : ST) (j n : Nat) (hj : j < 6) (hk : σ 40 (3 + j) = 0 ∨ σ 40 (3 + j) = 1 ∨ σ 40 (3 + j) = 2) (hn : n ≤ 9) (en : σ 40 (15 + j) = nI n) : Ct l yL_wants cL_wants 3 (Option.some FieldType.int) 0 0 D ad [.ref (ad 40), .int (nI j)] σ (ex (some (.int (wantM (σ 40 (3 + j)) (nI n)))) σ) := by
  refine Ct.of2 [.ref (ad 40), .int (nI j), .float 0] rfl (Nat.le_of_ble_eq_true rfl) rfl ?_
  rintro X C rfl rfl rfl hxn hR
  have hn2 : 2 < xn X := by rw [← hxn]; decide
  refine V_aload_n_0 (q := 1) C rfl dL_wants_0 ?_
  refine V_bipush (q := 3) (v := 15) C (by decide) rfl dL_wants_1 ?_
  refine V_iload_n_1 (q := 4) C rfl dL_wants_3 ?_
  refine V_iadd (q := 5) C rfl dL_wants_4 ?_
  refine V_ialde (q := 6) C (15 + j) (nI_add 15 j) (by show _ < 48; omega) en rfl (by decide) (by decide) rfl dL_wants_5 ?_
  refine V_aload_n_0 (q := 7) C rfl dL_wants_6 ?_
  refine V_iconst (q := 8) (v := 3) C rfl rfl dL_wants_7 ?_
  refine V_iload_n_1 (q := 9) C rfl dL_wants_8 ?_
  refine V_iadd (q := 10) C rfl dL_wants_9 ?_
  refine V_iald (q := 11) C (3 + j) (nI_add 3 j) (by show _ < 48; omega) rfl (by decide) (by decide) rfl dL_wants_10 ?_
  refine V_if_le (tgt := 18) C rfl (by decide) dL_wants_11 (fun c11 => ?_) (fun c11 => ?_)
  · refine V_iconst (q := 19) (v := 0) C rfl rfl dL_wants_18 ?_
    refine V_iadd (q := 20) C rfl dL_wants_19 ?_
    refine V_istore_n_2 (q := 21) C hn2 rfl rfl dL_wants_20 ?_
    refine V_aload_n_0 (q := 22) C rfl dL_wants_21 ?_
    refine V_iconst (q := 23) (v := 3) C rfl rfl dL_wants_22 ?_
    refine V_iload_n_1 (q := 24) C rfl dL_wants_23 ?_
    refine V_iadd (q := 25) C rfl dL_wants_24 ?_
    refine V_iald (q := 26) C (3 + j) (nI_add 3 j) (by show _ < 48; omega) rfl (by decide) (by decide) rfl dL_wants_25 ?_
    refine V_iconst (q := 27) (v := 2) C rfl rfl dL_wants_26 ?_
    refine V_icmp_ne (tgt := 36) C rfl (by decide) dL_wants_27 (fun c26 => ?_) (fun c26 => ?_)
    · refine V_iload_n_2 (q := 37) C rfl dL_wants_36 ?_
      refine V_iret C hR dL_wants_37 ?_
      refine ⟨congrArg (fun z => some (Value.int z)) ?_, rfl⟩
      obtain ⟨w0, w1, w2⟩ := want_dec n hn
      rcases hk with h | h | h <;> rw [h] at c11 c26 <;> rw [h] <;> first | exact w0 | exact w1 | exact w2 | exact absurd c11 (by decide) | exact absurd rfl c26 | exact absurd c26 (by decide)
    · refine V_iload_n_2 (q := 31) C rfl dL_wants_30 ?_
      refine V_iload_n_2 (q := 32) C rfl dL_wants_31 ?_
      refine V_iadd (q := 33) C rfl dL_wants_32 ?_
      refine V_goto (tgt := 37) C (by decide) dL_wants_33 ?_
      refine V_iret C hR dL_wants_37 ?_
      refine ⟨congrArg (fun z => some (Value.int z)) ?_, rfl⟩
      obtain ⟨w0, w1, w2⟩ := want_dec n hn
      rcases hk with h | h | h <;> rw [h] at c11 c26 <;> rw [h] <;> first | exact w0 | exact w1 | exact w2 | exact absurd c11 (by decide) | exact absurd rfl c26 | exact absurd c26 (by decide)
  · refine V_iconst (q := 15) (v := 1) C rfl rfl dL_wants_14 ?_
    refine V_goto (tgt := 19) C (by decide) dL_wants_15 ?_
    refine V_iadd (q := 20) C rfl dL_wants_19 ?_
    refine V_istore_n_2 (q := 21) C hn2 rfl rfl dL_wants_20 ?_
    refine V_aload_n_0 (q := 22) C rfl dL_wants_21 ?_
    refine V_iconst (q := 23) (v := 3) C rfl rfl dL_wants_22 ?_
    refine V_iload_n_1 (q := 24) C rfl dL_wants_23 ?_
    refine V_iadd (q := 25) C rfl dL_wants_24 ?_
    refine V_iald (q := 26) C (3 + j) (nI_add 3 j) (by show _ < 48; omega) rfl (by decide) (by decide) rfl dL_wants_25 ?_
    refine V_iconst (q := 27) (v := 2) C rfl rfl dL_wants_26 ?_
    refine V_icmp_ne (tgt := 36) C rfl (by decide) dL_wants_27 (fun c26 => ?_) (fun c26 => ?_)
    · refine V_iload_n_2 (q := 37) C rfl dL_wants_36 ?_
      refine V_iret C hR dL_wants_37 ?_
      refine ⟨congrArg (fun z => some (Value.int z)) ?_, rfl⟩
      obtain ⟨w0, w1, w2⟩ := want_dec n hn
      rcases hk with h | h | h <;> rw [h] at c11 c26 <;> rw [h] <;> first | exact w0 | exact w1 | exact w2 | exact absurd c11 (by decide) | exact absurd rfl c26 | exact absurd c26 (by decide)
    · refine V_iload_n_2 (q := 31) C rfl dL_wants_30 ?_
      refine V_iload_n_2 (q := 32) C rfl dL_wants_31 ?_
      refine V_iadd (q := 33) C rfl dL_wants_32 ?_
      refine V_goto (tgt := 37) C (by decide) dL_wants_33 ?_
      refine V_iret C hR dL_wants_37 ?_
      refine ⟨congrArg (fun z => some (Value.int z)) ?_, rfl⟩
      obtain ⟨w0, w1, w2⟩ := want_dec n hn
      rcases hk with h | h | h <;> rw [h] at c11 c26 <;> rw [h] <;> first | exact w0 | exact w1 | exact w2 | exact absurd c11 (by decide) | exact absurd rfl c26 | exact absurd c26 (by decide)

set_option maxHeartbeats 4000000 in
set_option maxRecDepth 100000 in
theorem c_L_opens {l : Launch} {D : DD} {ad : Nat → Nat} (σ : ST) (j k a b : Nat) (hj : j < 6) (hk : k < 3) (ek : σ 40 (3 + j) = nI k) (ha : a < 6) (ea : σ 40 (9 + j) = nI a) (hl : b < 6) : Ct l yL_opens cL_opens 3 (Option.some FieldType.boolean) 0 0 D ad [.ref (ad 40), .int (nI j), .int (nI b)] σ (ex (some (.int (pI (bit (opM (nI k) (nI a)) (nI b))))) σ) := by
  refine Ct.of2 [.ref (ad 40), .int (nI j), .int (nI b)] rfl (Nat.le_of_ble_eq_true rfl) rfl ?_
  rintro X C rfl rfl rfl hxn hR
  have hd := open_dec k a b hk ha hl
  refine V_aload_n_0 (q := 1) C rfl dL_opens_0 ?_
  refine V_iconst (q := 2) (v := 3) C rfl rfl dL_opens_1 ?_
  refine V_iload_n_1 (q := 3) C rfl dL_opens_2 ?_
  refine V_iadd (q := 4) C rfl dL_opens_3 ?_
  refine V_ialde (q := 5) C (3 + j) (nI_add 3 j) (by show _ < 48; omega) ek rfl (by decide) (by decide) rfl dL_opens_4 ?_
  refine V_iconst (q := 6) (v := 2) C rfl rfl dL_opens_5 ?_
  refine V_icmp_eq (tgt := 43) C rfl (by decide) dL_opens_6 (fun c6 => ?_) (fun c6 => ?_)
  · refine V_iconst (q := 44) (v := 1) C rfl rfl dL_opens_43 ?_
    refine V_goto (tgt := 48) C (by decide) dL_opens_44 ?_
    refine V_zret C hR rfl dL_opens_48 ?_
    exact ⟨by rw [pI_t (hd.mpr (Or.inl c6))], rfl⟩
  · refine V_aload_n_0 (q := 10) C rfl dL_opens_9 ?_
    refine V_bipush (q := 12) (v := 9) C (by decide) rfl dL_opens_10 ?_
    refine V_iload_n_1 (q := 13) C rfl dL_opens_12 ?_
    refine V_iadd (q := 14) C rfl dL_opens_13 ?_
    refine V_ialde (q := 15) C (9 + j) (nI_add 9 j) (by show _ < 48; omega) ea rfl (by decide) (by decide) rfl dL_opens_14 ?_
    refine V_iload_n_2 (q := 16) C rfl dL_opens_15 ?_
    refine V_icmp_eq (tgt := 43) C rfl (by decide) dL_opens_16 (fun c16 => ?_) (fun c16 => ?_)
    · refine V_iconst (q := 44) (v := 1) C rfl rfl dL_opens_43 ?_
      refine V_goto (tgt := 48) C (by decide) dL_opens_44 ?_
      refine V_zret C hR rfl dL_opens_48 ?_
      exact ⟨by rw [pI_t (hd.mpr (Or.inr (Or.inl c16)))], rfl⟩
    · refine V_aload_n_0 (q := 20) C rfl dL_opens_19 ?_
      refine V_iconst (q := 21) (v := 3) C rfl rfl dL_opens_20 ?_
      refine V_iload_n_1 (q := 22) C rfl dL_opens_21 ?_
      refine V_iadd (q := 23) C rfl dL_opens_22 ?_
      refine V_ialde (q := 24) C (3 + j) (nI_add 3 j) (by show _ < 48; omega) ek rfl (by decide) (by decide) rfl dL_opens_23 ?_
      refine V_iconst (q := 25) (v := 1) C rfl rfl dL_opens_24 ?_
      refine V_icmp_ne (tgt := 47) C rfl (by decide) dL_opens_25 (fun c25 => ?_) (fun c25 => ?_)
      · refine V_iconst (q := 48) (v := 0) C rfl rfl dL_opens_47 ?_
        refine V_zret C hR rfl dL_opens_48 ?_
        exact ⟨by rw [pI_f (fun h => (hd.mp h).elim c6 (fun h => h.elim c16 (fun h => c25 h.1)))], rfl⟩
      · refine V_aload_n_0 (q := 29) C rfl dL_opens_28 ?_
        refine V_bipush (q := 31) (v := 9) C (by decide) rfl dL_opens_29 ?_
        refine V_iload_n_1 (q := 32) C rfl dL_opens_31 ?_
        refine V_iadd (q := 33) C rfl dL_opens_32 ?_
        refine V_ialde (q := 34) C (9 + j) (nI_add 9 j) (by show _ < 48; omega) ea rfl (by decide) (by decide) rfl dL_opens_33 ?_
        refine V_iconst (q := 35) (v := 1) C rfl rfl dL_opens_34 ?_
        refine V_iadd (q := 36) C rfl dL_opens_35 ?_
        refine V_bipush (q := 38) (v := 6) C (by decide) rfl dL_opens_36 ?_
        refine V_irem (q := 39) C (by decide) rfl dL_opens_38 ?_
        refine V_iload_n_2 (q := 40) C rfl dL_opens_39 ?_
        refine V_icmp_ne (tgt := 47) C rfl (by decide) dL_opens_40 (fun c40 => ?_) (fun c40 => ?_)
        · refine V_iconst (q := 48) (v := 0) C rfl rfl dL_opens_47 ?_
          refine V_zret C hR rfl dL_opens_48 ?_
          exact ⟨by rw [pI_f (fun h => (hd.mp h).elim c6 (fun h => h.elim c16 (fun h => c40 h.2)))], rfl⟩
        · refine V_iconst (q := 44) (v := 1) C rfl rfl dL_opens_43 ?_
          refine V_goto (tgt := 48) C (by decide) dL_opens_44 ?_
          refine V_zret C hR rfl dL_opens_48 ?_
          exact ⟨by rw [pI_t (hd.mpr (Or.inr (Or.inr ⟨c25, c40⟩)))], rfl⟩

def r0 : Nat → Int32 := fun k => if k < 6 then 0 else -9
theorem r0_r {k : Nat} : r0 k = rOf mc0 k := by
  unfold r0 rOf
  by_cases h : k < 6
  · rw [if_pos h, if_pos h]; rfl
  · rw [if_neg h, if_neg h]
    by_cases h2 : k < 12
    · rw [if_pos h2]; rfl
    · rw [if_neg h2]; rfl

set_option maxHeartbeats 4000000 in
set_option maxRecDepth 100000 in
theorem c_L_go {l : Launch} {D : DD} {ad : Nat → Nat} (σ : ST) (T P C2 e : Nat) (hf : fl D = 1) (hG : LG σ T P) (hW : LW σ T) (hC0 : LC σ T C2) (he : e < 30) : Ct l yL_go cL_go 9 (Option.none : Option FieldType) 1 22 D ad [.ref (ad 40), .ref (ad 41), .ref (ad 42), .ref (ad 43), .int (nI e), .ref (ad 44)] σ (ex none (setc σ 44 (rOf (mDC (vM σ) T P C2 (e + 1))))) := by
  refine Ct.of2 [.ref (ad 40), .ref (ad 41), .ref (ad 42), .ref (ad 43), .int (nI e), .ref (ad 44), .float 0, .float 0, .float 0] rfl (Nat.le_of_ble_eq_true rfl) rfl ?_
  rintro X C rfl rfl rfl hxn hR
  have hn6 : 6 < xn X := by rw [← hxn]; decide
  have hn7 : 7 < xn X := by rw [← hxn]; decide
  have hn8 : 8 < xn X := by rw [← hxn]; decide
  obtain ⟨⟨hT0, hT6, hP0, hP6⟩, ⟨-, -, hT, hP⟩, hTr0, hPr0, -⟩ := hG
  obtain ⟨hC6, -, hC, hCr0⟩ := hC0
  have hTr : ∀ t, t < T → (σ 40 (3 + t) = 0 ∨ σ 40 (3 + t) = 1 ∨ σ 40 (3 + t) = 2) ∧ ∃ n : Nat, n ≤ 9 ∧ σ 40 (15 + t) = nI n := fun t ht => ⟨(hTr0 t ht).2.1, by obtain ⟨n, -, h9, en⟩ := (hTr0 t ht).2.2.2; exact ⟨n, h9, en⟩⟩
  have hLk : ∀ t, t < T → ∃ l : Nat, l < 6 ∧ σ 40 (9 + t) = nI l := fun t ht => (hTr0 t ht).2.2.1
  have hPr : ∀ p, p < P → ∃ l : Nat, l < 6 ∧ σ 40 (22 + p) = nI l := fun p hp => (hPr0 p hp).2.2.1
  have hCr : ∀ c, c < C2 → ∃ t : Nat, t < T ∧ σ 40 (35 + 2 * c) = nI t := fun c hc => (hCr0 c hc).2.2.2
  have hWt : ∀ d, d < 30 → σ 42 d = -9 ∨ ∃ t : Nat, t < T ∧ σ 42 d = nI t := fun d hd => (hW.2 d hd).2.2.2.1
  refine V_iconst (q := 1) (v := (nI 0)) C rfl rfl dL_go_0 ?_
  refine V_istore_6 (q := 3) C hn6 rfl rfl dL_go_1 ?_
  have hx3 : V X 3 [.ref (xad X 40), .ref (xad X 41), .ref (xad X 42), .ref (xad X 43), .int (nI e), .ref (xad X 44), .int (nI 18), .float 0, .float 0] [] (setc σ 44 (pre 18 r0 (σ 44))) := by
    refine V_iload_6 (q := 5) C rfl dL_go_3 ?_
    refine V_bipush (q := 7) (v := 18) C (by decide) rfl dL_go_5 ?_
    refine V_icmp_ge_t (tgt := 34) C (by decide) (by decide) dL_go_7 ?_
    refine V_arr_congr (k := 44) (g := rOf mc0) (Or.inl rfl) (fun i hi => (pre_lt (i := 18) (t := i) hi).trans r0_r) ?_
    refine V_iconst (q := 35) (v := (nI 0)) C rfl rfl dL_go_34 ?_
    refine V_istore_6 (q := 37) C hn6 rfl rfl dL_go_35 ?_
    have hx37 : V X 37 [.ref (xad X 40), .ref (xad X 41), .ref (xad X 42), .ref (xad X 43), .int (nI e), .ref (xad X 44), .int (nI ((e + 1))), .float 0, .float 0] [] (setc σ 44 (rOf (mDays (vM σ) T P C2 ((e + 1)) mc0))) := by
      refine V_iload_6 (q := 39) C rfl dL_go_37 ?_
      refine V_iload_4 (q := 41) C rfl dL_go_39 ?_
      refine V_icmp_gt_t (tgt := 346) C (nI_lt (by omega) (by omega)) (by decide) dL_go_41 ?_
      refine V_vret C hR dL_go_346 ?_
      exact ⟨rfl, rfl⟩
    have hs37 : ∀ d : Nat, d < (e + 1) → (V X 37 [.ref (xad X 40), .ref (xad X 41), .ref (xad X 42), .ref (xad X 43), .int (nI e), .ref (xad X 44), .int (nI (d + 1)), .float 0, .float 0] [] (setc σ 44 (rOf (mDays (vM σ) T P C2 (d + 1) mc0)))) → V X 37 [.ref (xad X 40), .ref (xad X 41), .ref (xad X 42), .ref (xad X 43), .int (nI e), .ref (xad X 44), .int (nI d), .float 0, .float 0] [] (setc σ 44 (rOf (mDays (vM σ) T P C2 d mc0))) := by
      intro d hi37 ih37
      have hd : d < 30 := by omega
      have hok := mDays_ok (μ := vM σ) (T := T) (P := P) (C := C2) d (by omega)
      refine V_iload_6 (q := 39) C rfl dL_go_37 ?_
      refine V_iload_4 (q := 41) C rfl dL_go_39 ?_
      refine V_icmp_gt_f (tgt := 346) C (nI_nlt (by omega) (by omega)) rfl (by decide) dL_go_41 ?_
      refine V_iconst (q := 45) (v := (nI 0)) C rfl rfl dL_go_44 ?_
      refine V_istore_7 (q := 47) C hn7 rfl rfl dL_go_45 ?_
      have hx47 : V X 47 [.ref (xad X 40), .ref (xad X 41), .ref (xad X 42), .ref (xad X 43), .int (nI e), .ref (xad X 44), .int (nI d), .int (nI T), .float 0] [] (setc σ 44 (rOf (gwA (vM σ) d T (mDays (vM σ) T P C2 d mc0)))) := by
        refine V_iload_7 (q := 49) C rfl dL_go_47 ?_
        refine V_aload_n_0 (q := 50) C rfl dL_go_49 ?_
        refine V_iconst (q := 51) (v := 0) C rfl rfl dL_go_50 ?_
        refine V_ialde (q := 52) C 0 rfl (by show _ < 48; omega) hT rfl (by decide) (by decide) rfl dL_go_51 ?_
        refine V_icmp_ge_t (tgt := 95) C (nI_le (Nat.le_refl _) (by omega)) (by decide) dL_go_52 ?_
        refine V_eq (τ := setc σ 44 (rOf (md1 (vM σ) T d (mDays (vM σ) T P C2 d mc0)))) (congrArg (fun z => setc σ 44 (rOf z)) (gwA_T hT6 (hWt d hd))) ?_
        refine V_iconst (q := 96) (v := (nI 0)) C rfl rfl dL_go_95 ?_
        refine V_istore_7 (q := 98) C hn7 rfl rfl dL_go_96 ?_
        have hx98 : V X 98 [.ref (xad X 40), .ref (xad X 41), .ref (xad X 42), .ref (xad X 43), .int (nI e), .ref (xad X 44), .int (nI d), .int (nI C2), .float 0] [] (setc σ 44 (rOf (crM (vM σ) d C2 (md1 (vM σ) T d (mDays (vM σ) T P C2 d mc0)).1, (md1 (vM σ) T d (mDays (vM σ) T P C2 d mc0)).2))) := by
          refine V_iload_7 (q := 100) C rfl dL_go_98 ?_
          refine V_aload_n_0 (q := 101) C rfl dL_go_100 ?_
          refine V_iconst (q := 102) (v := 2) C rfl rfl dL_go_101 ?_
          refine V_ialde (q := 103) C 2 rfl (by show _ < 48; omega) hC rfl (by decide) (by decide) rfl dL_go_102 ?_
          refine V_icmp_ge_t (tgt := 167) C (nI_le (Nat.le_refl _) (by omega)) (by decide) dL_go_103 ?_
          refine V_iconst (q := 168) (v := (nI 0)) C rfl rfl dL_go_167 ?_
          refine V_istore_7 (q := 170) C hn7 rfl rfl dL_go_168 ?_
          have hx170 : V X 170 [.ref (xad X 40), .ref (xad X 41), .ref (xad X 42), .ref (xad X 43), .int (nI e), .ref (xad X 44), .int (nI d), .int (nI T), .float 0] [] (setc σ 44 (rOf (kyM (vM σ) P d T (md2 (vM σ) C2 d (md1 (vM σ) T d (mDays (vM σ) T P C2 d mc0)))))) := by
            refine V_iload_7 (q := 172) C rfl dL_go_170 ?_
            refine V_aload_n_0 (q := 173) C rfl dL_go_172 ?_
            refine V_iconst (q := 174) (v := 0) C rfl rfl dL_go_173 ?_
            refine V_ialde (q := 175) C 0 rfl (by show _ < 48; omega) hT rfl (by decide) (by decide) rfl dL_go_174 ?_
            refine V_icmp_ge_t (tgt := 290) C (nI_le (Nat.le_refl _) (by omega)) (by decide) dL_go_175 ?_
            have hokT : OkM P (kyM (vM σ) P d T (md2 (vM σ) C2 d (md1 (vM σ) T d (mDays (vM σ) T P C2 d mc0)))) := kyM_ok hd (show OkM P (md2 (vM σ) C2 d (md1 (vM σ) T d (mDays (vM σ) T P C2 d mc0))) from hok) T
            refine V_iconst (q := 291) (v := (nI 0)) C rfl rfl dL_go_290 ?_
            refine V_istore_7 (q := 293) C hn7 rfl rfl dL_go_291 ?_
            have hx293 : V X 293 [.ref (xad X 40), .ref (xad X 41), .ref (xad X 42), .ref (xad X 43), .int (nI e), .ref (xad X 44), .int (nI d), .int (nI P), .float 0] [] (setc σ 44 (rOf ((kyM (vM σ) P d T (md2 (vM σ) C2 d (md1 (vM σ) T d (mDays (vM σ) T P C2 d mc0)))).1, pre P (tmM (vM σ) d (kyM (vM σ) P d T (md2 (vM σ) C2 d (md1 (vM σ) T d (mDays (vM σ) T P C2 d mc0)))).2.1) (kyM (vM σ) P d T (md2 (vM σ) C2 d (md1 (vM σ) T d (mDays (vM σ) T P C2 d mc0)))).2.1, (kyM (vM σ) P d T (md2 (vM σ) C2 d (md1 (vM σ) T d (mDays (vM σ) T P C2 d mc0)))).2.2))) := by
              refine V_iload_7 (q := 295) C rfl dL_go_293 ?_
              refine V_aload_n_0 (q := 296) C rfl dL_go_295 ?_
              refine V_iconst (q := 297) (v := 1) C rfl rfl dL_go_296 ?_
              refine V_ialde (q := 298) C 1 rfl (by show _ < 48; omega) hP rfl (by decide) (by decide) rfl dL_go_297 ?_
              refine V_icmp_ge_t (tgt := 340) C (nI_le (Nat.le_refl _) (by omega)) (by decide) dL_go_298 ?_
              refine V_iinc_6 (q := 343) (n := 1) C nI_inc hn6 rfl rfl dL_go_340 ?_
              refine V_goto (tgt := 37) C (by decide) dL_go_343 ?_
              refine V_wk (lv2 := [.ref (xad X 40), .ref (xad X 41), .ref (xad X 42), .ref (xad X 43), .int (nI e), .ref (xad X 44), .int (nI (d + 1)), .float 0, .float 0]) ⟨Or.inl rfl, ⟨Or.inl rfl, ⟨Or.inl rfl, ⟨Or.inl rfl, ⟨Or.inl rfl, ⟨Or.inl rfl, ⟨Or.inl rfl, ⟨Or.inr rfl, ⟨Or.inr rfl, trivial⟩⟩⟩⟩⟩⟩⟩⟩⟩ ?_
              exact V_eq rfl ih37
            have hs293 : ∀ p : Nat, p < P → (V X 293 [.ref (xad X 40), .ref (xad X 41), .ref (xad X 42), .ref (xad X 43), .int (nI e), .ref (xad X 44), .int (nI d), .int (nI (p + 1)), .float 0] [] (setc σ 44 (rOf ((kyM (vM σ) P d T (md2 (vM σ) C2 d (md1 (vM σ) T d (mDays (vM σ) T P C2 d mc0)))).1, pre (p + 1) (tmM (vM σ) d (kyM (vM σ) P d T (md2 (vM σ) C2 d (md1 (vM σ) T d (mDays (vM σ) T P C2 d mc0)))).2.1) (kyM (vM σ) P d T (md2 (vM σ) C2 d (md1 (vM σ) T d (mDays (vM σ) T P C2 d mc0)))).2.1, (kyM (vM σ) P d T (md2 (vM σ) C2 d (md1 (vM σ) T d (mDays (vM σ) T P C2 d mc0)))).2.2)))) → V X 293 [.ref (xad X 40), .ref (xad X 41), .ref (xad X 42), .ref (xad X 43), .int (nI e), .ref (xad X 44), .int (nI d), .int (nI p), .float 0] [] (setc σ 44 (rOf ((kyM (vM σ) P d T (md2 (vM σ) C2 d (md1 (vM σ) T d (mDays (vM σ) T P C2 d mc0)))).1, pre p (tmM (vM σ) d (kyM (vM σ) P d T (md2 (vM σ) C2 d (md1 (vM σ) T d (mDays (vM σ) T P C2 d mc0)))).2.1) (kyM (vM σ) P d T (md2 (vM σ) C2 d (md1 (vM σ) T d (mDays (vM σ) T P C2 d mc0)))).2.1, (kyM (vM σ) P d T (md2 (vM σ) C2 d (md1 (vM σ) T d (mDays (vM σ) T P C2 d mc0)))).2.2))) := by
              intro p hi293 ih293
              have hp6 : p < 6 := by omega
              refine V_iload_7 (q := 295) C rfl dL_go_293 ?_
              refine V_aload_n_0 (q := 296) C rfl dL_go_295 ?_
              refine V_iconst (q := 297) (v := 1) C rfl rfl dL_go_296 ?_
              refine V_ialde (q := 298) C 1 rfl (by show _ < 48; omega) hP rfl (by decide) (by decide) rfl dL_go_297 ?_
              refine V_icmp_ge_f (tgt := 340) C (nI_ge hi293 (by omega)) rfl (by decide) dL_go_298 ?_
              refine V_aload_5 (q := 303) C rfl dL_go_301 ?_
              refine V_bipush (q := 305) (v := 6) C (by decide) rfl dL_go_303 ?_
              refine V_iload_7 (q := 307) C rfl dL_go_305 ?_
              refine V_iadd (q := 308) C rfl dL_go_307 ?_
              refine V_ialdRe (q := 309) (v := (kyM (vM σ) P d T (md2 (vM σ) C2 d (md1 (vM σ) T d (mDays (vM σ) T P C2 d mc0)))).2.1 p) C (6 + p) (nI_add 6 p) (by show _ < 18; omega) ((rOf_o hp6).trans (pre_ge (Nat.lt_irrefl p))) hf rfl dL_go_308 ?_
              refine V_if_ge (tgt := 334) C rfl (by decide) dL_go_309 (fun c309 => ?_) (fun c309 => ?_)
              · refine V_iinc_7 (q := 337) (n := 1) C nI_inc hn7 rfl rfl dL_go_334 ?_
                refine V_goto (tgt := 293) C (by decide) dL_go_337 ?_
                first
                | (refine V_eq ?_ ih293; rw [pre_keep (i := p) (show tmM (vM σ) d (kyM (vM σ) P d T (md2 (vM σ) C2 d (md1 (vM σ) T d (mDays (vM σ) T P C2 d mc0)))).2.1 p = (kyM (vM σ) P d T (md2 (vM σ) C2 d (md1 (vM σ) T d (mDays (vM σ) T P C2 d mc0)))).2.1 p from if_neg (fun h => by rw [h.1] at c309; exact absurd c309 (by decide)))]; done)
                | (refine V_eq ?_ ih293; rw [pre_keep (i := p) (show tmM (vM σ) d (kyM (vM σ) P d T (md2 (vM σ) C2 d (md1 (vM σ) T d (mDays (vM σ) T P C2 d mc0)))).2.1 p = (kyM (vM σ) P d T (md2 (vM σ) C2 d (md1 (vM σ) T d (mDays (vM σ) T P C2 d mc0)))).2.1 p from if_neg (fun h => c321 h.2))]; done)
                | (refine V_eq (rset_o hp6 ?_) ih293; rw [pre_step (show nI d = tmM (vM σ) d (kyM (vM σ) P d T (md2 (vM σ) C2 d (md1 (vM σ) T d (mDays (vM σ) T P C2 d mc0)))).2.1 p from (if_pos ⟨(hokT p hi293).resolve_right (fun ⟨x, hx, e⟩ => c309 (by rw [e]; exact nI_pos' (by omega))), c321⟩).symm)]; done)
              · refine V_aload_n_0 (q := 313) C rfl dL_go_312 ?_
                refine V_bipush (q := 315) (v := 28) C (by decide) rfl dL_go_313 ?_
                refine V_iload_7 (q := 317) C rfl dL_go_315 ?_
                refine V_iadd (q := 318) C rfl dL_go_317 ?_
                refine V_ialde (q := 319) (v := (vM σ) 49 p) C (28 + p) (nI_add 28 p) (by show _ < 48; omega) rfl rfl (by decide) (by decide) rfl dL_go_318 ?_
                refine V_iload_6 (q := 321) C rfl dL_go_319 ?_
                refine V_icmp_ne (tgt := 334) C rfl (by decide) dL_go_321 (fun c321 => ?_) (fun c321 => ?_)
                · refine V_iinc_7 (q := 337) (n := 1) C nI_inc hn7 rfl rfl dL_go_334 ?_
                  refine V_goto (tgt := 293) C (by decide) dL_go_337 ?_
                  first
                  | (refine V_eq ?_ ih293; rw [pre_keep (i := p) (show tmM (vM σ) d (kyM (vM σ) P d T (md2 (vM σ) C2 d (md1 (vM σ) T d (mDays (vM σ) T P C2 d mc0)))).2.1 p = (kyM (vM σ) P d T (md2 (vM σ) C2 d (md1 (vM σ) T d (mDays (vM σ) T P C2 d mc0)))).2.1 p from if_neg (fun h => by rw [h.1] at c309; exact absurd c309 (by decide)))]; done)
                  | (refine V_eq ?_ ih293; rw [pre_keep (i := p) (show tmM (vM σ) d (kyM (vM σ) P d T (md2 (vM σ) C2 d (md1 (vM σ) T d (mDays (vM σ) T P C2 d mc0)))).2.1 p = (kyM (vM σ) P d T (md2 (vM σ) C2 d (md1 (vM σ) T d (mDays (vM σ) T P C2 d mc0)))).2.1 p from if_neg (fun h => c321 h.2))]; done)
                  | (refine V_eq (rset_o hp6 ?_) ih293; rw [pre_step (show nI d = tmM (vM σ) d (kyM (vM σ) P d T (md2 (vM σ) C2 d (md1 (vM σ) T d (mDays (vM σ) T P C2 d mc0)))).2.1 p from (if_pos ⟨(hokT p hi293).resolve_right (fun ⟨x, hx, e⟩ => c309 (by rw [e]; exact nI_pos' (by omega))), c321⟩).symm)]; done)
                · refine V_aload_5 (q := 326) C rfl dL_go_324 ?_
                  refine V_bipush (q := 328) (v := 6) C (by decide) rfl dL_go_326 ?_
                  refine V_iload_7 (q := 330) C rfl dL_go_328 ?_
                  refine V_iadd (q := 331) C rfl dL_go_330 ?_
                  refine V_iload_6 (q := 333) C rfl dL_go_331 ?_
                  refine V_iastR (q := 334) C (6 + p) (nI_add 6 p) (by show _ < 18; omega) hf rfl dL_go_333 ?_
                  refine V_iinc_7 (q := 337) (n := 1) C nI_inc hn7 rfl rfl dL_go_334 ?_
                  refine V_goto (tgt := 293) C (by decide) dL_go_337 ?_
                  first
                  | (refine V_eq ?_ ih293; rw [pre_keep (i := p) (show tmM (vM σ) d (kyM (vM σ) P d T (md2 (vM σ) C2 d (md1 (vM σ) T d (mDays (vM σ) T P C2 d mc0)))).2.1 p = (kyM (vM σ) P d T (md2 (vM σ) C2 d (md1 (vM σ) T d (mDays (vM σ) T P C2 d mc0)))).2.1 p from if_neg (fun h => by rw [h.1] at c309; exact absurd c309 (by decide)))]; done)
                  | (refine V_eq ?_ ih293; rw [pre_keep (i := p) (show tmM (vM σ) d (kyM (vM σ) P d T (md2 (vM σ) C2 d (md1 (vM σ) T d (mDays (vM σ) T P C2 d mc0)))).2.1 p = (kyM (vM σ) P d T (md2 (vM σ) C2 d (md1 (vM σ) T d (mDays (vM σ) T P C2 d mc0)))).2.1 p from if_neg (fun h => c321 h.2))]; done)
                  | (refine V_eq (rset_o hp6 ?_) ih293; rw [pre_step (show nI d = tmM (vM σ) d (kyM (vM σ) P d T (md2 (vM σ) C2 d (md1 (vM σ) T d (mDays (vM σ) T P C2 d mc0)))).2.1 p from (if_pos ⟨(hokT p hi293).resolve_right (fun ⟨x, hx, e⟩ => c309 (by rw [e]; exact nI_pos' (by omega))), c321⟩).symm)]; done)
            exact V_eq (by rw [pre_0]) (loopN (P := fun p => V X 293 [.ref (xad X 40), .ref (xad X 41), .ref (xad X 42), .ref (xad X 43), .int (nI e), .ref (xad X 44), .int (nI d), .int (nI p), .float 0] [] (setc σ 44 (rOf ((kyM (vM σ) P d T (md2 (vM σ) C2 d (md1 (vM σ) T d (mDays (vM σ) T P C2 d mc0)))).1, pre p (tmM (vM σ) d (kyM (vM σ) P d T (md2 (vM σ) C2 d (md1 (vM σ) T d (mDays (vM σ) T P C2 d mc0)))).2.1) (kyM (vM σ) P d T (md2 (vM σ) C2 d (md1 (vM σ) T d (mDays (vM σ) T P C2 d mc0)))).2.1, (kyM (vM σ) P d T (md2 (vM σ) C2 d (md1 (vM σ) T d (mDays (vM σ) T P C2 d mc0)))).2.2)))) (P) hx293 hs293 0 (Nat.zero_le _))
          have hs170 : ∀ t : Nat, t < T → (V X 170 [.ref (xad X 40), .ref (xad X 41), .ref (xad X 42), .ref (xad X 43), .int (nI e), .ref (xad X 44), .int (nI d), .int (nI (t + 1)), .float 0] [] (setc σ 44 (rOf (kyM (vM σ) P d (t + 1) (md2 (vM σ) C2 d (md1 (vM σ) T d (mDays (vM σ) T P C2 d mc0))))))) → V X 170 [.ref (xad X 40), .ref (xad X 41), .ref (xad X 42), .ref (xad X 43), .int (nI e), .ref (xad X 44), .int (nI d), .int (nI t), .float 0] [] (setc σ 44 (rOf (kyM (vM σ) P d t (md2 (vM σ) C2 d (md1 (vM σ) T d (mDays (vM σ) T P C2 d mc0)))))) := by
            intro t hi170 ih170
            obtain ⟨hk, n, hn, en⟩ := hTr t hi170
            obtain ⟨kk, hkk, ek⟩ := k012 hk
            obtain ⟨la, hla, ea⟩ := hLk t hi170
            have ew : wantM ((vM σ) 44 t) ((vM σ) 46 t) = wantM (σ 40 (3 + t)) (nI n) := congrArg (wantM _) en
            have hokt : OkM P (kyM (vM σ) P d t (md2 (vM σ) C2 d (md1 (vM σ) T d (mDays (vM σ) T P C2 d mc0)))) := kyM_ok hd (show OkM P (md2 (vM σ) C2 d (md1 (vM σ) T d (mDays (vM σ) T P C2 d mc0))) from hok) t
            have h47 : ¬ (vM σ) 47 t = 1 → (vM σ) 47 t = 0 := fun h => (and1_01 (x := σ 40 21 >>> (nI t &&& 31))).resolve_right h
            refine V_iload_7 (q := 172) C rfl dL_go_170 ?_
            refine V_aload_n_0 (q := 173) C rfl dL_go_172 ?_
            refine V_iconst (q := 174) (v := 0) C rfl rfl dL_go_173 ?_
            refine V_ialde (q := 175) C 0 rfl (by show _ < 48; omega) hT rfl (by decide) (by decide) rfl dL_go_174 ?_
            refine V_icmp_ge_f (tgt := 290) C (nI_ge hi170 (by omega)) rfl (by decide) dL_go_175 ?_
            refine V_aload_n_0 (q := 179) C rfl dL_go_178 ?_
            refine V_bipush (q := 181) (v := 21) C (by decide) rfl dL_go_179 ?_
            refine V_iald (q := 182) C 21 rfl (by show _ < 48; omega) rfl (by decide) (by decide) rfl dL_go_181 ?_
            refine V_iload_7 (q := 184) C rfl dL_go_182 ?_
            refine V_ishr (q := 185) C rfl dL_go_184 ?_
            refine V_iconst (q := 186) (v := 1) C rfl rfl dL_go_185 ?_
            refine V_iand (q := 187) C rfl dL_go_186 ?_
            refine V_iconst (q := 188) (v := 1) C rfl rfl dL_go_187 ?_
            show V X 188 _ (.int 1 :: .int ((vM σ) 47 t) :: []) _
            refine V_icmp_eq (tgt := 284) C rfl (by decide) dL_go_188 (fun c188 => ?_) (fun c188 => ?_)
            · refine V_iinc_7 (q := 287) (n := 1) C nI_inc hn7 rfl rfl dL_go_284 ?_
              refine V_goto (tgt := 170) C (by decide) dL_go_287 ?_
              refine V_wk (lv2 := [.ref (xad X 40), .ref (xad X 41), .ref (xad X 42), .ref (xad X 43), .int (nI e), .ref (xad X 44), .int (nI d), .int (nI (t + 1)), .float 0]) ⟨Or.inl rfl, ⟨Or.inl rfl, ⟨Or.inl rfl, ⟨Or.inl rfl, ⟨Or.inl rfl, ⟨Or.inl rfl, ⟨Or.inl rfl, ⟨Or.inl rfl, ⟨Or.inr rfl, trivial⟩⟩⟩⟩⟩⟩⟩⟩⟩ ?_
              first
              | (refine V_eq ?_ ih170; rw [kyM_s, if_neg (fun h => by rw [h.1] at c188; exact absurd c188 (by decide))]; done)
              | (refine V_eq ?_ ih170; rw [kyM_s, ew, if_neg (fun h => c202 h.2)]; done)
              | (refine V_eq ?_ ih170; rw [kyM_s, ew, if_pos ⟨h47 c188, c202⟩]; unfold ukM; rw [hv211, Nat.sub_self]; rfl)
              | (refine V_eq ((congrArg (fun z => setf (setf z 44 (12 + p) (nI t)) 44 t 0) (rset_o hp6 rfl)).trans ((congrArg (fun z => setf z 44 t 0) (rset_b rfl)).trans (rset_w (by omega) ?_))) ih170; rw [kyM_s, ew, if_pos ⟨h47 c188, c202⟩]; unfold ukM; rw [hff, if_pos hq]; done)
            · refine V_aload_5 (q := 193) C rfl dL_go_191 ?_
              refine V_iload_7 (q := 195) C rfl dL_go_193 ?_
              refine V_ialdRe (q := 196) (v := (kyM (vM σ) P d t (md2 (vM σ) C2 d (md1 (vM σ) T d (mDays (vM σ) T P C2 d mc0)))).1 t) C t rfl (by show _ < 18; omega) (rOf_w (by omega)) hf rfl dL_go_195 ?_
              refine V_aload_n_0 (q := 197) C rfl dL_go_196 ?_
              refine V_iload_7 (q := 199) C rfl dL_go_197 ?_
              refine V_cS2r (q := 202) C (c_L_wants _ t n (by omega) hk hn en) cw_L_wants cs_L_wants wm_L_48 ⟨by decide, by decide⟩ (Nat.le_of_ble_eq_true rfl) rfl dL_go_199 ?_
              refine V_icmp_ge (tgt := 208) C rfl (by decide) dL_go_202 (fun c202 => ?_) (fun c202 => ?_)
              · refine V_iconst (q := 209) (v := (nI 0)) C rfl rfl dL_go_208 ?_
                refine V_istore_8 (q := 211) C hn8 rfl rfl dL_go_209 ?_
                have hx211 : (fst? (ukQ (vM σ) t (kyM (vM σ) P d t (md2 (vM σ) C2 d (md1 (vM σ) T d (mDays (vM σ) T P C2 d mc0)))).2.1) P 0 = fst? (ukQ (vM σ) t (kyM (vM σ) P d t (md2 (vM σ) C2 d (md1 (vM σ) T d (mDays (vM σ) T P C2 d mc0)))).2.1) (P - P) P) → V X 211 [.ref (xad X 40), .ref (xad X 41), .ref (xad X 42), .ref (xad X 43), .int (nI e), .ref (xad X 44), .int (nI d), .int (nI t), .int (nI P)] [] (setc σ 44 (rOf (kyM (vM σ) P d t (md2 (vM σ) C2 d (md1 (vM σ) T d (mDays (vM σ) T P C2 d mc0)))))) := by
                  intro hv211
                  refine V_iload_8 (q := 213) C rfl dL_go_211 ?_
                  refine V_aload_n_0 (q := 214) C rfl dL_go_213 ?_
                  refine V_iconst (q := 215) (v := 1) C rfl rfl dL_go_214 ?_
                  refine V_ialde (q := 216) C 1 rfl (by show _ < 48; omega) hP rfl (by decide) (by decide) rfl dL_go_215 ?_
                  refine V_icmp_ge_t (tgt := 284) C (nI_le (Nat.le_refl _) (by omega)) (by decide) dL_go_216 ?_
                  refine V_iinc_7 (q := 287) (n := 1) C nI_inc hn7 rfl rfl dL_go_284 ?_
                  refine V_goto (tgt := 170) C (by decide) dL_go_287 ?_
                  refine V_wk (lv2 := [.ref (xad X 40), .ref (xad X 41), .ref (xad X 42), .ref (xad X 43), .int (nI e), .ref (xad X 44), .int (nI d), .int (nI (t + 1)), .float 0]) ⟨Or.inl rfl, ⟨Or.inl rfl, ⟨Or.inl rfl, ⟨Or.inl rfl, ⟨Or.inl rfl, ⟨Or.inl rfl, ⟨Or.inl rfl, ⟨Or.inl rfl, ⟨Or.inr rfl, trivial⟩⟩⟩⟩⟩⟩⟩⟩⟩ ?_
                  first
                  | (refine V_eq ?_ ih170; rw [kyM_s, if_neg (fun h => by rw [h.1] at c188; exact absurd c188 (by decide))]; done)
                  | (refine V_eq ?_ ih170; rw [kyM_s, ew, if_neg (fun h => c202 h.2)]; done)
                  | (refine V_eq ?_ ih170; rw [kyM_s, ew, if_pos ⟨h47 c188, c202⟩]; unfold ukM; rw [hv211, Nat.sub_self]; rfl)
                  | (refine V_eq ((congrArg (fun z => setf (setf z 44 (12 + p) (nI t)) 44 t 0) (rset_o hp6 rfl)).trans ((congrArg (fun z => setf z 44 t 0) (rset_b rfl)).trans (rset_w (by omega) ?_))) ih170; rw [kyM_s, ew, if_pos ⟨h47 c188, c202⟩]; unfold ukM; rw [hff, if_pos hq]; done)
                have hs211 : ∀ p : Nat, p < P → ((fst? (ukQ (vM σ) t (kyM (vM σ) P d t (md2 (vM σ) C2 d (md1 (vM σ) T d (mDays (vM σ) T P C2 d mc0)))).2.1) P 0 = fst? (ukQ (vM σ) t (kyM (vM σ) P d t (md2 (vM σ) C2 d (md1 (vM σ) T d (mDays (vM σ) T P C2 d mc0)))).2.1) (P - (p + 1)) (p + 1)) → V X 211 [.ref (xad X 40), .ref (xad X 41), .ref (xad X 42), .ref (xad X 43), .int (nI e), .ref (xad X 44), .int (nI d), .int (nI t), .int (nI (p + 1))] [] (setc σ 44 (rOf (kyM (vM σ) P d t (md2 (vM σ) C2 d (md1 (vM σ) T d (mDays (vM σ) T P C2 d mc0))))))) → (fst? (ukQ (vM σ) t (kyM (vM σ) P d t (md2 (vM σ) C2 d (md1 (vM σ) T d (mDays (vM σ) T P C2 d mc0)))).2.1) P 0 = fst? (ukQ (vM σ) t (kyM (vM σ) P d t (md2 (vM σ) C2 d (md1 (vM σ) T d (mDays (vM σ) T P C2 d mc0)))).2.1) (P - p) p) → V X 211 [.ref (xad X 40), .ref (xad X 41), .ref (xad X 42), .ref (xad X 43), .int (nI e), .ref (xad X 44), .int (nI d), .int (nI t), .int (nI p)] [] (setc σ 44 (rOf (kyM (vM σ) P d t (md2 (vM σ) C2 d (md1 (vM σ) T d (mDays (vM σ) T P C2 d mc0)))))) := by
                  intro p hi211 ih211 hv211
                  have hp6 : p < 6 := by omega
                  obtain ⟨l, hl, el⟩ := hPr p hi211
                  have hff : fst? (ukQ (vM σ) t (kyM (vM σ) P d t (md2 (vM σ) C2 d (md1 (vM σ) T d (mDays (vM σ) T P C2 d mc0)))).2.1) P 0 = if ukQ (vM σ) t (kyM (vM σ) P d t (md2 (vM σ) C2 d (md1 (vM σ) T d (mDays (vM σ) T P C2 d mc0)))).2.1 p then some p else fst? (ukQ (vM σ) t (kyM (vM σ) P d t (md2 (vM σ) C2 d (md1 (vM σ) T d (mDays (vM σ) T P C2 d mc0)))).2.1) (P - (p + 1)) (p + 1) := by rw [hv211, show P - p = (P - (p + 1)) + 1 by omega]; rfl
                  have hop : (opM ((vM σ) 44 t) ((vM σ) 45 t) >>> ((vM σ) 48 p &&& 31)) &&& 1 = 1 ↔ bit (opM (nI kk) (nI la)) (nI l) := by
                    rw [show (vM σ) 44 t = nI kk from ek, show (vM σ) 45 t = nI la from ea, show (vM σ) 48 p = nI l from el]
                    exact bit_1
                  refine V_iload_8 (q := 213) C rfl dL_go_211 ?_
                  refine V_aload_n_0 (q := 214) C rfl dL_go_213 ?_
                  refine V_iconst (q := 215) (v := 1) C rfl rfl dL_go_214 ?_
                  refine V_ialde (q := 216) C 1 rfl (by show _ < 48; omega) hP rfl (by decide) (by decide) rfl dL_go_215 ?_
                  refine V_icmp_ge_f (tgt := 284) C (nI_ge hi211 (by omega)) rfl (by decide) dL_go_216 ?_
                  refine V_aload_5 (q := 221) C rfl dL_go_219 ?_
                  refine V_bipush (q := 223) (v := 6) C (by decide) rfl dL_go_221 ?_
                  refine V_iload_8 (q := 225) C rfl dL_go_223 ?_
                  refine V_iadd (q := 226) C rfl dL_go_225 ?_
                  refine V_ialdRe (q := 227) (v := (kyM (vM σ) P d t (md2 (vM σ) C2 d (md1 (vM σ) T d (mDays (vM σ) T P C2 d mc0)))).2.1 p) C (6 + p) (nI_add 6 p) (by show _ < 18; omega) (rOf_o hp6) hf rfl dL_go_226 ?_
                  refine V_if_ge (tgt := 278) C rfl (by decide) dL_go_227 (fun c227 => ?_) (fun c227 => ?_)
                  · refine V_iinc_8 (q := 281) (n := 1) C nI_inc hn8 rfl rfl dL_go_278 ?_
                    refine V_goto (tgt := 211) C (by decide) dL_go_281 ?_
                    first
                    | exact V_eq rfl (ih211 (by rw [hff, if_neg (fun h => by rw [h.1] at c227; exact absurd c227 (by decide))]))
                    | exact V_eq rfl (ih211 (by rw [hff, if_neg (fun h => c243 (hop.mp h.2))]))
                  · refine V_aload_n_0 (q := 231) C rfl dL_go_230 ?_
                    refine V_iload_7 (q := 233) C rfl dL_go_231 ?_
                    refine V_aload_n_0 (q := 234) C rfl dL_go_233 ?_
                    refine V_bipush (q := 236) (v := 22) C (by decide) rfl dL_go_234 ?_
                    refine V_iload_8 (q := 238) C rfl dL_go_236 ?_
                    refine V_iadd (q := 239) C rfl dL_go_238 ?_
                    refine V_ialde (q := 240) C (22 + p) (nI_add 22 p) (by show _ < 48; omega) el rfl (by decide) (by decide) rfl dL_go_239 ?_
                    refine V_cS3r (q := 243) C (c_L_opens _ t kk la l (by omega) hkk ek hla ea hl) cw_L_opens cs_L_opens wm_L_51 ⟨by decide, by decide⟩ (Nat.le_of_ble_eq_true rfl) rfl dL_go_240 ?_
                    refine V_ifp_ne (tgt := 249) C rfl (by decide) dL_go_243 (fun c243 => ?_) (fun c243 => ?_)
                    · have hq : ukQ (vM σ) t (kyM (vM σ) P d t (md2 (vM σ) C2 d (md1 (vM σ) T d (mDays (vM σ) T P C2 d mc0)))).2.1 p := ⟨(hokt p hi211).resolve_right (fun ⟨x, hx, e⟩ => c227 (by rw [e]; exact nI_pos' (by omega))), hop.mpr c243⟩
                      refine V_aload_5 (q := 251) C rfl dL_go_249 ?_
                      refine V_bipush (q := 253) (v := 6) C (by decide) rfl dL_go_251 ?_
                      refine V_iload_8 (q := 255) C rfl dL_go_253 ?_
                      refine V_iadd (q := 256) C rfl dL_go_255 ?_
                      refine V_iload_6 (q := 258) C rfl dL_go_256 ?_
                      refine V_iastR (q := 259) C (6 + p) (nI_add 6 p) (by show _ < 18; omega) hf rfl dL_go_258 ?_
                      refine V_aload_5 (q := 261) C rfl dL_go_259 ?_
                      refine V_bipush (q := 263) (v := 12) C (by decide) rfl dL_go_261 ?_
                      refine V_iload_8 (q := 265) C rfl dL_go_263 ?_
                      refine V_iadd (q := 266) C rfl dL_go_265 ?_
                      refine V_iload_7 (q := 268) C rfl dL_go_266 ?_
                      refine V_iastR (q := 269) C (12 + p) (nI_add 12 p) (by show _ < 18; omega) hf rfl dL_go_268 ?_
                      refine V_aload_5 (q := 271) C rfl dL_go_269 ?_
                      refine V_iload_7 (q := 273) C rfl dL_go_271 ?_
                      refine V_iconst (q := 274) (v := 0) C rfl rfl dL_go_273 ?_
                      refine V_iastR (q := 275) C t rfl (by show _ < 18; omega) hf rfl dL_go_274 ?_
                      refine V_goto (tgt := 284) C (by decide) dL_go_275 ?_
                      refine V_iinc_7 (q := 287) (n := 1) C nI_inc hn7 rfl rfl dL_go_284 ?_
                      refine V_goto (tgt := 170) C (by decide) dL_go_287 ?_
                      refine V_wk (lv2 := [.ref (xad X 40), .ref (xad X 41), .ref (xad X 42), .ref (xad X 43), .int (nI e), .ref (xad X 44), .int (nI d), .int (nI (t + 1)), .float 0]) ⟨Or.inl rfl, ⟨Or.inl rfl, ⟨Or.inl rfl, ⟨Or.inl rfl, ⟨Or.inl rfl, ⟨Or.inl rfl, ⟨Or.inl rfl, ⟨Or.inl rfl, ⟨Or.inr rfl, trivial⟩⟩⟩⟩⟩⟩⟩⟩⟩ ?_
                      first
                      | (refine V_eq ?_ ih170; rw [kyM_s, if_neg (fun h => by rw [h.1] at c188; exact absurd c188 (by decide))]; done)
                      | (refine V_eq ?_ ih170; rw [kyM_s, ew, if_neg (fun h => c202 h.2)]; done)
                      | (refine V_eq ?_ ih170; rw [kyM_s, ew, if_pos ⟨h47 c188, c202⟩]; unfold ukM; rw [hv211, Nat.sub_self]; rfl)
                      | (refine V_eq ((congrArg (fun z => setf (setf z 44 (12 + p) (nI t)) 44 t 0) (rset_o hp6 rfl)).trans ((congrArg (fun z => setf z 44 t 0) (rset_b rfl)).trans (rset_w (by omega) ?_))) ih170; rw [kyM_s, ew, if_pos ⟨h47 c188, c202⟩]; unfold ukM; rw [hff, if_pos hq]; done)
                    · refine V_goto (tgt := 278) C (by decide) dL_go_246 ?_
                      refine V_iinc_8 (q := 281) (n := 1) C nI_inc hn8 rfl rfl dL_go_278 ?_
                      refine V_goto (tgt := 211) C (by decide) dL_go_281 ?_
                      first
                      | exact V_eq rfl (ih211 (by rw [hff, if_neg (fun h => by rw [h.1] at c227; exact absurd c227 (by decide))]))
                      | exact V_eq rfl (ih211 (by rw [hff, if_neg (fun h => c243 (hop.mp h.2))]))
                exact V_eq (rfl) (loopN (P := fun p => (fst? (ukQ (vM σ) t (kyM (vM σ) P d t (md2 (vM σ) C2 d (md1 (vM σ) T d (mDays (vM σ) T P C2 d mc0)))).2.1) P 0 = fst? (ukQ (vM σ) t (kyM (vM σ) P d t (md2 (vM σ) C2 d (md1 (vM σ) T d (mDays (vM σ) T P C2 d mc0)))).2.1) (P - p) p) → V X 211 [.ref (xad X 40), .ref (xad X 41), .ref (xad X 42), .ref (xad X 43), .int (nI e), .ref (xad X 44), .int (nI d), .int (nI t), .int (nI p)] [] (setc σ 44 (rOf (kyM (vM σ) P d t (md2 (vM σ) C2 d (md1 (vM σ) T d (mDays (vM σ) T P C2 d mc0))))))) (P) hx211 hs211 0 (Nat.zero_le _) (rfl))
              · refine V_goto (tgt := 284) C (by decide) dL_go_205 ?_
                refine V_iinc_7 (q := 287) (n := 1) C nI_inc hn7 rfl rfl dL_go_284 ?_
                refine V_goto (tgt := 170) C (by decide) dL_go_287 ?_
                refine V_wk (lv2 := [.ref (xad X 40), .ref (xad X 41), .ref (xad X 42), .ref (xad X 43), .int (nI e), .ref (xad X 44), .int (nI d), .int (nI (t + 1)), .float 0]) ⟨Or.inl rfl, ⟨Or.inl rfl, ⟨Or.inl rfl, ⟨Or.inl rfl, ⟨Or.inl rfl, ⟨Or.inl rfl, ⟨Or.inl rfl, ⟨Or.inl rfl, ⟨Or.inr rfl, trivial⟩⟩⟩⟩⟩⟩⟩⟩⟩ ?_
                first
                | (refine V_eq ?_ ih170; rw [kyM_s, if_neg (fun h => by rw [h.1] at c188; exact absurd c188 (by decide))]; done)
                | (refine V_eq ?_ ih170; rw [kyM_s, ew, if_neg (fun h => c202 h.2)]; done)
                | (refine V_eq ?_ ih170; rw [kyM_s, ew, if_pos ⟨h47 c188, c202⟩]; unfold ukM; rw [hv211, Nat.sub_self]; rfl)
                | (refine V_eq ((congrArg (fun z => setf (setf z 44 (12 + p) (nI t)) 44 t 0) (rset_o hp6 rfl)).trans ((congrArg (fun z => setf z 44 t 0) (rset_b rfl)).trans (rset_w (by omega) ?_))) ih170; rw [kyM_s, ew, if_pos ⟨h47 c188, c202⟩]; unfold ukM; rw [hff, if_pos hq]; done)
          exact V_eq (rfl) (loopN (P := fun t => V X 170 [.ref (xad X 40), .ref (xad X 41), .ref (xad X 42), .ref (xad X 43), .int (nI e), .ref (xad X 44), .int (nI d), .int (nI t), .float 0] [] (setc σ 44 (rOf (kyM (vM σ) P d t (md2 (vM σ) C2 d (md1 (vM σ) T d (mDays (vM σ) T P C2 d mc0))))))) (T) hx170 hs170 0 (Nat.zero_le _))
        have hs98 : ∀ c : Nat, c < C2 → (V X 98 [.ref (xad X 40), .ref (xad X 41), .ref (xad X 42), .ref (xad X 43), .int (nI e), .ref (xad X 44), .int (nI d), .int (nI (c + 1)), .float 0] [] (setc σ 44 (rOf (crM (vM σ) d (c + 1) (md1 (vM σ) T d (mDays (vM σ) T P C2 d mc0)).1, (md1 (vM σ) T d (mDays (vM σ) T P C2 d mc0)).2)))) → V X 98 [.ref (xad X 40), .ref (xad X 41), .ref (xad X 42), .ref (xad X 43), .int (nI e), .ref (xad X 44), .int (nI d), .int (nI c), .float 0] [] (setc σ 44 (rOf (crM (vM σ) d c (md1 (vM σ) T d (mDays (vM σ) T P C2 d mc0)).1, (md1 (vM σ) T d (mDays (vM σ) T P C2 d mc0)).2))) := by
          intro c hi98 ih98
          obtain ⟨x, hx, ex⟩ := hCr c hi98
          obtain ⟨hk, n, hn, en⟩ := hTr x hx
          have ew : wantM ((vM σ) 44 x) ((vM σ) 46 x) = wantM (σ 40 (3 + x)) (nI n) := congrArg (wantM _) en
          refine V_iload_7 (q := 100) C rfl dL_go_98 ?_
          refine V_aload_n_0 (q := 101) C rfl dL_go_100 ?_
          refine V_iconst (q := 102) (v := 2) C rfl rfl dL_go_101 ?_
          refine V_ialde (q := 103) C 2 rfl (by show _ < 48; omega) hC rfl (by decide) (by decide) rfl dL_go_102 ?_
          refine V_icmp_ge_f (tgt := 167) C (nI_ge hi98 (by omega)) rfl (by decide) dL_go_103 ?_
          refine V_aload_n_0 (q := 107) C rfl dL_go_106 ?_
          refine V_bipush (q := 109) (v := 34) C (by decide) rfl dL_go_107 ?_
          refine V_iconst (q := 110) (v := 2) C rfl rfl dL_go_109 ?_
          refine V_iload_7 (q := 112) C rfl dL_go_110 ?_
          refine V_imul (q := 113) C rfl dL_go_112 ?_
          refine V_iadd (q := 114) C rfl dL_go_113 ?_
          refine V_ialde (q := 115) (v := (vM σ) 58 c) C (34 + 2 * c) (ix2 34 c) (by show _ < 48; omega) rfl rfl (by decide) (by decide) rfl dL_go_114 ?_
          refine V_iload_6 (q := 117) C rfl dL_go_115 ?_
          refine V_icmp_ne (tgt := 161) C rfl (by decide) dL_go_117 (fun c117 => ?_) (fun c117 => ?_)
          · refine V_iinc_7 (q := 164) (n := 1) C nI_inc hn7 rfl rfl dL_go_161 ?_
            refine V_goto (tgt := 98) C (by decide) dL_go_164 ?_
            first
            | (refine V_eq ?_ ih98; rw [crM_s, if_neg (fun h => c117 h.1)]; done)
            | (refine V_eq ?_ ih98; rw [crM_s, show (vM σ) 59 c = nI x from ex, nI_clamp (by omega), ew, if_neg (fun h => Int32.not_le.mpr c145 h.2)]; done)
            | (refine V_eq (rset_w (m2 := (crM (vM σ) d (c + 1) (md1 (vM σ) T d (mDays (vM σ) T P C2 d mc0)).1, (md1 (vM σ) T d (mDays (vM σ) T P C2 d mc0)).2)) (by omega) ?_) ih98; rw [crM_s, show (vM σ) 59 c = nI x from ex, nI_clamp (by omega), ew, if_pos ⟨c117, Int32.not_lt.mp c145⟩]; done)
          · refine V_aload_5 (q := 122) C rfl dL_go_120 ?_
            refine V_aload_n_0 (q := 123) C rfl dL_go_122 ?_
            refine V_bipush (q := 125) (v := 35) C (by decide) rfl dL_go_123 ?_
            refine V_iconst (q := 126) (v := 2) C rfl rfl dL_go_125 ?_
            refine V_iload_7 (q := 128) C rfl dL_go_126 ?_
            refine V_imul (q := 129) C rfl dL_go_128 ?_
            refine V_iadd (q := 130) C rfl dL_go_129 ?_
            refine V_ialde (q := 131) C (35 + 2 * c) (ix2 35 c) (by show _ < 48; omega) ex rfl (by decide) (by decide) rfl dL_go_130 ?_
            refine V_ialdRe (q := 132) (v := crM (vM σ) d c (md1 (vM σ) T d (mDays (vM σ) T P C2 d mc0)).1 x) C x rfl (by show _ < 18; omega) (rOf_w (by omega)) hf rfl dL_go_131 ?_
            refine V_aload_n_0 (q := 133) C rfl dL_go_132 ?_
            refine V_aload_n_0 (q := 134) C rfl dL_go_133 ?_
            refine V_bipush (q := 136) (v := 35) C (by decide) rfl dL_go_134 ?_
            refine V_iconst (q := 137) (v := 2) C rfl rfl dL_go_136 ?_
            refine V_iload_7 (q := 139) C rfl dL_go_137 ?_
            refine V_imul (q := 140) C rfl dL_go_139 ?_
            refine V_iadd (q := 141) C rfl dL_go_140 ?_
            refine V_ialde (q := 142) C (35 + 2 * c) (ix2 35 c) (by show _ < 48; omega) ex rfl (by decide) (by decide) rfl dL_go_141 ?_
            refine V_cS2r (q := 145) C (c_L_wants _ x n (by omega) hk hn en) cw_L_wants cs_L_wants wm_L_48 ⟨by decide, by decide⟩ (Nat.le_of_ble_eq_true rfl) rfl dL_go_142 ?_
            refine V_icmp_lt (tgt := 161) C rfl (by decide) dL_go_145 (fun c145 => ?_) (fun c145 => ?_)
            · refine V_iinc_7 (q := 164) (n := 1) C nI_inc hn7 rfl rfl dL_go_161 ?_
              refine V_goto (tgt := 98) C (by decide) dL_go_164 ?_
              first
              | (refine V_eq ?_ ih98; rw [crM_s, if_neg (fun h => c117 h.1)]; done)
              | (refine V_eq ?_ ih98; rw [crM_s, show (vM σ) 59 c = nI x from ex, nI_clamp (by omega), ew, if_neg (fun h => Int32.not_le.mpr c145 h.2)]; done)
              | (refine V_eq (rset_w (m2 := (crM (vM σ) d (c + 1) (md1 (vM σ) T d (mDays (vM σ) T P C2 d mc0)).1, (md1 (vM σ) T d (mDays (vM σ) T P C2 d mc0)).2)) (by omega) ?_) ih98; rw [crM_s, show (vM σ) 59 c = nI x from ex, nI_clamp (by omega), ew, if_pos ⟨c117, Int32.not_lt.mp c145⟩]; done)
            · refine V_aload_5 (q := 150) C rfl dL_go_148 ?_
              refine V_aload_n_0 (q := 151) C rfl dL_go_150 ?_
              refine V_bipush (q := 153) (v := 35) C (by decide) rfl dL_go_151 ?_
              refine V_iconst (q := 154) (v := 2) C rfl rfl dL_go_153 ?_
              refine V_iload_7 (q := 156) C rfl dL_go_154 ?_
              refine V_imul (q := 157) C rfl dL_go_156 ?_
              refine V_iadd (q := 158) C rfl dL_go_157 ?_
              refine V_ialde (q := 159) C (35 + 2 * c) (ix2 35 c) (by show _ < 48; omega) ex rfl (by decide) (by decide) rfl dL_go_158 ?_
              refine V_iconst (q := 160) (v := 0) C rfl rfl dL_go_159 ?_
              refine V_iastR (q := 161) C x rfl (by show _ < 18; omega) hf rfl dL_go_160 ?_
              refine V_iinc_7 (q := 164) (n := 1) C nI_inc hn7 rfl rfl dL_go_161 ?_
              refine V_goto (tgt := 98) C (by decide) dL_go_164 ?_
              first
              | (refine V_eq ?_ ih98; rw [crM_s, if_neg (fun h => c117 h.1)]; done)
              | (refine V_eq ?_ ih98; rw [crM_s, show (vM σ) 59 c = nI x from ex, nI_clamp (by omega), ew, if_neg (fun h => Int32.not_le.mpr c145 h.2)]; done)
              | (refine V_eq (rset_w (m2 := (crM (vM σ) d (c + 1) (md1 (vM σ) T d (mDays (vM σ) T P C2 d mc0)).1, (md1 (vM σ) T d (mDays (vM σ) T P C2 d mc0)).2)) (by omega) ?_) ih98; rw [crM_s, show (vM σ) 59 c = nI x from ex, nI_clamp (by omega), ew, if_pos ⟨c117, Int32.not_lt.mp c145⟩]; done)
        exact V_eq (rfl) (loopN (P := fun c => V X 98 [.ref (xad X 40), .ref (xad X 41), .ref (xad X 42), .ref (xad X 43), .int (nI e), .ref (xad X 44), .int (nI d), .int (nI c), .float 0] [] (setc σ 44 (rOf (crM (vM σ) d c (md1 (vM σ) T d (mDays (vM σ) T P C2 d mc0)).1, (md1 (vM σ) T d (mDays (vM σ) T P C2 d mc0)).2)))) (C2) hx98 hs98 0 (Nat.zero_le _))
      have hs47 : ∀ t : Nat, t < T → (V X 47 [.ref (xad X 40), .ref (xad X 41), .ref (xad X 42), .ref (xad X 43), .int (nI e), .ref (xad X 44), .int (nI d), .int (nI (t + 1)), .float 0] [] (setc σ 44 (rOf (gwA (vM σ) d (t + 1) (mDays (vM σ) T P C2 d mc0))))) → V X 47 [.ref (xad X 40), .ref (xad X 41), .ref (xad X 42), .ref (xad X 43), .int (nI e), .ref (xad X 44), .int (nI d), .int (nI t), .float 0] [] (setc σ 44 (rOf (gwA (vM σ) d t (mDays (vM σ) T P C2 d mc0)))) := by
        intro t hi47 ih47
        refine V_iload_7 (q := 49) C rfl dL_go_47 ?_
        refine V_aload_n_0 (q := 50) C rfl dL_go_49 ?_
        refine V_iconst (q := 51) (v := 0) C rfl rfl dL_go_50 ?_
        refine V_ialde (q := 52) C 0 rfl (by show _ < 48; omega) hT rfl (by decide) (by decide) rfl dL_go_51 ?_
        refine V_icmp_ge_f (tgt := 95) C (nI_ge hi47 (by omega)) rfl (by decide) dL_go_52 ?_
        refine V_aload_n_3 (q := 56) C rfl dL_go_55 ?_
        refine V_iload_6 (q := 58) C rfl dL_go_56 ?_
        refine V_ialde (q := 59) (v := (vM σ) 52 d) C d rfl (by show _ < 30; omega) rfl rfl (by decide) (by decide) rfl dL_go_58 ?_
        refine V_if_ne (tgt := 89) C rfl (by decide) dL_go_59 (fun c59 => ?_) (fun c59 => ?_)
        · refine V_iinc_7 (q := 92) (n := 1) C nI_inc hn7 rfl rfl dL_go_89 ?_
          refine V_goto (tgt := 47) C (by decide) dL_go_92 ?_
          first
          | (refine V_eq ?_ ih47; rw [gwA_n (j := t + 1) c59]; done)
          | (refine V_eq ?_ ih47; exact rset_w (by omega) (gwA_y (by omega) c59 (if_pos c78).symm))
          | (refine V_eq ?_ ih47; exact rset_w (by omega) (gwA_y (by omega) c59 (if_neg c78).symm))
        · refine V_aload_5 (q := 64) C rfl dL_go_62 ?_
          refine V_iload_7 (q := 66) C rfl dL_go_64 ?_
          refine V_dup2 (q := 67) C rfl rfl rfl dL_go_66 ?_
          refine V_ialdR (q := 68) C t rfl (by show _ < 18; omega) hf rfl dL_go_67 ?_
          refine V_aload_n_1 (q := 69) C rfl dL_go_68 ?_
          refine V_iload_6 (q := 71) C rfl dL_go_69 ?_
          refine V_ialde (q := 72) (v := (vM σ) 50 d) C d rfl (by show _ < 30; omega) rfl rfl (by decide) (by decide) rfl dL_go_71 ?_
          refine V_aload_n_2 (q := 73) C rfl dL_go_72 ?_
          refine V_iload_6 (q := 75) C rfl dL_go_73 ?_
          refine V_ialde (q := 76) (v := (vM σ) 51 d) C d rfl (by show _ < 30; omega) rfl rfl (by decide) (by decide) rfl dL_go_75 ?_
          refine V_iload_7 (q := 78) C rfl dL_go_76 ?_
          refine V_icmp_ne (tgt := 85) C rfl (by decide) dL_go_78 (fun c78 => ?_) (fun c78 => ?_)
          · refine V_iconst (q := 86) (v := 0) C rfl rfl dL_go_85 ?_
            refine V_iadd (q := 87) C rfl dL_go_86 ?_
            refine V_iadd (q := 88) C rfl dL_go_87 ?_
            refine V_iastR (q := 89) C t rfl (by show _ < 18; omega) hf rfl dL_go_88 ?_
            refine V_iinc_7 (q := 92) (n := 1) C nI_inc hn7 rfl rfl dL_go_89 ?_
            refine V_goto (tgt := 47) C (by decide) dL_go_92 ?_
            first
            | (refine V_eq ?_ ih47; rw [gwA_n (j := t + 1) c59]; done)
            | (refine V_eq ?_ ih47; exact rset_w (by omega) (gwA_y (by omega) c59 (if_pos c78).symm))
            | (refine V_eq ?_ ih47; exact rset_w (by omega) (gwA_y (by omega) c59 (if_neg c78).symm))
          · refine V_iconst (q := 82) (v := 3) C rfl rfl dL_go_81 ?_
            refine V_goto (tgt := 86) C (by decide) dL_go_82 ?_
            refine V_iadd (q := 87) C rfl dL_go_86 ?_
            refine V_iadd (q := 88) C rfl dL_go_87 ?_
            refine V_iastR (q := 89) C t rfl (by show _ < 18; omega) hf rfl dL_go_88 ?_
            refine V_iinc_7 (q := 92) (n := 1) C nI_inc hn7 rfl rfl dL_go_89 ?_
            refine V_goto (tgt := 47) C (by decide) dL_go_92 ?_
            first
            | (refine V_eq ?_ ih47; rw [gwA_n (j := t + 1) c59]; done)
            | (refine V_eq ?_ ih47; exact rset_w (by omega) (gwA_y (by omega) c59 (if_pos c78).symm))
            | (refine V_eq ?_ ih47; exact rset_w (by omega) (gwA_y (by omega) c59 (if_neg c78).symm))
      exact V_eq (by rw [gwA_0]) (loopN (P := fun t => V X 47 [.ref (xad X 40), .ref (xad X 41), .ref (xad X 42), .ref (xad X 43), .int (nI e), .ref (xad X 44), .int (nI d), .int (nI t), .float 0] [] (setc σ 44 (rOf (gwA (vM σ) d t (mDays (vM σ) T P C2 d mc0))))) (T) hx47 hs47 0 (Nat.zero_le _))
    exact V_eq (rfl) (loopN (P := fun d => V X 37 [.ref (xad X 40), .ref (xad X 41), .ref (xad X 42), .ref (xad X 43), .int (nI e), .ref (xad X 44), .int (nI d), .float 0, .float 0] [] (setc σ 44 (rOf (mDays (vM σ) T P C2 d mc0)))) ((e + 1)) hx37 hs37 0 (Nat.zero_le _))
  have hs3 : ∀ k : Nat, k < 18 → (V X 3 [.ref (xad X 40), .ref (xad X 41), .ref (xad X 42), .ref (xad X 43), .int (nI e), .ref (xad X 44), .int (nI (k + 1)), .float 0, .float 0] [] (setc σ 44 (pre (k + 1) r0 (σ 44)))) → V X 3 [.ref (xad X 40), .ref (xad X 41), .ref (xad X 42), .ref (xad X 43), .int (nI e), .ref (xad X 44), .int (nI k), .float 0, .float 0] [] (setc σ 44 (pre k r0 (σ 44))) := by
    intro k hi3 ih3
    refine V_iload_6 (q := 5) C rfl dL_go_3 ?_
    refine V_bipush (q := 7) (v := 18) C (by decide) rfl dL_go_5 ?_
    refine V_icmp_ge_f (tgt := 34) C (nI_ge (b := 18) hi3 (by decide)) rfl (by decide) dL_go_7 ?_
    refine V_aload_5 (q := 12) C rfl dL_go_10 ?_
    refine V_iload_6 (q := 14) C rfl dL_go_12 ?_
    refine V_iload_6 (q := 16) C rfl dL_go_14 ?_
    refine V_bipush (q := 18) (v := 6) C (by decide) rfl dL_go_16 ?_
    refine V_icmp_ge (tgt := 25) C rfl (by decide) dL_go_18 (fun c18 => ?_) (fun c18 => ?_)
    · refine V_bipush (q := 27) (v := (-9)) C (by decide) rfl dL_go_25 ?_
      refine V_iastR (q := 28) C k rfl (by show _ < 18; omega) hf rfl dL_go_27 ?_
      refine V_iinc_6 (q := 31) (n := 1) C nI_inc hn6 rfl rfl dL_go_28 ?_
      refine V_goto (tgt := 3) C (by decide) dL_go_31 ?_
      first
      | (refine V_eq ?_ ih3; unfold setf; rw [setc_s, setc_setc, pre_step (show (0 : Int32) = r0 k from (if_pos (by rcases Nat.lt_or_ge k 6 with h | h; exact h; exact absurd (nI_le (a := 6) h (by omega)) c18)).symm)]; done)
      | (refine V_eq ?_ ih3; unfold setf; rw [setc_s, setc_setc, pre_step (show (-9 : Int32) = r0 k from (if_neg (fun h => nI_ge (b := 6) h (by decide) c18)).symm)]; done)
    · refine V_iconst (q := 22) (v := 0) C rfl rfl dL_go_21 ?_
      refine V_goto (tgt := 27) C (by decide) dL_go_22 ?_
      refine V_iastR (q := 28) C k rfl (by show _ < 18; omega) hf rfl dL_go_27 ?_
      refine V_iinc_6 (q := 31) (n := 1) C nI_inc hn6 rfl rfl dL_go_28 ?_
      refine V_goto (tgt := 3) C (by decide) dL_go_31 ?_
      first
      | (refine V_eq ?_ ih3; unfold setf; rw [setc_s, setc_setc, pre_step (show (0 : Int32) = r0 k from (if_pos (by rcases Nat.lt_or_ge k 6 with h | h; exact h; exact absurd (nI_le (a := 6) h (by omega)) c18)).symm)]; done)
      | (refine V_eq ?_ ih3; unfold setf; rw [setc_s, setc_setc, pre_step (show (-9 : Int32) = r0 k from (if_neg (fun h => nI_ge (b := 6) h (by decide) c18)).symm)]; done)
  exact V_eq (by rw [pre_0, setc_id]) (loopN (P := fun k => V X 3 [.ref (xad X 40), .ref (xad X 41), .ref (xad X 42), .ref (xad X 43), .int (nI e), .ref (xad X 44), .int (nI k), .float 0, .float 0] [] (setc σ 44 (pre k r0 (σ 44)))) (18) hx3 hs3 0 (Nat.zero_le _))
end
section
/-! THE LAW: the orchard that it lays -/
theorem V_gen {X : CT} {pc : Nat} {lv st : List Value} {σ : ST} {Q : ST → Prop} (h : Q σ) (k : ∀ τ, Q τ → V X pc lv st τ) : V X pc lv st σ := k σ h
theorem to8 (n : Nat) (h : n < 128) : (nI n).toInt8.toInt32 = nI n := by
  have hh : ∀ m : Fin 128, (nI m.val).toInt8.toInt32 = nI m.val := by decide
  exact hh ⟨n, h⟩
def Sh50 (σ : ST) : Prop := σ 2 1 = 1 ∧ σ 2 2 = 0 ∧ σ 2 3 = nI 50
theorem c_put0 {l : Launch} {D : DD} {ad : Nat → Nat} (σ : ST) (a n : Nat) (hs : Sh50 σ) (ha : a < 50) (hn : n < 128) : Ct l yX8_put cX8_put 5 (Option.some FieldType.int) 1 22 D ad [.ref (ad 0), .int (nI 0), .int (nI a), .int (nI n)] σ (ex (some (.int 1)) (setf (setf σ 0 8 0) 3 a (nI n))) := by
  obtain ⟨h1, h2, h3⟩ := hs
  have e : puF σ 0 (nI a) (nI n) = (1, setf (setf σ 0 8 0) 3 a (nI n)) := by
    unfold puF
    rw [if_neg (show ¬ σ (2 + 2 * 0) 1 = 0 from fun h => absurd (h1.symm.trans h) (by decide)), if_neg (nn (show hcC σ 0 (nI a) 1 from by
      unfold hcC
      rw [show σ (2 + 2 * 0) 3 = nI 50 from h3]
      exact (hcN (L := 50) (by decide)).mpr ⟨a, 1, rfl, rfl, by omega⟩)), nI_clamp (by omega)]
    refine congrArg (fun z => ((1 : Int32), setf (setf σ 0 8 0) 3 a z)) ?_
    rw [show σ (2 + 2 * 0) 2 = 0 from h2]
    exact to8 n hn
  have k := c_X8_put_v (l := l) (D := D) (ad := ad) σ 0 (nI a) (nI n) (by decide) 50 h3 (by decide)
  rw [e] at k
  exact k
theorem Sh50.put {σ : ST} {a : Nat} {x : Int32} (h : Sh50 σ) : Sh50 (setf (setf σ 0 8 0) 3 a x) := h
def ltr (k : Int32) : Int32 := if k = 0 then nI 116 else if k = 1 then nI 103 else nI 111
def PH (τ : ST) (T P : Nat) : Prop := (0 < T ∧ T ≤ 6 ∧ 0 < P ∧ P ≤ 6) ∧ (τ 40 0 = nI T ∧ τ 40 1 = nI P ∧ τ 40 2 = 0 ∧ τ 40 21 = 0) ∧ Sh50 τ ∧ (∀ d, d < 30 → τ 41 d = 0 ∧ τ 42 d = -9 ∧ τ 43 d = 0) ∧ τ 3 0 = nI 107
def PT (τ : ST) (t : Nat) : Prop := ∀ i, i < t → ((τ 40 (3 + i) = 0 ∨ τ 40 (3 + i) = 1 ∨ τ 40 (3 + i) = 2) ∧ τ 3 (1 + 3 * i) = ltr (τ 40 (3 + i))) ∧ (∃ l : Nat, l < 6 ∧ τ 40 (9 + i) = nI l ∧ τ 3 (1 + 3 * i + 1) = nI (48 + l)) ∧ ∃ n : Nat, 1 ≤ n ∧ n ≤ 9 ∧ τ 40 (15 + i) = nI n ∧ τ 3 (1 + 3 * i + 1 + 1) = nI (48 + n)
def PP (τ : ST) (T p : Nat) : Prop := ∀ i, i < p → τ 3 (1 + 3 * T + 4 * i) = nI 59 ∧ (∃ l : Nat, l < 6 ∧ τ 40 (22 + i) = nI l ∧ τ 3 (1 + 3 * T + 4 * i + 1) = nI (48 + l)) ∧ ∃ d : Nat, d < 30 ∧ τ 40 (28 + i) = nI d ∧ τ 3 (1 + 3 * T + 4 * i + 1 + 1) = nI (48 + d / 10) ∧ τ 3 (1 + 3 * T + 4 * i + 1 + 1 + 1) = nI (48 + d % 10)
theorem PH.cg {σ τ : ST} {T P : Nat} (h : PH σ T P) (h2 : τ 2 = σ 2) (hr : τ 41 = σ 41 ∧ τ 42 = σ 42 ∧ τ 43 = σ 43) (h0 : τ 3 0 = σ 3 0) (hg : τ 40 0 = σ 40 0 ∧ τ 40 1 = σ 40 1 ∧ τ 40 2 = σ 40 2 ∧ τ 40 21 = σ 40 21) : PH τ T P := by
  unfold PH Sh50
  rw [h2, hr.1, hr.2.1, hr.2.2, h0, hg.1, hg.2.1, hg.2.2.1, hg.2.2.2]
  exact h
theorem PT.cg {σ τ : ST} {t : Nat} (h : PT σ t) (h3 : ∀ i, i < 1 + 3 * t → τ 3 i = σ 3 i) (hg : ∀ i, i < t → τ 40 (3 + i) = σ 40 (3 + i) ∧ τ 40 (9 + i) = σ 40 (9 + i) ∧ τ 40 (15 + i) = σ 40 (15 + i)) : PT τ t := by
  intro i hi
  rw [h3 (1 + 3 * i) (by omega), h3 (1 + 3 * i + 1) (by omega), h3 (1 + 3 * i + 1 + 1) (by omega), (hg i hi).1, (hg i hi).2.1, (hg i hi).2.2]
  exact h i hi
theorem PP.cg {σ τ : ST} {T p : Nat} (h : PP σ T p) (h3 : ∀ i, i < 1 + 3 * T + 4 * p → τ 3 i = σ 3 i) (hg : ∀ i, i < p → τ 40 (22 + i) = σ 40 (22 + i) ∧ τ 40 (28 + i) = σ 40 (28 + i)) : PP τ T p := by
  intro i hi
  rw [h3 (1 + 3 * T + 4 * i) (by omega), h3 (1 + 3 * T + 4 * i + 1) (by omega), h3 (1 + 3 * T + 4 * i + 1 + 1) (by omega), h3 (1 + 3 * T + 4 * i + 1 + 1 + 1) (by omega), (hg i hi).1, (hg i hi).2]
  exact h i hi
theorem PT.step {σ τ : ST} {t c l n : Nat} {k : Int32} (ht : t < 6) (h : PT σ t) (hk : k = 0 ∨ k = 1 ∨ k = 2) (ek : σ 40 (3 + t) = k) (hc : nI c = ltr k) (hl : l < 6) (el : σ 40 (9 + t) = nI l) (h1 : 1 ≤ n) (h9 : n ≤ 9) (en : σ 40 (15 + t) = nI n) (e40 : τ 40 = σ 40) (e3 : τ 3 = upd (upd (upd (σ 3) (1 + 3 * t) (nI c)) (1 + 3 * t + 1) (nI (48 + l))) (1 + 3 * t + 1 + 1) (nI (48 + n))) : PT τ (t + 1) := by
  intro i hi
  by_cases e : i = t
  · subst e
    rw [e40, ek, e3]
    refine ⟨⟨hk, ?_⟩, ⟨l, hl, el, ?_⟩, n, h1, h9, en, ?_⟩
    · rw [upd_ne (by omega), upd_ne (by omega), upd_at, hc]
    · rw [upd_ne (by omega), upd_at]
    · rw [upd_at]
  · exact PT.cg (t := t) h (fun j hj => by rw [e3, upd_ne (by omega), upd_ne (by omega), upd_ne (by omega)]) (fun j hj => by rw [e40]; exact ⟨rfl, rfl, rfl⟩) i (by omega)
theorem PP.step {σ τ : ST} {T p l d : Nat} (h : PP σ T p) (hl : l < 6) (el : σ 40 (22 + p) = nI l) (hd : d < 30) (ed : σ 40 (28 + p) = nI d) (e40 : τ 40 = σ 40) (e3 : τ 3 = upd (upd (upd (upd (σ 3) (1 + 3 * T + 4 * p) (nI 59)) (1 + 3 * T + 4 * p + 1) (nI (48 + l))) (1 + 3 * T + 4 * p + 1 + 1) (nI (48 + d / 10))) (1 + 3 * T + 4 * p + 1 + 1 + 1) (nI (48 + d % 10))) : PP τ T (p + 1) := by
  intro i hi
  by_cases e : i = p
  · subst e
    rw [e40, e3]
    refine ⟨?_, ⟨l, hl, el, ?_⟩, d, hd, ed, ?_, ?_⟩
    · rw [upd_ne (by omega), upd_ne (by omega), upd_ne (by omega), upd_at]
    · rw [upd_ne (by omega), upd_ne (by omega), upd_at]
    · rw [upd_ne (by omega), upd_at]
    · rw [upd_at]
  · exact PP.cg (p := p) h (fun j hj => by rw [e3, upd_ne (by omega), upd_ne (by omega), upd_ne (by omega), upd_ne (by omega)]) (fun j hj => by rw [e40]; exact ⟨rfl, rfl⟩) i (by omega)
theorem kd4 {y : Int32} (h : ¬ someL y 4 = 3) : someL y 4 = 0 ∨ someL y 4 = 1 ∨ someL y 4 = 2 := by
  obtain ⟨j, hj, e⟩ := some_nI (x := y) 4 (show (4 : Int32) = nI 4 from rfl) (by decide) (by decide)
  rw [e] at h ⊢
  rcases (show j = 0 ∨ j = 1 ∨ j = 2 ∨ j = 3 by omega) with rfl | rfl | rfl | rfl
  · exact Or.inl rfl
  · exact Or.inr (Or.inl rfl)
  · exact Or.inr (Or.inr rfl)
  · exact absurd rfl h

set_option maxHeartbeats 4000000 in
set_option maxRecDepth 100000 in
theorem c_L_put {l : Launch} {D : DD} {ad : Nat → Nat} (σ : ST) (hsm : sN D < 2 ^ 31) : Ct l yL_put cL_put 12 (Option.some FieldType.int) 3 69 D ad [.ref (ad 0), .ref (sB D), .int (nI 0), .int (nI 6), .ref (ad 40), .ref (ad 41), .ref (ad 42), .ref (ad 43)] σ (pq (fun v τ => ∃ T P : Nat, v = nI (1 + 3 * T + 4 * P) ∧ PH τ T P ∧ PT τ T ∧ PP τ T P)) := by
  refine Ct.of2 [.ref (ad 0), .ref (sB D), .int (nI 0), .int (nI 6), .ref (ad 40), .ref (ad 41), .ref (ad 42), .ref (ad 43), .float 0, .float 0, .float 0, .float 0] rfl (Nat.le_of_ble_eq_true rfl) rfl ?_
  rintro X C rfl rfl rfl hxn hR
  have hn8 : 8 < xn X := by rw [← hxn]; decide
  have hn9 : 9 < xn X := by rw [← hxn]; decide
  have hn10 : 10 < xn X := by rw [← hxn]; decide
  have hn11 : 11 < xn X := by rw [← hxn]; decide
  refine V_aload_n_1 (q := 1) C rfl dL_put_0 ?_
  refine V_iload_n_2 (q := 2) C rfl dL_put_1 ?_
  refine V_cS2q (q := 5) C (c_L_cell σ 0 hsm (by decide)) cw_L_cell cs_L_cell wm_L_9 ⟨by decide, by decide⟩ (Nat.le_of_ble_eq_true rfl) rfl dL_put_2 (fun x σ1 h1 => ?_)
  rw [h1]
  refine V_istore_8 (q := 7) C hn8 rfl rfl dL_put_5 ?_
  refine V_aload_4 (q := 9) C rfl dL_put_7 ?_
  refine V_iconst (q := 10) (v := 0) C rfl rfl dL_put_9 ?_
  refine V_iconst (q := 11) (v := 1) C rfl rfl dL_put_10 ?_
  refine V_iload_8 (q := 13) C rfl dL_put_11 ?_
  refine V_iload_n_3 (q := 14) C rfl dL_put_13 ?_
  refine V_cS2r (q := 17) C (c_L_some _ _ _ (by decide)) cw_L_some cs_L_some wm_L_15 ⟨by decide, by decide⟩ (Nat.le_of_ble_eq_true rfl) rfl dL_put_14 ?_
  obtain ⟨j, hj, ej⟩ := some_nI (x := x) 6 (show (nI 6 : Int32) = nI 6 from rfl) (by decide) (by decide)
  rw [ej]
  refine V_iadd (q := 18) C rfl dL_put_17 ?_
  rw [show (1 : Int32) + nI j = nI (1 + j) from nI_add 1 j]
  refine V_iast (q := 19) C 0 rfl (by show _ < 48; omega) rfl (by decide) (by decide) rfl dL_put_18 ?_
  refine V_aload_4 (q := 21) C rfl dL_put_19 ?_
  refine V_iconst (q := 22) (v := 1) C rfl rfl dL_put_21 ?_
  refine V_iconst (q := 23) (v := 1) C rfl rfl dL_put_22 ?_
  refine V_iload_8 (q := 25) C rfl dL_put_23 ?_
  refine V_iconst (q := 26) (v := 3) C rfl rfl dL_put_25 ?_
  refine V_ishr (q := 27) C rfl dL_put_26 ?_
  refine V_bipush (q := 29) (v := 6) C (by decide) rfl dL_put_27 ?_
  refine V_cS2r (q := 32) C (c_L_some _ _ _ (by decide)) cw_L_some cs_L_some wm_L_15 ⟨by decide, by decide⟩ (Nat.le_of_ble_eq_true rfl) rfl dL_put_29 ?_
  obtain ⟨i, hi, ei⟩ := some_nI (x := x >>> (3 &&& 31)) 6 (show (6 : Int32) = nI 6 from rfl) (by decide) (by decide)
  rw [ei]
  refine V_iadd (q := 33) C rfl dL_put_32 ?_
  rw [show (1 : Int32) + nI i = nI (1 + i) from nI_add 1 i]
  refine V_iast (q := 34) C 1 rfl (by show _ < 48; omega) rfl (by decide) (by decide) rfl dL_put_33 ?_
  refine V_aload_4 (q := 36) C rfl dL_put_34 ?_
  refine V_iconst (q := 37) (v := 2) C rfl rfl dL_put_36 ?_
  refine V_iconst (q := 38) (v := 0) C rfl rfl dL_put_37 ?_
  refine V_iast (q := 39) C 2 rfl (by show _ < 48; omega) rfl (by decide) (by decide) rfl dL_put_38 ?_
  refine V_aload_4 (q := 41) C rfl dL_put_39 ?_
  refine V_bipush (q := 43) (v := 21) C (by decide) rfl dL_put_41 ?_
  refine V_iconst (q := 44) (v := 0) C rfl rfl dL_put_43 ?_
  refine V_iast (q := 45) C 21 rfl (by show _ < 48; omega) rfl (by decide) (by decide) rfl dL_put_44 ?_
  obtain ⟨T, hT⟩ : ∃ T : Nat, T = 1 + j := ⟨_, rfl⟩
  obtain ⟨P, hP⟩ : ∃ P : Nat, P = 1 + i := ⟨_, rfl⟩
  rw [← hT, ← hP]
  refine V_gen (Q := fun τ => τ 40 0 = nI T ∧ τ 40 1 = nI P ∧ τ 40 2 = 0 ∧ τ 40 21 = 0) (by exact ⟨rfl, rfl, rfl, rfl⟩) (fun τ hτ => ?_)
  refine V_iconst (q := 46) (v := (nI 0)) C rfl rfl dL_put_45 ?_
  refine V_istore_9 (q := 48) C hn9 rfl rfl dL_put_46 ?_
  have hx48 : ∀ τ : ST, (τ 40 0 = nI T ∧ τ 40 1 = nI P ∧ τ 40 2 = 0 ∧ τ 40 21 = 0) ∧ (∀ z, z < 30 → τ 41 z = 0 ∧ τ 42 z = -9 ∧ τ 43 z = 0) → V X 48 [.ref (xad X 0), .ref (sB (xD X)), .int (nI 0), .int (nI 6), .ref (xad X 40), .ref (xad X 41), .ref (xad X 42), .ref (xad X 43), .int x, .int (nI 30), .float 0, .float 0] [] (τ) := by
    intro τ hτ
    refine V_iload_9 (q := 50) C rfl dL_put_48 ?_
    refine V_bipush (q := 52) (v := 30) C (by decide) rfl dL_put_50 ?_
    refine V_icmp_ge_t (tgt := 80) C (by decide) (by decide) dL_put_52 ?_
    refine V_aload_n_0 (q := 81) C rfl dL_put_80 ?_
    refine V_iconst (q := 82) (v := (nI 0)) C rfl rfl dL_put_81 ?_
    refine V_iconst (q := 83) (v := 0) C rfl rfl dL_put_82 ?_
    refine V_bipush (q := 85) (v := (nI 50)) C (by decide) rfl dL_put_83 ?_
    refine V_cV3r (q := 88) C (c_X8_sheet_v τ 0 50 0 (by decide) (by decide) (by decide)) cw_X8_sheet cv_X8_sheet wm_L_19 (by decide) ob_X8 ⟨by decide, by decide⟩ (Nat.le_of_ble_eq_true rfl) rfl dL_put_85 ?_
    refine V_iconst (q := 89) (v := 1) C rfl rfl dL_put_88 ?_
    refine V_icmp_ne_f (tgt := 104) C rfl rfl (by decide) dL_put_89 ?_
    refine V_aload_n_0 (q := 93) C rfl dL_put_92 ?_
    refine V_iconst (q := 94) (v := (nI 0)) C rfl rfl dL_put_93 ?_
    refine V_iconst (q := 95) (v := (nI 0)) C rfl rfl dL_put_94 ?_
    refine V_bipush (q := 97) (v := (nI 107)) C (by decide) rfl dL_put_95 ?_
    refine V_cV3r (q := 100) C (c_put0 _ 0 107 ⟨rfl, rfl, rfl⟩ (by decide) (by decide)) cw_X8_put cv_X8_put wm_L_25 (by decide) ob_X8 ⟨by decide, by decide⟩ (Nat.le_of_ble_eq_true rfl) rfl dL_put_97 ?_
    refine V_iconst (q := 101) (v := 1) C rfl rfl dL_put_100 ?_
    refine V_icmp_eq_t (tgt := 107) C rfl (by decide) dL_put_101 ?_
    refine V_gen (Q := fun τ => PH τ T P) (by exact ⟨⟨by omega, by omega, by omega, by omega⟩, hτ.1, ⟨rfl, rfl, rfl⟩, hτ.2, rfl⟩) (fun τ hτ => ?_)
    refine V_iconst (q := 108) (v := (nI (1 + 3 * 0))) C rfl rfl dL_put_107 ?_
    refine V_istore_9 (q := 110) C hn9 rfl rfl dL_put_108 ?_
    refine V_iconst (q := 111) (v := (nI 0)) C rfl rfl dL_put_110 ?_
    refine V_istore_10 (q := 113) C hn10 rfl rfl dL_put_111 ?_
    have hx113 : ∀ τ : ST, PH τ T P ∧ PT τ T → V X 113 [.ref (xad X 0), .ref (sB (xD X)), .int (nI 0), .int (nI 6), .ref (xad X 40), .ref (xad X 41), .ref (xad X 42), .ref (xad X 43), .int x, .int (nI (1 + 3 * T)), .int (nI T), .float 0] [] (τ) := by
      intro τ hτ
      refine V_iload_10 (q := 115) C rfl dL_put_113 ?_
      refine V_aload_4 (q := 117) C rfl dL_put_115 ?_
      refine V_iconst (q := 118) (v := 0) C rfl rfl dL_put_117 ?_
      refine V_ialde (q := 119) C 0 rfl (by show _ < 48; omega) hτ.1.2.1.1 rfl (by decide) (by decide) rfl dL_put_118 ?_
      refine V_icmp_ge_t (tgt := 329) C (nI_le (Nat.le_refl _) (by omega)) (by decide) dL_put_119 ?_
      refine V_iconst (q := 330) (v := (nI 0)) C rfl rfl dL_put_329 ?_
      refine V_istore_10 (q := 332) C hn10 rfl rfl dL_put_330 ?_
      have hx332 : ∀ τ : ST, PH τ T P ∧ PT τ T ∧ PP τ T P → V X 332 [.ref (xad X 0), .ref (sB (xD X)), .int (nI 0), .int (nI 6), .ref (xad X 40), .ref (xad X 41), .ref (xad X 42), .ref (xad X 43), .int x, .int (nI (1 + 3 * T + 4 * P)), .int (nI P), .float 0] [] (τ) := by
        intro τ hτ
        refine V_iload_10 (q := 334) C rfl dL_put_332 ?_
        refine V_aload_4 (q := 336) C rfl dL_put_334 ?_
        refine V_iconst (q := 337) (v := 1) C rfl rfl dL_put_336 ?_
        refine V_ialde (q := 338) C 1 rfl (by show _ < 48; omega) hτ.1.2.1.2.1 rfl (by decide) (by decide) rfl dL_put_337 ?_
        refine V_icmp_ge_t (tgt := 509) C (nI_le (Nat.le_refl _) (by omega)) (by decide) dL_put_338 ?_
        refine V_iload_9 (q := 511) C rfl dL_put_509 ?_
        refine V_iret C hR dL_put_511 ?_
        exact ⟨_, rfl, T, P, rfl, hτ⟩
      have hs332 : ∀ p : Nat, p < P → (∀ τ : ST, PH τ T P ∧ PT τ T ∧ PP τ T (p + 1) → V X 332 [.ref (xad X 0), .ref (sB (xD X)), .int (nI 0), .int (nI 6), .ref (xad X 40), .ref (xad X 41), .ref (xad X 42), .ref (xad X 43), .int x, .int (nI (1 + 3 * T + 4 * (p + 1))), .int (nI (p + 1)), .float 0] [] (τ)) → ∀ τ : ST, PH τ T P ∧ PT τ T ∧ PP τ T p → V X 332 [.ref (xad X 0), .ref (sB (xD X)), .int (nI 0), .int (nI 6), .ref (xad X 40), .ref (xad X 41), .ref (xad X 42), .ref (xad X 43), .int x, .int (nI (1 + 3 * T + 4 * p)), .int (nI p), .float 0] [] (τ) := by
        intro p hi332 ih332 τ hτ
        have hp6 : p < 6 := by omega
        refine V_iload_10 (q := 334) C rfl dL_put_332 ?_
        refine V_aload_4 (q := 336) C rfl dL_put_334 ?_
        refine V_iconst (q := 337) (v := 1) C rfl rfl dL_put_336 ?_
        refine V_ialde (q := 338) C 1 rfl (by show _ < 48; omega) hτ.1.2.1.2.1 rfl (by decide) (by decide) rfl dL_put_337 ?_
        refine V_icmp_ge_f (tgt := 509) C (nI_ge hi332 (by omega)) rfl (by decide) dL_put_338 ?_
        refine V_aload_n_1 (q := 342) C rfl dL_put_341 ?_
        refine V_iload_n_2 (q := 343) C rfl dL_put_342 ?_
        refine V_iconst (q := 344) (v := 3) C rfl rfl dL_put_343 ?_
        refine V_iadd (q := 345) C rfl dL_put_344 ?_
        rw [show nI 0 + 3 = nI 3 from rfl]
        refine V_cS2q (q := 348) C (c_L_cell _ 3 hsm (by decide)) cw_L_cell cs_L_cell wm_L_9 ⟨by decide, by decide⟩ (Nat.le_of_ble_eq_true rfl) rfl dL_put_345 (fun y τ1 h1 => ?_)
        rw [h1]
        refine V_iconst (q := 349) (v := 3) C rfl rfl dL_put_348 ?_
        refine V_iload_10 (q := 351) C rfl dL_put_349 ?_
        refine V_imul (q := 352) C rfl dL_put_351 ?_
        refine V_ishr (q := 353) C rfl dL_put_352 ?_
        refine V_topi (fun y2 _ => ?_)
        refine V_istore_11 (q := 355) C hn11 rfl rfl dL_put_353 ?_
        have k386 : ∀ l : Nat, l < 6 → V X 386 [.ref (xad X 0), .ref (sB (xD X)), .int (nI 0), .int (nI 6), .ref (xad X 40), .ref (xad X 41), .ref (xad X 42), .ref (xad X 43), .int x, .int (nI (1 + 3 * T + 4 * p)), .int (nI p), .int y2] [] (setf τ 40 (22 + p) (nI l)) := by
          intro l hl
          refine V_aload_4 (q := 388) C rfl dL_put_386 ?_
          refine V_bipush (q := 390) (v := 28) C (by decide) rfl dL_put_388 ?_
          refine V_iload_10 (q := 392) C rfl dL_put_390 ?_
          refine V_iadd (q := 393) C rfl dL_put_392 ?_
          refine V_iload_11 (q := 395) C rfl dL_put_393 ?_
          refine V_iconst (q := 396) (v := 2) C rfl rfl dL_put_395 ?_
          refine V_ishr (q := 397) C rfl dL_put_396 ?_
          refine V_bipush (q := 399) (v := 30) C (by decide) rfl dL_put_397 ?_
          refine V_cS2r (q := 402) C (c_L_some _ _ _ (by decide)) cw_L_some cs_L_some wm_L_15 ⟨by decide, by decide⟩ (Nat.le_of_ble_eq_true rfl) rfl dL_put_399 ?_
          obtain ⟨d, hd, ed⟩ := some_nI (x := y2 >>> (2 &&& 31)) 30 (show (30 : Int32) = nI 30 from rfl) (by decide) (by decide)
          rw [ed]
          refine V_iast (q := 403) C (28 + p) (nI_add 28 p) (by show _ < 48; omega) rfl (by decide) (by decide) rfl dL_put_402 ?_
          refine V_gen (Q := fun τ => PH τ T P ∧ PT τ T ∧ PP τ T p ∧ τ 40 (22 + p) = nI l ∧ τ 40 (28 + p) = nI d) (by
    have u : ∀ i, i ≠ 22 + p → i ≠ 28 + p → upd (upd (τ 40) (22 + p) (nI l)) (28 + p) (nI d) i = τ 40 i := fun i a b => by rw [upd_ne b, upd_ne a]
    refine ⟨hτ.1.cg rfl ⟨rfl, rfl, rfl⟩ rfl ⟨u 0 (by omega) (by omega), u 1 (by omega) (by omega), u 2 (by omega) (by omega), u 21 (by omega) (by omega)⟩, PT.cg hτ.2.1 (fun _ _ => rfl) (fun i hi => ⟨u _ (by omega) (by omega), u _ (by omega) (by omega), u _ (by omega) (by omega)⟩), PP.cg hτ.2.2 (fun _ _ => rfl) (fun i hi => ⟨u _ (by omega) (by omega), u _ (by omega) (by omega)⟩), ?_, ?_⟩
    · show upd (upd (τ 40) (22 + p) (nI l)) (28 + p) (nI d) (22 + p) = nI l
      rw [upd_ne (by omega), upd_at]
    · exact upd_at) (fun τ3 h3 => ?_)
          refine V_aload_n_0 (q := 404) C rfl dL_put_403 ?_
          refine V_iconst (q := 405) (v := (nI 0)) C rfl rfl dL_put_404 ?_
          refine V_iload_9 (q := 407) C rfl dL_put_405 ?_
          refine V_iinc_9 (q := 410) (n := 1) C nI_inc hn9 rfl rfl dL_put_407 ?_
          refine V_bipush (q := 412) (v := (nI 59)) C (by decide) rfl dL_put_410 ?_
          refine V_cV3r (q := 415) C (c_put0 _ (1 + 3 * T + 4 * p) 59 h3.1.2.2.1 (by omega) (by decide)) cw_X8_put cv_X8_put wm_L_25 (by decide) ob_X8 ⟨by decide, by decide⟩ (Nat.le_of_ble_eq_true rfl) rfl dL_put_412 ?_
          refine V_iconst (q := 416) (v := 1) C rfl rfl dL_put_415 ?_
          refine V_icmp_ne_f (tgt := 500) C rfl rfl (by decide) dL_put_416 ?_
          refine V_aload_n_0 (q := 420) C rfl dL_put_419 ?_
          refine V_iconst (q := 421) (v := (nI 0)) C rfl rfl dL_put_420 ?_
          refine V_iload_9 (q := 423) C rfl dL_put_421 ?_
          refine V_iinc_9 (q := 426) (n := 1) C nI_inc hn9 rfl rfl dL_put_423 ?_
          refine V_bipush (q := 428) (v := 48) C (by decide) rfl dL_put_426 ?_
          refine V_aload_4 (q := 430) C rfl dL_put_428 ?_
          refine V_bipush (q := 432) (v := 22) C (by decide) rfl dL_put_430 ?_
          refine V_iload_10 (q := 434) C rfl dL_put_432 ?_
          refine V_iadd (q := 435) C rfl dL_put_434 ?_
          refine V_ialde (q := 436) C (22 + p) (nI_add 22 p) (by show _ < 48; omega) h3.2.2.2.1 rfl (by decide) (by decide) rfl dL_put_435 ?_
          refine V_iadd (q := 437) C rfl dL_put_436 ?_
          rw [show (48 : Int32) + nI l = nI (48 + l) from nI_add 48 l]
          refine V_cV3r (q := 440) C (c_put0 _ (1 + 3 * T + 4 * p + 1) (48 + l) h3.1.2.2.1 (by omega) (by omega)) cw_X8_put cv_X8_put wm_L_25 (by decide) ob_X8 ⟨by decide, by decide⟩ (Nat.le_of_ble_eq_true rfl) rfl dL_put_437 ?_
          refine V_iconst (q := 441) (v := 1) C rfl rfl dL_put_440 ?_
          refine V_icmp_ne_f (tgt := 500) C rfl rfl (by decide) dL_put_441 ?_
          refine V_aload_n_0 (q := 445) C rfl dL_put_444 ?_
          refine V_iconst (q := 446) (v := (nI 0)) C rfl rfl dL_put_445 ?_
          refine V_iload_9 (q := 448) C rfl dL_put_446 ?_
          refine V_iinc_9 (q := 451) (n := 1) C nI_inc hn9 rfl rfl dL_put_448 ?_
          refine V_bipush (q := 453) (v := 48) C (by decide) rfl dL_put_451 ?_
          refine V_aload_4 (q := 455) C rfl dL_put_453 ?_
          refine V_bipush (q := 457) (v := 28) C (by decide) rfl dL_put_455 ?_
          refine V_iload_10 (q := 459) C rfl dL_put_457 ?_
          refine V_iadd (q := 460) C rfl dL_put_459 ?_
          refine V_ialde (q := 461) C (28 + p) (nI_add 28 p) (by show _ < 48; omega) h3.2.2.2.2 rfl (by decide) (by decide) rfl dL_put_460 ?_
          refine V_bipush (q := 463) (v := 10) C (by decide) rfl dL_put_461 ?_
          refine V_idiv (q := 464) C (by decide) rfl dL_put_463 ?_
          rw [show nI d / 10 = nI (d / 10) from pk_div (by omega) (by decide) (by decide)]
          refine V_iadd (q := 465) C rfl dL_put_464 ?_
          rw [show (48 : Int32) + nI (d / 10) = nI (48 + d / 10) from nI_add 48 _]
          refine V_cV3r (q := 468) C (c_put0 _ (1 + 3 * T + 4 * p + 1 + 1) (48 + d / 10) h3.1.2.2.1 (by omega) (by omega)) cw_X8_put cv_X8_put wm_L_25 (by decide) ob_X8 ⟨by decide, by decide⟩ (Nat.le_of_ble_eq_true rfl) rfl dL_put_465 ?_
          refine V_iconst (q := 469) (v := 1) C rfl rfl dL_put_468 ?_
          refine V_icmp_ne_f (tgt := 500) C rfl rfl (by decide) dL_put_469 ?_
          refine V_aload_n_0 (q := 473) C rfl dL_put_472 ?_
          refine V_iconst (q := 474) (v := (nI 0)) C rfl rfl dL_put_473 ?_
          refine V_iload_9 (q := 476) C rfl dL_put_474 ?_
          refine V_iinc_9 (q := 479) (n := 1) C nI_inc hn9 rfl rfl dL_put_476 ?_
          refine V_bipush (q := 481) (v := 48) C (by decide) rfl dL_put_479 ?_
          refine V_aload_4 (q := 483) C rfl dL_put_481 ?_
          refine V_bipush (q := 485) (v := 28) C (by decide) rfl dL_put_483 ?_
          refine V_iload_10 (q := 487) C rfl dL_put_485 ?_
          refine V_iadd (q := 488) C rfl dL_put_487 ?_
          refine V_ialde (q := 489) C (28 + p) (nI_add 28 p) (by show _ < 48; omega) h3.2.2.2.2 rfl (by decide) (by decide) rfl dL_put_488 ?_
          refine V_bipush (q := 491) (v := 10) C (by decide) rfl dL_put_489 ?_
          refine V_irem (q := 492) C (by decide) rfl dL_put_491 ?_
          rw [show nI d - nI d / 10 * 10 = nI (d % 10) from pk_rem (by omega) (by decide) (by decide)]
          refine V_iadd (q := 493) C rfl dL_put_492 ?_
          rw [show (48 : Int32) + nI (d % 10) = nI (48 + d % 10) from nI_add 48 _]
          refine V_cV3r (q := 496) C (c_put0 _ (1 + 3 * T + 4 * p + 1 + 1 + 1) (48 + d % 10) h3.1.2.2.1 (by omega) (by omega)) cw_X8_put cv_X8_put wm_L_25 (by decide) ob_X8 ⟨by decide, by decide⟩ (Nat.le_of_ble_eq_true rfl) rfl dL_put_493 ?_
          refine V_iconst (q := 497) (v := 1) C rfl rfl dL_put_496 ?_
          refine V_icmp_eq_t (tgt := 503) C rfl (by decide) dL_put_497 ?_
          refine V_iinc_10 (q := 506) (n := 1) C nI_inc hn10 rfl rfl dL_put_503 ?_
          refine V_goto (tgt := 332) C (by decide) dL_put_506 ?_
          rw [show 1 + 3 * T + 4 * p + 1 + 1 + 1 + 1 = 1 + 3 * T + 4 * (p + 1) by omega]
          refine V_wk (lv2 := [.ref (xad X 0), .ref (sB (xD X)), .int (nI 0), .int (nI 6), .ref (xad X 40), .ref (xad X 41), .ref (xad X 42), .ref (xad X 43), .int x, .int (nI (1 + 3 * T + 4 * (p + 1))), .int (nI (p + 1)), .float 0]) ⟨Or.inl rfl, ⟨Or.inl rfl, ⟨Or.inl rfl, ⟨Or.inl rfl, ⟨Or.inl rfl, ⟨Or.inl rfl, ⟨Or.inl rfl, ⟨Or.inl rfl, ⟨Or.inl rfl, ⟨Or.inl rfl, ⟨Or.inl rfl, ⟨Or.inr rfl, trivial⟩⟩⟩⟩⟩⟩⟩⟩⟩⟩⟩⟩ ?_
          exact V_gen (Q := fun τ => PH τ T P ∧ PT τ T ∧ PP τ T (p + 1)) ⟨h3.1.cg rfl ⟨rfl, rfl, rfl⟩ ((upd_ne (by omega)).trans ((upd_ne (by omega)).trans ((upd_ne (by omega)).trans (upd_ne (by omega))))) ⟨rfl, rfl, rfl, rfl⟩, PT.cg h3.2.1 (fun i hi => (upd_ne (by omega)).trans ((upd_ne (by omega)).trans ((upd_ne (by omega)).trans (upd_ne (by omega))))) (fun _ _ => ⟨rfl, rfl, rfl⟩), PP.step h3.2.2.1 hl h3.2.2.2.1 hd h3.2.2.2.2 rfl rfl⟩ ih332
        refine V_aload_4 (q := 357) C rfl dL_put_355 ?_
        refine V_bipush (q := 359) (v := 22) C (by decide) rfl dL_put_357 ?_
        refine V_iload_10 (q := 361) C rfl dL_put_359 ?_
        refine V_iadd (q := 362) C rfl dL_put_361 ?_
        refine V_iload_11 (q := 364) C rfl dL_put_362 ?_
        refine V_iload_8 (q := 366) C rfl dL_put_364 ?_
        refine V_bipush (q := 368) (v := 6) C (by decide) rfl dL_put_366 ?_
        refine V_ishr (q := 369) C rfl dL_put_368 ?_
        refine V_iconst (q := 370) (v := 2) C rfl rfl dL_put_369 ?_
        refine V_cS2r (q := 373) C (c_L_some _ _ _ (by decide)) cw_L_some cs_L_some wm_L_15 ⟨by decide, by decide⟩ (Nat.le_of_ble_eq_true rfl) rfl dL_put_370 ?_
        refine V_if_ne (tgt := 381) C rfl (by decide) dL_put_373 (fun c373 => ?_) (fun c373 => ?_)
        · refine V_iconst (q := 382) (v := 3) C rfl rfl dL_put_381 ?_
          refine V_cS2r (q := 385) C (c_L_some _ _ _ (by decide)) cw_L_some cs_L_some wm_L_15 ⟨by decide, by decide⟩ (Nat.le_of_ble_eq_true rfl) rfl dL_put_382 ?_
          obtain ⟨l, hl, el⟩ := some_nI (x := y2) 3 (show (3 : Int32) = nI 3 from rfl) (by decide) (by decide)
          rw [el]
          refine V_iast (q := 386) C (22 + p) (nI_add 22 p) (by show _ < 48; omega) rfl (by decide) (by decide) rfl dL_put_385 ?_
          exact k386 l (by omega)
        · refine V_bipush (q := 378) (v := 6) C (by decide) rfl dL_put_376 ?_
          refine V_goto (tgt := 382) C (by decide) dL_put_378 ?_
          refine V_cS2r (q := 385) C (c_L_some _ _ _ (by decide)) cw_L_some cs_L_some wm_L_15 ⟨by decide, by decide⟩ (Nat.le_of_ble_eq_true rfl) rfl dL_put_382 ?_
          obtain ⟨l, hl, el⟩ := some_nI (x := y2) 6 (show (6 : Int32) = nI 6 from rfl) (by decide) (by decide)
          rw [el]
          refine V_iast (q := 386) C (22 + p) (nI_add 22 p) (by show _ < 48; omega) rfl (by decide) (by decide) rfl dL_put_385 ?_
          exact k386 l (by omega)
      exact V_eq (rfl) (loopN (P := fun p => ∀ τ : ST, PH τ T P ∧ PT τ T ∧ PP τ T p → V X 332 [.ref (xad X 0), .ref (sB (xD X)), .int (nI 0), .int (nI 6), .ref (xad X 40), .ref (xad X 41), .ref (xad X 42), .ref (xad X 43), .int x, .int (nI (1 + 3 * T + 4 * p)), .int (nI p), .float 0] [] (τ)) (P) hx332 hs332 0 (Nat.zero_le _) τ ⟨hτ.1, hτ.2, fun z h => absurd h (Nat.not_lt_zero _)⟩)
    have hs113 : ∀ t : Nat, t < T → (∀ τ : ST, PH τ T P ∧ PT τ (t + 1) → V X 113 [.ref (xad X 0), .ref (sB (xD X)), .int (nI 0), .int (nI 6), .ref (xad X 40), .ref (xad X 41), .ref (xad X 42), .ref (xad X 43), .int x, .int (nI (1 + 3 * (t + 1))), .int (nI (t + 1)), .float 0] [] (τ)) → ∀ τ : ST, PH τ T P ∧ PT τ t → V X 113 [.ref (xad X 0), .ref (sB (xD X)), .int (nI 0), .int (nI 6), .ref (xad X 40), .ref (xad X 41), .ref (xad X 42), .ref (xad X 43), .int x, .int (nI (1 + 3 * t)), .int (nI t), .float 0] [] (τ) := by
      intro t hi113 ih113 τ hτ
      have ht6 : t < 6 := by omega
      refine V_iload_10 (q := 115) C rfl dL_put_113 ?_
      refine V_aload_4 (q := 117) C rfl dL_put_115 ?_
      refine V_iconst (q := 118) (v := 0) C rfl rfl dL_put_117 ?_
      refine V_ialde (q := 119) C 0 rfl (by show _ < 48; omega) hτ.1.2.1.1 rfl (by decide) (by decide) rfl dL_put_118 ?_
      refine V_icmp_ge_f (tgt := 329) C (nI_ge hi113 (by omega)) rfl (by decide) dL_put_119 ?_
      refine V_aload_n_1 (q := 123) C rfl dL_put_122 ?_
      refine V_iload_n_2 (q := 124) C rfl dL_put_123 ?_
      refine V_iconst (q := 125) (v := 1) C rfl rfl dL_put_124 ?_
      refine V_iadd (q := 126) C rfl dL_put_125 ?_
      rw [show nI 0 + 1 = nI 1 from rfl]
      refine V_iload_10 (q := 128) C rfl dL_put_126 ?_
      refine V_iconst (q := 129) (v := 2) C rfl rfl dL_put_128 ?_
      refine V_irem (q := 130) C (by decide) rfl dL_put_129 ?_
      rw [show nI t - nI t / 2 * 2 = nI (t % 2) from pk_rem (by omega) (by decide) (by decide)]
      refine V_iadd (q := 131) C rfl dL_put_130 ?_
      rw [show nI 1 + nI (t % 2) = nI (1 + t % 2) from nI_add 1 _]
      refine V_cS2q (q := 134) C (c_L_cell _ (1 + t % 2) hsm (by omega)) cw_L_cell cs_L_cell wm_L_9 ⟨by decide, by decide⟩ (Nat.le_of_ble_eq_true rfl) rfl dL_put_131 (fun y τ1 h1 => ?_)
      rw [h1]
      refine V_iload_10 (q := 136) C rfl dL_put_134 ?_
      refine V_iconst (q := 137) (v := 2) C rfl rfl dL_put_136 ?_
      refine V_idiv (q := 138) C (by decide) rfl dL_put_137 ?_
      refine V_bipush (q := 140) (v := 7) C (by decide) rfl dL_put_138 ?_
      refine V_imul (q := 141) C rfl dL_put_140 ?_
      refine V_ishr (q := 142) C rfl dL_put_141 ?_
      refine V_topi (fun y2 _ => ?_)
      refine V_istore_11 (q := 144) C hn11 rfl rfl dL_put_142 ?_
      have k171 : ∀ k : Int32, (k = 0 ∨ k = 1 ∨ k = 2) → V X 171 [.ref (xad X 0), .ref (sB (xD X)), .int (nI 0), .int (nI 6), .ref (xad X 40), .ref (xad X 41), .ref (xad X 42), .ref (xad X 43), .int x, .int (nI (1 + 3 * t)), .int (nI t), .int y2] [] (setf τ 40 (3 + t) k) := by
        intro k hk
        have k204 : ∀ l : Nat, l < 6 → V X 204 [.ref (xad X 0), .ref (sB (xD X)), .int (nI 0), .int (nI 6), .ref (xad X 40), .ref (xad X 41), .ref (xad X 42), .ref (xad X 43), .int x, .int (nI (1 + 3 * t)), .int (nI t), .int y2] [] (setf (setf τ 40 (3 + t) k) 40 (9 + t) (nI l)) := by
          intro l hl
          refine V_aload_4 (q := 206) C rfl dL_put_204 ?_
          refine V_bipush (q := 208) (v := 15) C (by decide) rfl dL_put_206 ?_
          refine V_iload_10 (q := 210) C rfl dL_put_208 ?_
          refine V_iadd (q := 211) C rfl dL_put_210 ?_
          refine V_iconst (q := 212) (v := 1) C rfl rfl dL_put_211 ?_
          refine V_iload_11 (q := 214) C rfl dL_put_212 ?_
          refine V_iconst (q := 215) (v := 3) C rfl rfl dL_put_214 ?_
          refine V_ishr (q := 216) C rfl dL_put_215 ?_
          refine V_bipush (q := 218) (v := 9) C (by decide) rfl dL_put_216 ?_
          refine V_cS2r (q := 221) C (c_L_some _ _ _ (by decide)) cw_L_some cs_L_some wm_L_15 ⟨by decide, by decide⟩ (Nat.le_of_ble_eq_true rfl) rfl dL_put_218 ?_
          obtain ⟨n, hn, en⟩ := some_nI (x := y2 >>> (3 &&& 31)) 9 (show (9 : Int32) = nI 9 from rfl) (by decide) (by decide)
          rw [en]
          refine V_iadd (q := 222) C rfl dL_put_221 ?_
          rw [show (1 : Int32) + nI n = nI (1 + n) from nI_add 1 n]
          refine V_iast (q := 223) C (15 + t) (nI_add 15 t) (by show _ < 48; omega) rfl (by decide) (by decide) rfl dL_put_222 ?_
          refine V_gen (Q := fun τ => PH τ T P ∧ PT τ t ∧ τ 40 (3 + t) = k ∧ τ 40 (9 + t) = nI l ∧ τ 40 (15 + t) = nI (1 + n)) (by
    have u : ∀ i, i ≠ 3 + t → i ≠ 9 + t → i ≠ 15 + t → upd (upd (upd (τ 40) (3 + t) k) (9 + t) (nI l)) (15 + t) (nI (1 + n)) i = τ 40 i := fun i a b c => by rw [upd_ne c, upd_ne b, upd_ne a]
    refine ⟨hτ.1.cg rfl ⟨rfl, rfl, rfl⟩ rfl ⟨u 0 (by omega) (by omega) (by omega), u 1 (by omega) (by omega) (by omega), u 2 (by omega) (by omega) (by omega), u 21 (by omega) (by omega) (by omega)⟩, PT.cg hτ.2 (fun _ _ => rfl) (fun i hi => ⟨u _ (by omega) (by omega) (by omega), u _ (by omega) (by omega) (by omega), u _ (by omega) (by omega) (by omega)⟩), ?_, ?_, ?_⟩
    · show upd (upd (upd (τ 40) (3 + t) k) (9 + t) (nI l)) (15 + t) (nI (1 + n)) (3 + t) = k
      rw [upd_ne (by omega), upd_ne (by omega), upd_at]
    · show upd (upd (upd (τ 40) (3 + t) k) (9 + t) (nI l)) (15 + t) (nI (1 + n)) (9 + t) = nI l
      rw [upd_ne (by omega), upd_at]
    · exact upd_at) (fun τ3 h3 => ?_)
          refine V_aload_n_0 (q := 224) C rfl dL_put_223 ?_
          refine V_iconst (q := 225) (v := (nI 0)) C rfl rfl dL_put_224 ?_
          have k263 : ∀ c : Nat, c < 128 → nI c = ltr k → V X 263 [.ref (xad X 0), .ref (sB (xD X)), .int (nI 0), .int (nI 6), .ref (xad X 40), .ref (xad X 41), .ref (xad X 42), .ref (xad X 43), .int x, .int (nI (1 + 3 * t + 1)), .int (nI t), .int y2] [.int (nI c), .int (nI (1 + 3 * t)), .int (nI 0), .ref (xad X 0)] (τ3) := by
            intro c hc hcl
            refine V_cV3r (q := 266) C (c_put0 _ (1 + 3 * t) c h3.1.2.2.1 (by omega) hc) cw_X8_put cv_X8_put wm_L_25 (by decide) ob_X8 ⟨by decide, by decide⟩ (Nat.le_of_ble_eq_true rfl) rfl dL_put_263 ?_
            refine V_iconst (q := 267) (v := 1) C rfl rfl dL_put_266 ?_
            refine V_icmp_ne_f (tgt := 320) C rfl rfl (by decide) dL_put_267 ?_
            refine V_aload_n_0 (q := 271) C rfl dL_put_270 ?_
            refine V_iconst (q := 272) (v := (nI 0)) C rfl rfl dL_put_271 ?_
            refine V_iload_9 (q := 274) C rfl dL_put_272 ?_
            refine V_iinc_9 (q := 277) (n := 1) C nI_inc hn9 rfl rfl dL_put_274 ?_
            refine V_bipush (q := 279) (v := 48) C (by decide) rfl dL_put_277 ?_
            refine V_aload_4 (q := 281) C rfl dL_put_279 ?_
            refine V_bipush (q := 283) (v := 9) C (by decide) rfl dL_put_281 ?_
            refine V_iload_10 (q := 285) C rfl dL_put_283 ?_
            refine V_iadd (q := 286) C rfl dL_put_285 ?_
            refine V_ialde (q := 287) C (9 + t) (nI_add 9 t) (by show _ < 48; omega) h3.2.2.2.1 rfl (by decide) (by decide) rfl dL_put_286 ?_
            refine V_iadd (q := 288) C rfl dL_put_287 ?_
            rw [show (48 : Int32) + nI l = nI (48 + l) from nI_add 48 l]
            refine V_cV3r (q := 291) C (c_put0 _ (1 + 3 * t + 1) (48 + l) h3.1.2.2.1 (by omega) (by omega)) cw_X8_put cv_X8_put wm_L_25 (by decide) ob_X8 ⟨by decide, by decide⟩ (Nat.le_of_ble_eq_true rfl) rfl dL_put_288 ?_
            refine V_iconst (q := 292) (v := 1) C rfl rfl dL_put_291 ?_
            refine V_icmp_ne_f (tgt := 320) C rfl rfl (by decide) dL_put_292 ?_
            refine V_aload_n_0 (q := 296) C rfl dL_put_295 ?_
            refine V_iconst (q := 297) (v := (nI 0)) C rfl rfl dL_put_296 ?_
            refine V_iload_9 (q := 299) C rfl dL_put_297 ?_
            refine V_iinc_9 (q := 302) (n := 1) C nI_inc hn9 rfl rfl dL_put_299 ?_
            refine V_bipush (q := 304) (v := 48) C (by decide) rfl dL_put_302 ?_
            refine V_aload_4 (q := 306) C rfl dL_put_304 ?_
            refine V_bipush (q := 308) (v := 15) C (by decide) rfl dL_put_306 ?_
            refine V_iload_10 (q := 310) C rfl dL_put_308 ?_
            refine V_iadd (q := 311) C rfl dL_put_310 ?_
            refine V_ialde (q := 312) C (15 + t) (nI_add 15 t) (by show _ < 48; omega) h3.2.2.2.2 rfl (by decide) (by decide) rfl dL_put_311 ?_
            refine V_iadd (q := 313) C rfl dL_put_312 ?_
            rw [show (48 : Int32) + nI (1 + n) = nI (48 + (1 + n)) from nI_add 48 _]
            refine V_cV3r (q := 316) C (c_put0 _ (1 + 3 * t + 1 + 1) (48 + (1 + n)) h3.1.2.2.1 (by omega) (by omega)) cw_X8_put cv_X8_put wm_L_25 (by decide) ob_X8 ⟨by decide, by decide⟩ (Nat.le_of_ble_eq_true rfl) rfl dL_put_313 ?_
            refine V_iconst (q := 317) (v := 1) C rfl rfl dL_put_316 ?_
            refine V_icmp_eq_t (tgt := 323) C rfl (by decide) dL_put_317 ?_
            refine V_iinc_10 (q := 326) (n := 1) C nI_inc hn10 rfl rfl dL_put_323 ?_
            refine V_goto (tgt := 113) C (by decide) dL_put_326 ?_
            rw [show 1 + 3 * t + 1 + 1 + 1 = 1 + 3 * (t + 1) by omega]
            refine V_wk (lv2 := [.ref (xad X 0), .ref (sB (xD X)), .int (nI 0), .int (nI 6), .ref (xad X 40), .ref (xad X 41), .ref (xad X 42), .ref (xad X 43), .int x, .int (nI (1 + 3 * (t + 1))), .int (nI (t + 1)), .float 0]) ⟨Or.inl rfl, ⟨Or.inl rfl, ⟨Or.inl rfl, ⟨Or.inl rfl, ⟨Or.inl rfl, ⟨Or.inl rfl, ⟨Or.inl rfl, ⟨Or.inl rfl, ⟨Or.inl rfl, ⟨Or.inl rfl, ⟨Or.inl rfl, ⟨Or.inr rfl, trivial⟩⟩⟩⟩⟩⟩⟩⟩⟩⟩⟩⟩ ?_
            exact V_gen (Q := fun τ => PH τ T P ∧ PT τ (t + 1)) ⟨h3.1.cg rfl ⟨rfl, rfl, rfl⟩ ((upd_ne (by omega)).trans ((upd_ne (by omega)).trans (upd_ne (by omega)))) ⟨rfl, rfl, rfl, rfl⟩, PT.step ht6 h3.2.1 hk h3.2.2.1 hcl hl h3.2.2.2.1 (by omega) (by omega) h3.2.2.2.2 rfl rfl⟩ ih113
          refine V_iload_9 (q := 227) C rfl dL_put_225 ?_
          refine V_iinc_9 (q := 230) (n := 1) C nI_inc hn9 rfl rfl dL_put_227 ?_
          refine V_aload_4 (q := 232) C rfl dL_put_230 ?_
          refine V_iconst (q := 233) (v := 3) C rfl rfl dL_put_232 ?_
          refine V_iload_10 (q := 235) C rfl dL_put_233 ?_
          refine V_iadd (q := 236) C rfl dL_put_235 ?_
          refine V_ialde (q := 237) C (3 + t) (nI_add 3 t) (by show _ < 48; omega) h3.2.2.1 rfl (by decide) (by decide) rfl dL_put_236 ?_
          refine V_if_ne (tgt := 245) C rfl (by decide) dL_put_237 (fun c237 => ?_) (fun c237 => ?_)
          · refine V_aload_4 (q := 247) C rfl dL_put_245 ?_
            refine V_iconst (q := 248) (v := 3) C rfl rfl dL_put_247 ?_
            refine V_iload_10 (q := 250) C rfl dL_put_248 ?_
            refine V_iadd (q := 251) C rfl dL_put_250 ?_
            refine V_ialde (q := 252) C (3 + t) (nI_add 3 t) (by show _ < 48; omega) h3.2.2.1 rfl (by decide) (by decide) rfl dL_put_251 ?_
            refine V_iconst (q := 253) (v := 1) C rfl rfl dL_put_252 ?_
            refine V_icmp_ne (tgt := 261) C rfl (by decide) dL_put_253 (fun c253 => ?_) (fun c253 => ?_)
            · refine V_bipush (q := 263) (v := (nI 111)) C (by decide) rfl dL_put_261 ?_
              exact k263 111 (by decide) (by rw [hk.resolve_left c237 |>.resolve_left c253]; rfl)
            · refine V_bipush (q := 258) (v := (nI 103)) C (by decide) rfl dL_put_256 ?_
              refine V_goto (tgt := 263) C (by decide) dL_put_258 ?_
              exact k263 103 (by decide) (by rw [c253]; rfl)
          · refine V_bipush (q := 242) (v := (nI 116)) C (by decide) rfl dL_put_240 ?_
            refine V_goto (tgt := 263) C (by decide) dL_put_242 ?_
            exact k263 116 (by decide) (by rw [c237]; rfl)
        refine V_aload_4 (q := 173) C rfl dL_put_171 ?_
        refine V_bipush (q := 175) (v := 9) C (by decide) rfl dL_put_173 ?_
        refine V_iload_10 (q := 177) C rfl dL_put_175 ?_
        refine V_iadd (q := 178) C rfl dL_put_177 ?_
        refine V_iload_11 (q := 180) C rfl dL_put_178 ?_
        refine V_iconst (q := 181) (v := 1) C rfl rfl dL_put_180 ?_
        refine V_ishr (q := 182) C rfl dL_put_181 ?_
        refine V_iload_8 (q := 184) C rfl dL_put_182 ?_
        refine V_bipush (q := 186) (v := 6) C (by decide) rfl dL_put_184 ?_
        refine V_ishr (q := 187) C rfl dL_put_186 ?_
        refine V_iconst (q := 188) (v := 2) C rfl rfl dL_put_187 ?_
        refine V_cS2r (q := 191) C (c_L_some _ _ _ (by decide)) cw_L_some cs_L_some wm_L_15 ⟨by decide, by decide⟩ (Nat.le_of_ble_eq_true rfl) rfl dL_put_188 ?_
        refine V_if_ne (tgt := 199) C rfl (by decide) dL_put_191 (fun c191 => ?_) (fun c191 => ?_)
        · refine V_iconst (q := 200) (v := 3) C rfl rfl dL_put_199 ?_
          refine V_cS2r (q := 203) C (c_L_some _ _ _ (by decide)) cw_L_some cs_L_some wm_L_15 ⟨by decide, by decide⟩ (Nat.le_of_ble_eq_true rfl) rfl dL_put_200 ?_
          obtain ⟨l, hl, el⟩ := some_nI (x := y2 >>> (1 &&& 31)) 3 (show (3 : Int32) = nI 3 from rfl) (by decide) (by decide)
          rw [el]
          refine V_iast (q := 204) C (9 + t) (nI_add 9 t) (by show _ < 48; omega) rfl (by decide) (by decide) rfl dL_put_203 ?_
          exact k204 l (by omega)
        · refine V_bipush (q := 196) (v := 6) C (by decide) rfl dL_put_194 ?_
          refine V_goto (tgt := 200) C (by decide) dL_put_196 ?_
          refine V_cS2r (q := 203) C (c_L_some _ _ _ (by decide)) cw_L_some cs_L_some wm_L_15 ⟨by decide, by decide⟩ (Nat.le_of_ble_eq_true rfl) rfl dL_put_200 ?_
          obtain ⟨l, hl, el⟩ := some_nI (x := y2 >>> (1 &&& 31)) 6 (show (6 : Int32) = nI 6 from rfl) (by decide) (by decide)
          rw [el]
          refine V_iast (q := 204) C (9 + t) (nI_add 9 t) (by show _ < 48; omega) rfl (by decide) (by decide) rfl dL_put_203 ?_
          exact k204 l (by omega)
      refine V_aload_4 (q := 146) C rfl dL_put_144 ?_
      refine V_iconst (q := 147) (v := 3) C rfl rfl dL_put_146 ?_
      refine V_iload_10 (q := 149) C rfl dL_put_147 ?_
      refine V_iadd (q := 150) C rfl dL_put_149 ?_
      refine V_iload_11 (q := 152) C rfl dL_put_150 ?_
      refine V_iconst (q := 153) (v := 4) C rfl rfl dL_put_152 ?_
      refine V_cS2r (q := 156) C (c_L_some _ _ _ (by decide)) cw_L_some cs_L_some wm_L_15 ⟨by decide, by decide⟩ (Nat.le_of_ble_eq_true rfl) rfl dL_put_153 ?_
      refine V_iconst (q := 157) (v := 3) C rfl rfl dL_put_156 ?_
      refine V_icmp_ne (tgt := 164) C rfl (by decide) dL_put_157 (fun c157 => ?_) (fun c157 => ?_)
      · refine V_iload_11 (q := 166) C rfl dL_put_164 ?_
        refine V_iconst (q := 167) (v := 4) C rfl rfl dL_put_166 ?_
        refine V_cS2r (q := 170) C (c_L_some _ _ _ (by decide)) cw_L_some cs_L_some wm_L_15 ⟨by decide, by decide⟩ (Nat.le_of_ble_eq_true rfl) rfl dL_put_167 ?_
        refine V_iast (q := 171) C (3 + t) (nI_add 3 t) (by show _ < 48; omega) rfl (by decide) (by decide) rfl dL_put_170 ?_
        exact k171 _ (kd4 c157)
      · refine V_iconst (q := 161) (v := 0) C rfl rfl dL_put_160 ?_
        refine V_goto (tgt := 170) C (by decide) dL_put_161 ?_
        refine V_iast (q := 171) C (3 + t) (nI_add 3 t) (by show _ < 48; omega) rfl (by decide) (by decide) rfl dL_put_170 ?_
        exact k171 _ (Or.inl rfl)
    exact V_eq (rfl) (loopN (P := fun t => ∀ τ : ST, PH τ T P ∧ PT τ t → V X 113 [.ref (xad X 0), .ref (sB (xD X)), .int (nI 0), .int (nI 6), .ref (xad X 40), .ref (xad X 41), .ref (xad X 42), .ref (xad X 43), .int x, .int (nI (1 + 3 * t)), .int (nI t), .float 0] [] (τ)) (T) hx113 hs113 0 (Nat.zero_le _) τ ⟨hτ, fun z h => absurd h (Nat.not_lt_zero _)⟩)
  have hs48 : ∀ d : Nat, d < 30 → (∀ τ : ST, (τ 40 0 = nI T ∧ τ 40 1 = nI P ∧ τ 40 2 = 0 ∧ τ 40 21 = 0) ∧ (∀ z, z < (d + 1) → τ 41 z = 0 ∧ τ 42 z = -9 ∧ τ 43 z = 0) → V X 48 [.ref (xad X 0), .ref (sB (xD X)), .int (nI 0), .int (nI 6), .ref (xad X 40), .ref (xad X 41), .ref (xad X 42), .ref (xad X 43), .int x, .int (nI (d + 1)), .float 0, .float 0] [] (τ)) → ∀ τ : ST, (τ 40 0 = nI T ∧ τ 40 1 = nI P ∧ τ 40 2 = 0 ∧ τ 40 21 = 0) ∧ (∀ z, z < d → τ 41 z = 0 ∧ τ 42 z = -9 ∧ τ 43 z = 0) → V X 48 [.ref (xad X 0), .ref (sB (xD X)), .int (nI 0), .int (nI 6), .ref (xad X 40), .ref (xad X 41), .ref (xad X 42), .ref (xad X 43), .int x, .int (nI d), .float 0, .float 0] [] (τ) := by
    intro d hi48 ih48 τ hτ
    refine V_iload_9 (q := 50) C rfl dL_put_48 ?_
    refine V_bipush (q := 52) (v := 30) C (by decide) rfl dL_put_50 ?_
    refine V_icmp_ge_f (tgt := 80) C (nI_ge (b := 30) hi48 (by decide)) rfl (by decide) dL_put_52 ?_
    refine V_aload_5 (q := 57) C rfl dL_put_55 ?_
    refine V_iload_9 (q := 59) C rfl dL_put_57 ?_
    refine V_iconst (q := 60) (v := 0) C rfl rfl dL_put_59 ?_
    refine V_iast (q := 61) C d rfl (by show _ < 30; omega) rfl (by decide) (by decide) rfl dL_put_60 ?_
    refine V_aload_6 (q := 63) C rfl dL_put_61 ?_
    refine V_iload_9 (q := 65) C rfl dL_put_63 ?_
    refine V_bipush (q := 67) (v := (-9)) C (by decide) rfl dL_put_65 ?_
    refine V_iast (q := 68) C d rfl (by show _ < 30; omega) rfl (by decide) (by decide) rfl dL_put_67 ?_
    refine V_aload_7 (q := 70) C rfl dL_put_68 ?_
    refine V_iload_9 (q := 72) C rfl dL_put_70 ?_
    refine V_iconst (q := 73) (v := 0) C rfl rfl dL_put_72 ?_
    refine V_iast (q := 74) C d rfl (by show _ < 30; omega) rfl (by decide) (by decide) rfl dL_put_73 ?_
    refine V_iinc_9 (q := 77) (n := 1) C nI_inc hn9 rfl rfl dL_put_74 ?_
    refine V_goto (tgt := 48) C (by decide) dL_put_77 ?_
    refine V_gen (Q := fun τ => (τ 40 0 = nI T ∧ τ 40 1 = nI P ∧ τ 40 2 = 0 ∧ τ 40 21 = 0) ∧ (∀ z, z < (d + 1) → τ 41 z = 0 ∧ τ 42 z = -9 ∧ τ 43 z = 0)) ⟨hτ.1, fun z hz => ?_⟩ ih48
    show upd (τ 41) d 0 z = 0 ∧ upd (τ 42) d (-9) z = -9 ∧ upd (τ 43) d 0 z = 0
    by_cases e : z = d
    · subst e; rw [upd_at, upd_at, upd_at]; exact ⟨rfl, rfl, rfl⟩
    · rw [upd_ne e, upd_ne e, upd_ne e]; exact hτ.2 z (by omega)
  exact V_eq (rfl) (loopN (P := fun d => ∀ τ : ST, (τ 40 0 = nI T ∧ τ 40 1 = nI P ∧ τ 40 2 = 0 ∧ τ 40 21 = 0) ∧ (∀ z, z < d → τ 41 z = 0 ∧ τ 42 z = -9 ∧ τ 43 z = 0) → V X 48 [.ref (xad X 0), .ref (sB (xD X)), .int (nI 0), .int (nI 6), .ref (xad X 40), .ref (xad X 41), .ref (xad X 42), .ref (xad X 43), .int x, .int (nI d), .float 0, .float 0] [] (τ)) (30) hx48 hs48 0 (Nat.zero_le _) τ ⟨hτ, fun z h => absurd h (Nat.not_lt_zero _)⟩)
end
