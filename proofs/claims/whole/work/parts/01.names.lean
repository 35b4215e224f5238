/-! THE NAMES: classes, fields, methods, words of the tables (written by wip/whole/gen/names.py out of the Statement's tables and javap's listing) -/
def RX0 : String := "DoorbellDrive$Command"
def TX0 : u_T := fun k => match k with
  | 0 => ("DoorbellDrive$Command", "op", "I", false)
  | 1 => ("DoorbellDrive$Command", "id", "I", false)
  | 2 => ("DoorbellDrive$Command", "flag", "Z", false)
  | 3 => ("DoorbellDrive$Command", "n", "I", false)
  | 4 => ("DoorbellDrive$Command", "p", "J", false)
  | 5 => ("DoorbellDrive$Command", "q", "J", false)
  | _ => ("DoorbellDrive$Command", "x", "J", false)
def tyX0 : Nat → FieldType := fun k => match k with
  | 0 => .int
  | 1 => .int
  | 2 => .boolean
  | 3 => .int
  | 4 => .long
  | 5 => .long
  | _ => .long
theorem nmX0 : ∀ a, a < 7 → ∀ b, b < 7 → a ≠ b → (TX0 a).2.1 ≠ (TX0 b).2.1 := by decide +kernel
theorem tyX0_ok : ∀ k, k < 7 → parseFieldDescriptor (TX0 k).2.2.1 = some (tyX0 k) := by decide +kernel
def RX1 : String := "DoorbellDrive$Completion"
def TX1 : u_T := fun k => match k with
  | 0 => ("DoorbellDrive$Ring", "there", "Z", false)
  | 1 => ("DoorbellDrive$Ring", "base", "I", false)
  | 2 => ("DoorbellDrive$Ring", "size", "I", false)
  | 3 => ("DoorbellDrive$Ring", "head", "I", false)
  | 4 => ("DoorbellDrive$Ring", "tail", "I", false)
  | 5 => ("DoorbellDrive$Completion", "phase", "I", false)
  | _ => ("DoorbellDrive$Completion", "interrupting", "Z", false)
def tyX1 : Nat → FieldType := fun k => match k with
  | 0 => .boolean
  | 1 => .int
  | 2 => .int
  | 3 => .int
  | 4 => .int
  | 5 => .int
  | _ => .boolean
theorem nmX1 : ∀ a, a < 7 → ∀ b, b < 7 → a ≠ b → (TX1 a).2.1 ≠ (TX1 b).2.1 := by decide +kernel
theorem tyX1_ok : ∀ k, k < 7 → parseFieldDescriptor (TX1 k).2.2.1 = some (tyX1 k) := by decide +kernel
def RX2 : String := "DoorbellDrive$Data"
def TX2 : u_T := fun k => match k with
  | 0 => ("DoorbellDrive$Data", "pages", "[I", true)
  | 1 => ("DoorbellDrive$Data", "first", "I", false)
  | _ => ("DoorbellDrive$Data", "firstLongs", "I", false)
def tyX2 : Nat → FieldType := fun k => match k with
  | 0 => .array .int
  | 1 => .int
  | _ => .int
theorem nmX2 : ∀ a, a < 3 → ∀ b, b < 3 → a ≠ b → (TX2 a).2.1 ≠ (TX2 b).2.1 := by decide +kernel
theorem tyX2_ok : ∀ k, k < 3 → parseFieldDescriptor (TX2 k).2.2.1 = some (tyX2 k) := by decide +kernel
def RX3 : String := "DoorbellDrive$Disk"
def TX3 : u_T := fun k => match k with
  | 0 => ("DoorbellDrive$Disk", "medium", "[J", true)
  | 1 => ("DoorbellDrive$Disk", "cachedBlocks", "[I", true)
  | 2 => ("DoorbellDrive$Disk", "cache", "[J", true)
  | 3 => ("DoorbellDrive$Disk", "cached", "I", false)
  | _ => ("DoorbellDrive$Disk", "caching", "Z", false)
def tyX3 : Nat → FieldType := fun k => match k with
  | 0 => .array .long
  | 1 => .array .int
  | 2 => .array .long
  | 3 => .int
  | _ => .boolean
theorem nmX3 : ∀ a, a < 5 → ∀ b, b < 5 → a ≠ b → (TX3 a).2.1 ≠ (TX3 b).2.1 := by decide +kernel
theorem tyX3_ok : ∀ k, k < 5 → parseFieldDescriptor (TX3 k).2.2.1 = some (tyX3 k) := by decide +kernel
def RX4 : String := "DoorbellDrive$Memory"
def TX4 : u_T := fun k => match k with
  | _ => ("DoorbellDrive$Memory", "longs", "[J", true)
def tyX4 : Nat → FieldType := fun k => match k with
  | _ => .array .long
theorem nmX4 : ∀ a, a < 1 → ∀ b, b < 1 → a ≠ b → (TX4 a).2.1 ≠ (TX4 b).2.1 := by decide +kernel
theorem tyX4_ok : ∀ k, k < 1 → parseFieldDescriptor (TX4 k).2.2.1 = some (tyX4 k) := by decide +kernel
def RX5 : String := "DoorbellDrive$Ring"
def RX6 : String := "DoorbellDrive$Submission"
def TX6 : u_T := fun k => match k with
  | 0 => ("DoorbellDrive$Ring", "there", "Z", false)
  | 1 => ("DoorbellDrive$Ring", "base", "I", false)
  | 2 => ("DoorbellDrive$Ring", "size", "I", false)
  | 3 => ("DoorbellDrive$Ring", "head", "I", false)
  | 4 => ("DoorbellDrive$Ring", "tail", "I", false)
  | _ => ("DoorbellDrive$Submission", "answersTo", "I", false)
def tyX6 : Nat → FieldType := fun k => match k with
  | 0 => .boolean
  | 1 => .int
  | 2 => .int
  | 3 => .int
  | 4 => .int
  | _ => .int
theorem nmX6 : ∀ a, a < 6 → ∀ b, b < 6 → a ≠ b → (TX6 a).2.1 ≠ (TX6 b).2.1 := by decide +kernel
theorem tyX6_ok : ∀ k, k < 6 → parseFieldDescriptor (TX6 k).2.2.1 = some (tyX6 k) := by decide +kernel
def RX7 : String := "DoorbellDrive"
def TX7 : u_T := fun k => match k with
  | 0 => ("DoorbellDrive", "memory", "LDoorbellDrive$Memory;", true)
  | 1 => ("DoorbellDrive", "disk", "LDoorbellDrive$Disk;", true)
  | 2 => ("DoorbellDrive", "submissions", "[LDoorbellDrive$Submission;", true)
  | 3 => ("DoorbellDrive", "completions", "[LDoorbellDrive$Completion;", true)
  | 4 => ("DoorbellDrive", "command", "LDoorbellDrive$Command;", true)
  | 5 => ("DoorbellDrive", "data", "LDoorbellDrive$Data;", true)
  | 6 => ("DoorbellDrive", "row", "[J", true)
  | 7 => ("DoorbellDrive", "on", "Z", false)
  | 8 => ("DoorbellDrive", "interruptBits", "I", false)
  | 9 => ("DoorbellDrive", "turn", "I", false)
  | 10 => ("DoorbellDrive", "result", "I", false)
  | 11 => ("DoorbellDrive", "doneWell", "I", false)
  | 12 => ("DoorbellDrive", "doneOtherwise", "I", false)
  | 13 => ("DoorbellDrive", "blocksRead", "I", false)
  | _ => ("DoorbellDrive", "blocksStored", "I", false)
def tyX7 : Nat → FieldType := fun k => match k with
  | 0 => .object "DoorbellDrive$Memory"
  | 1 => .object "DoorbellDrive$Disk"
  | 2 => .array (.object "DoorbellDrive$Submission")
  | 3 => .array (.object "DoorbellDrive$Completion")
  | 4 => .object "DoorbellDrive$Command"
  | 5 => .object "DoorbellDrive$Data"
  | 6 => .array .long
  | 7 => .boolean
  | 8 => .int
  | 9 => .int
  | 10 => .int
  | 11 => .int
  | 12 => .int
  | 13 => .int
  | _ => .int
theorem nmX7 : ∀ a, a < 15 → ∀ b, b < 15 → a ≠ b → (TX7 a).2.1 ≠ (TX7 b).2.1 := by decide +kernel
theorem tyX7_ok : ∀ k, k < 15 → parseFieldDescriptor (TX7 k).2.2.1 = some (tyX7 k) := by decide +kernel
def RX8 : String := "DoorbellDriveModel"
def TX8 : u_T := fun k => match k with
  | 0 => ("DoorbellDriveModel", "memory", "[J", true)
  | 1 => ("DoorbellDriveModel", "medium", "[[J", true)
  | 2 => ("DoorbellDriveModel", "cached", "[[J", true)
  | 3 => ("DoorbellDriveModel", "cachedBlock", "[I", true)
  | 4 => ("DoorbellDriveModel", "cachedMany", "I", false)
  | 5 => ("DoorbellDriveModel", "turn", "I", false)
  | 6 => ("DoorbellDriveModel", "bits", "I", false)
  | 7 => ("DoorbellDriveModel", "caching", "Z", false)
  | 8 => ("DoorbellDriveModel", "on", "Z", false)
  | 9 => ("DoorbellDriveModel", "is", "[Z", true)
  | 10 => ("DoorbellDriveModel", "interrupts", "[Z", true)
  | 11 => ("DoorbellDriveModel", "base", "[I", true)
  | 12 => ("DoorbellDriveModel", "size", "[I", true)
  | 13 => ("DoorbellDriveModel", "head", "[I", true)
  | 14 => ("DoorbellDriveModel", "tail", "[I", true)
  | 15 => ("DoorbellDriveModel", "answers", "[I", true)
  | 16 => ("DoorbellDriveModel", "phase", "[I", true)
  | 17 => ("DoorbellDriveModel", "done", "J", false)
  | 18 => ("DoorbellDriveModel", "failed", "J", false)
  | 19 => ("DoorbellDriveModel", "blocksRead", "J", false)
  | 20 => ("DoorbellDriveModel", "blocksStored", "J", false)
  | 21 => ("DoorbellDriveModel", "p", "J", false)
  | 22 => ("DoorbellDriveModel", "q", "J", false)
  | 23 => ("DoorbellDriveModel", "x", "J", false)
  | 24 => ("DoorbellDriveModel", "result", "J", false)
  | 25 => ("DoorbellDriveModel", "n", "I", false)
  | 26 => ("DoorbellDriveModel", "op", "I", false)
  | 27 => ("DoorbellDriveModel", "flag", "Z", false)
  | 28 => ("DoorbellDriveModel", "spot", "[I", true)
  | _ => ("DoorbellDriveModel", "one", "[J", true)
def tyX8 : Nat → FieldType := fun k => match k with
  | 0 => .array .long
  | 1 => .array (.array .long)
  | 2 => .array (.array .long)
  | 3 => .array .int
  | 4 => .int
  | 5 => .int
  | 6 => .int
  | 7 => .boolean
  | 8 => .boolean
  | 9 => .array .boolean
  | 10 => .array .boolean
  | 11 => .array .int
  | 12 => .array .int
  | 13 => .array .int
  | 14 => .array .int
  | 15 => .array .int
  | 16 => .array .int
  | 17 => .long
  | 18 => .long
  | 19 => .long
  | 20 => .long
  | 21 => .long
  | 22 => .long
  | 23 => .long
  | 24 => .long
  | 25 => .int
  | 26 => .int
  | 27 => .boolean
  | 28 => .array .int
  | _ => .array .long
theorem nmX8 : ∀ a, a < 30 → ∀ b, b < 30 → a ≠ b → (TX8 a).2.1 ≠ (TX8 b).2.1 := by decide +kernel
theorem tyX8_ok : ∀ k, k < 30 → parseFieldDescriptor (TX8 k).2.2.1 = some (tyX8 k) := by decide +kernel
def RJ7 : String := "java/util/Arrays"
def RJ9 : String := "java/lang/Math"
def RJ10 : String := "java/lang/System"
def RL : String := "DoorbellDriveLaw"
abbrev cX7_init : ByteArray := prog_1_method_1_code
def yX7_init : MethodName := ⟨RX7, "<init>", "()V"⟩
abbrev cX4_init : ByteArray := prog_6_method_1_code
def yX4_init : MethodName := ⟨RX4, "<init>", "()V"⟩
abbrev cX3_init : ByteArray := prog_5_method_1_code
def yX3_init : MethodName := ⟨RX3, "<init>", "()V"⟩
abbrev cX6_init : ByteArray := prog_8_method_1_code
def yX6_init : MethodName := ⟨RX6, "<init>", "()V"⟩
abbrev cX5_init : ByteArray := prog_7_method_1_code
def yX5_init : MethodName := ⟨RX5, "<init>", "()V"⟩
abbrev cX1_init : ByteArray := prog_3_method_1_code
def yX1_init : MethodName := ⟨RX1, "<init>", "()V"⟩
abbrev cX0_init : ByteArray := prog_2_method_1_code
def yX0_init : MethodName := ⟨RX0, "<init>", "()V"⟩
abbrev cX2_init : ByteArray := prog_4_method_1_code
def yX2_init : MethodName := ⟨RX2, "<init>", "()V"⟩
abbrev cX7_peek : ByteArray := prog_1_method_2_code
def yX7_peek : MethodName := ⟨RX7, "peek", "(I)J"⟩
abbrev cX4_at : ByteArray := prog_6_method_5_code
def yX4_at : MethodName := ⟨RX4, "at", "(I)J"⟩
abbrev cX4_holds : ByteArray := prog_6_method_2_code
def yX4_holds : MethodName := ⟨RX4, "holds", "(J)Z"⟩
abbrev cX7_poke : ByteArray := prog_1_method_3_code
def yX7_poke : MethodName := ⟨RX7, "poke", "(IJ)I"⟩
abbrev cX4_put : ByteArray := prog_6_method_6_code
def yX4_put : MethodName := ⟨RX4, "put", "(IJ)V"⟩
abbrev cX7_begin : ByteArray := prog_1_method_4_code
def yX7_begin : MethodName := ⟨RX7, "begin", "(IIII)I"⟩
abbrev cX6_fits : ByteArray := prog_8_method_2_code
def yX6_fits : MethodName := ⟨RX6, "fits", "(JJ)Z"⟩
abbrev cX5_fitsInMemory : ByteArray := prog_7_method_2_code
def yX5_fitsInMemory : MethodName := ⟨RX5, "fitsInMemory", "(JJI)Z"⟩
abbrev cX1_fits : ByteArray := prog_3_method_2_code
def yX1_fits : MethodName := ⟨RX1, "fits", "(JJ)Z"⟩
abbrev cX1_make : ByteArray := prog_3_method_3_code
def yX1_make : MethodName := ⟨RX1, "make", "(IIZ)V"⟩
abbrev cX5_lay : ByteArray := prog_7_method_3_code
def yX5_lay : MethodName := ⟨RX5, "lay", "(II)V"⟩
abbrev cX6_make : ByteArray := prog_8_method_3_code
def yX6_make : MethodName := ⟨RX6, "make", "(III)V"⟩
abbrev cX7_stop : ByteArray := prog_1_method_5_code
def yX7_stop : MethodName := ⟨RX7, "stop", "(Z)I"⟩
abbrev cX3_cachedCount : ByteArray := prog_5_method_4_code
def yX3_cachedCount : MethodName := ⟨RX3, "cachedCount", "()I"⟩
abbrev cX3_lose : ByteArray := prog_5_method_12_code
def yX3_lose : MethodName := ⟨RX3, "lose", "()V"⟩
abbrev cX3_flush : ByteArray := prog_5_method_11_code
def yX3_flush : MethodName := ⟨RX3, "flush", "()V"⟩
abbrev cX5_drop : ByteArray := prog_7_method_4_code
def yX5_drop : MethodName := ⟨RX5, "drop", "()V"⟩
abbrev cX7_ring : ByteArray := prog_1_method_6_code
def yX7_ring : MethodName := ⟨RX7, "ring", "(II)I"⟩
abbrev cX7_hasSubmission : ByteArray := prog_1_method_13_code
def yX7_hasSubmission : MethodName := ⟨RX7, "hasSubmission", "(J)Z"⟩
abbrev cX5_hasPlace : ByteArray := prog_7_method_5_code
def yX5_hasPlace : MethodName := ⟨RX5, "hasPlace", "(I)Z"⟩
abbrev cX5_held : ByteArray := prog_7_method_8_code
def yX5_held : MethodName := ⟨RX5, "held", "()I"⟩
abbrev cX5_fromHeadTo : ByteArray := prog_7_method_7_code
def yX5_fromHeadTo : MethodName := ⟨RX5, "fromHeadTo", "(I)I"⟩
abbrev cX7_seen : ByteArray := prog_1_method_7_code
def yX7_seen : MethodName := ⟨RX7, "seen", "(II)I"⟩
abbrev cX7_hasCompletion : ByteArray := prog_1_method_14_code
def yX7_hasCompletion : MethodName := ⟨RX7, "hasCompletion", "(J)Z"⟩
abbrev cX1_reaches : ByteArray := prog_3_method_5_code
def yX1_reaches : MethodName := ⟨RX1, "reaches", "(I)Z"⟩
abbrev cX7_run : ByteArray := prog_1_method_8_code
def yX7_run : MethodName := ⟨RX7, "run", "(I)I"⟩
abbrev cX7_nextReady : ByteArray := prog_1_method_17_code
def yX7_nextReady : MethodName := ⟨RX7, "nextReady", "()I"⟩
abbrev cX7_isReady : ByteArray := prog_1_method_18_code
def yX7_isReady : MethodName := ⟨RX7, "isReady", "(LDoorbellDrive$Submission;)Z"⟩
abbrev cX1_isFull : ByteArray := prog_3_method_4_code
def yX1_isFull : MethodName := ⟨RX1, "isFull", "()Z"⟩
abbrev cX5_behind : ByteArray := prog_7_method_6_code
def yX5_behind : MethodName := ⟨RX5, "behind", "(I)I"⟩
abbrev cX7_doCommandOf : ByteArray := prog_1_method_19_code
def yX7_doCommandOf : MethodName := ⟨RX7, "doCommandOf", "(I)V"⟩
abbrev cX6_addressOfHead : ByteArray := prog_8_method_4_code
def yX6_addressOfHead : MethodName := ⟨RX6, "addressOfHead", "()I"⟩
abbrev cX0_take : ByteArray := prog_2_method_2_code
def yX0_take : MethodName := ⟨RX0, "take", "(LDoorbellDrive$Memory;I)V"⟩
abbrev cX7_doAdminOp : ByteArray := prog_1_method_21_code
def yX7_doAdminOp : MethodName := ⟨RX7, "doAdminOp", "()I"⟩
abbrev cX7_makeCompletion : ByteArray := prog_1_method_32_code
def yX7_makeCompletion : MethodName := ⟨RX7, "makeCompletion", "()I"⟩
abbrev cX7_isBesideAdmin : ByteArray := prog_1_method_31_code
def yX7_isBesideAdmin : MethodName := ⟨RX7, "isBesideAdmin", "(J)Z"⟩
abbrev cX7_makeSubmission : ByteArray := prog_1_method_33_code
def yX7_makeSubmission : MethodName := ⟨RX7, "makeSubmission", "()I"⟩
abbrev cX7_dropCompletion : ByteArray := prog_1_method_34_code
def yX7_dropCompletion : MethodName := ⟨RX7, "dropCompletion", "()I"⟩
abbrev cX7_isAnsweredTo : ByteArray := prog_1_method_35_code
def yX7_isAnsweredTo : MethodName := ⟨RX7, "isAnsweredTo", "(J)Z"⟩
abbrev cX7_dropSubmission : ByteArray := prog_1_method_36_code
def yX7_dropSubmission : MethodName := ⟨RX7, "dropSubmission", "()I"⟩
abbrev cX7_switchCaching : ByteArray := prog_1_method_37_code
def yX7_switchCaching : MethodName := ⟨RX7, "switchCaching", "()I"⟩
abbrev cX3_isCaching : ByteArray := prog_5_method_5_code
def yX3_isCaching : MethodName := ⟨RX3, "isCaching", "()Z"⟩
abbrev cX3_setCaching : ByteArray := prog_5_method_6_code
def yX3_setCaching : MethodName := ⟨RX3, "setCaching", "(Z)V"⟩
abbrev cX7_report : ByteArray := prog_1_method_38_code
def yX7_report : MethodName := ⟨RX7, "report", "()I"⟩
abbrev cX2_layByPages : ByteArray := prog_4_method_2_code
def yX2_layByPages : MethodName := ⟨RX2, "layByPages", "(LDoorbellDrive$Memory;LDoorbellDrive$Command;)Z"⟩
abbrev cX4_placeInPage : ByteArray := prog_6_method_4_code
def yX4_placeInPage : MethodName := ⟨RX4, "placeInPage", "(I)I"⟩
abbrev cJ9_min : ByteArray := prog_11_method_69_code
def yJ9_min : MethodName := ⟨RJ9, "min", "(II)I"⟩
abbrev cX2_addPage : ByteArray := prog_4_method_4_code
def yX2_addPage : MethodName := ⟨RX2, "addPage", "(IJ)Z"⟩
abbrev cX4_holdsPage : ByteArray := prog_6_method_3_code
def yX4_holdsPage : MethodName := ⟨RX4, "holdsPage", "(J)Z"⟩
abbrev cX2_addList : ByteArray := prog_4_method_3_code
def yX2_addList : MethodName := ⟨RX2, "addList", "(LDoorbellDrive$Memory;JI)Z"⟩
abbrev cJ7_fill_J : ByteArray := prog_13_method_101_code
def yJ7_fill_J : MethodName := ⟨RJ7, "fill", "([JJ)V"⟩
abbrev cX7_rowToData : ByteArray := prog_1_method_30_code
def yX7_rowToData : MethodName := ⟨RX7, "rowToData", "(I)V"⟩
abbrev cX2_address : ByteArray := prog_4_method_7_code
def yX2_address : MethodName := ⟨RX2, "address", "(I)I"⟩
abbrev cX7_tellCached : ByteArray := prog_1_method_39_code
def yX7_tellCached : MethodName := ⟨RX7, "tellCached", "()I"⟩
abbrev cX7_doBlockOp : ByteArray := prog_1_method_22_code
def yX7_doBlockOp : MethodName := ⟨RX7, "doBlockOp", "()I"⟩
abbrev cX7_wrongOfBlockOp : ByteArray := prog_1_method_23_code
def yX7_wrongOfBlockOp : MethodName := ⟨RX7, "wrongOfBlockOp", "()I"⟩
abbrev cX3_isBlock : ByteArray := prog_5_method_2_code
def yX3_isBlock : MethodName := ⟨RX3, "isBlock", "(J)Z"⟩
abbrev cX2_fitsStraight : ByteArray := prog_4_method_5_code
def yX2_fitsStraight : MethodName := ⟨RX2, "fitsStraight", "(JI)Z"⟩
abbrev cX7_storeFromData : ByteArray := prog_1_method_27_code
def yX7_storeFromData : MethodName := ⟨RX7, "storeFromData", "()V"⟩
abbrev cX3_store : ByteArray := prog_5_method_10_code
def yX3_store : MethodName := ⟨RX3, "store", "(I[J)V"⟩
abbrev cX3_placeOf : ByteArray := prog_5_method_13_code
def yX3_placeOf : MethodName := ⟨RX3, "placeOf", "(I)I"⟩
abbrev cX3_placeForNew : ByteArray := prog_5_method_14_code
def yX3_placeForNew : MethodName := ⟨RX3, "placeForNew", "(I)I"⟩
abbrev cX7_endStoring : ByteArray := prog_1_method_28_code
def yX7_endStoring : MethodName := ⟨RX7, "endStoring", "()V"⟩
abbrev cX7_readToData : ByteArray := prog_1_method_25_code
def yX7_readToData : MethodName := ⟨RX7, "readToData", "()V"⟩
abbrev cX3_load : ByteArray := prog_5_method_9_code
def yX3_load : MethodName := ⟨RX3, "load", "(I[J)V"⟩
abbrev cX7_sameAsData : ByteArray := prog_1_method_29_code
def yX7_sameAsData : MethodName := ⟨RX7, "sameAsData", "()Z"⟩
abbrev cX7_storeZeros : ByteArray := prog_1_method_26_code
def yX7_storeZeros : MethodName := ⟨RX7, "storeZeros", "()V"⟩
abbrev cX7_compareAndWrite : ByteArray := prog_1_method_24_code
def yX7_compareAndWrite : MethodName := ⟨RX7, "compareAndWrite", "()I"⟩
abbrev cX2_layStraight : ByteArray := prog_4_method_6_code
def yX2_layStraight : MethodName := ⟨RX2, "layStraight", "(II)V"⟩
abbrev cX7_answer : ByteArray := prog_1_method_20_code
def yX7_answer : MethodName := ⟨RX7, "answer", "(II)V"⟩
abbrev cX1_addressOfTail : ByteArray := prog_3_method_6_code
def yX1_addressOfTail : MethodName := ⟨RX1, "addressOfTail", "()I"⟩
abbrev cX1_advance : ByteArray := prog_3_method_7_code
def yX1_advance : MethodName := ⟨RX1, "advance", "()V"⟩
abbrev cX7_interrupts : ByteArray := prog_1_method_9_code
def yX7_interrupts : MethodName := ⟨RX7, "interrupts", "(I)I"⟩
abbrev cX7_block : ByteArray := prog_1_method_10_code
def yX7_block : MethodName := ⟨RX7, "block", "(IIZ)J"⟩
abbrev cX3_onMedium : ByteArray := prog_5_method_7_code
def yX3_onMedium : MethodName := ⟨RX3, "onMedium", "(II)J"⟩
abbrev cX3_isLong : ByteArray := prog_5_method_3_code
def yX3_isLong : MethodName := ⟨RX3, "isLong", "(II)Z"⟩
abbrev cX3_asRead : ByteArray := prog_5_method_8_code
def yX3_asRead : MethodName := ⟨RX3, "asRead", "(II)J"⟩
abbrev cX7_queue : ByteArray := prog_1_method_11_code
def yX7_queue : MethodName := ⟨RX7, "queue", "(II)I"⟩
abbrev cX7_tellOfSubmission : ByteArray := prog_1_method_15_code
def yX7_tellOfSubmission : MethodName := ⟨RX7, "tellOfSubmission", "(LDoorbellDrive$Submission;I)I"⟩
abbrev cX7_tellOfCompletion : ByteArray := prog_1_method_16_code
def yX7_tellOfCompletion : MethodName := ⟨RX7, "tellOfCompletion", "(LDoorbellDrive$Completion;I)I"⟩
abbrev cX7_count : ByteArray := prog_1_method_12_code
def yX7_count : MethodName := ⟨RX7, "count", "(I)I"⟩
abbrev cX8_init : ByteArray := prog_10_method_2_code
def yX8_init : MethodName := ⟨RX8, "<init>", "()V"⟩
abbrev cX8_peek : ByteArray := prog_10_method_3_code
def yX8_peek : MethodName := ⟨RX8, "peek", "(I)J"⟩
abbrev cX8_in : ByteArray := prog_10_method_1_code
def yX8_in : MethodName := ⟨RX8, "in", "(JJJ)Z"⟩
abbrev cX8_poke : ByteArray := prog_10_method_4_code
def yX8_poke : MethodName := ⟨RX8, "poke", "(IJ)I"⟩
abbrev cX8_begin : ByteArray := prog_10_method_12_code
def yX8_begin : MethodName := ⟨RX8, "begin", "(IIII)I"⟩
abbrev cX8_fits : ByteArray := prog_10_method_10_code
def yX8_fits : MethodName := ⟨RX8, "fits", "(JJI)Z"⟩
abbrev cJ7_fill_Z : ByteArray := prog_13_method_111_code
def yJ7_fill_Z : MethodName := ⟨RJ7, "fill", "([ZZ)V"⟩
abbrev cX8_make : ByteArray := prog_10_method_11_code
def yX8_make : MethodName := ⟨RX8, "make", "(IJJ)V"⟩
abbrev cX8_stop : ByteArray := prog_10_method_13_code
def yX8_stop : MethodName := ⟨RX8, "stop", "(Z)I"⟩
abbrev cX8_flush : ByteArray := prog_10_method_8_code
def yX8_flush : MethodName := ⟨RX8, "flush", "()V"⟩
abbrev cX8_giveUp : ByteArray := prog_10_method_7_code
def yX8_giveUp : MethodName := ⟨RX8, "giveUp", "()V"⟩
abbrev cX8_ring : ByteArray := prog_10_method_15_code
def yX8_ring : MethodName := ⟨RX8, "ring", "(II)I"⟩
abbrev cX8_many : ByteArray := prog_10_method_14_code
def yX8_many : MethodName := ⟨RX8, "many", "(I)I"⟩
abbrev cX8_seen : ByteArray := prog_10_method_16_code
def yX8_seen : MethodName := ⟨RX8, "seen", "(II)I"⟩
abbrev cX8_run : ByteArray := prog_10_method_18_code
def yX8_run : MethodName := ⟨RX8, "run", "(I)I"⟩
abbrev cX8_isReady : ByteArray := prog_10_method_17_code
def yX8_isReady : MethodName := ⟨RX8, "isReady", "(I)Z"⟩
abbrev cX8_command : ByteArray := prog_10_method_19_code
def yX8_command : MethodName := ⟨RX8, "command", "(I)V"⟩
abbrev cX8_admin : ByteArray := prog_10_method_20_code
def yX8_admin : MethodName := ⟨RX8, "admin", "()I"⟩
abbrev cX8_place : ByteArray := prog_10_method_22_code
def yX8_place : MethodName := ⟨RX8, "place", "()Z"⟩
abbrev cX8_isPage : ByteArray := prog_10_method_21_code
def yX8_isPage : MethodName := ⟨RX8, "isPage", "(J)Z"⟩
abbrev cX8_blocks : ByteArray := prog_10_method_23_code
def yX8_blocks : MethodName := ⟨RX8, "blocks", "()I"⟩
abbrev cX8_blockOf : ByteArray := prog_10_method_6_code
def yX8_blockOf : MethodName := ⟨RX8, "blockOf", "(I)[J"⟩
abbrev cX8_find : ByteArray := prog_10_method_5_code
def yX8_find : MethodName := ⟨RX8, "find", "(I)I"⟩
abbrev cX8_store : ByteArray := prog_10_method_9_code
def yX8_store : MethodName := ⟨RX8, "store", "(I[J)V"⟩
abbrev cX8_interrupts : ByteArray := prog_10_method_24_code
def yX8_interrupts : MethodName := ⟨RX8, "interrupts", "(I)I"⟩
abbrev cX8_block : ByteArray := prog_10_method_25_code
def yX8_block : MethodName := ⟨RX8, "block", "(IIZ)J"⟩
abbrev cX8_queue : ByteArray := prog_10_method_26_code
def yX8_queue : MethodName := ⟨RX8, "queue", "(II)I"⟩
abbrev cX8_count : ByteArray := prog_10_method_27_code
def yX8_count : MethodName := ⟨RX8, "count", "(I)I"⟩
abbrev cL_law : ByteArray := code
abbrev vwCl : List vw_C := [(RX0, TX0, 7), (RX1, TX1, 7), (RX2, TX2, 3), (RX3, TX3, 5), (RX4, TX4, 1), (RX6, TX6, 6), (RX7, TX7, 15), (RX8, TX8, 30)]
/-- the words of the tables that a callee takes over -/
def BW : List Cond := lw_tbl.filter goodWord
/-- a method's words: its code, and all of the tables' -/
def wB (y : MethodName) (cc : ByteArray) (maxL : Nat) (ret : Option FieldType) : List Cond := Cond.code y cc maxL ret :: BW
theorem bw0 {w : Cond} {i : Nat} (h : (k2_sels lw_privs)[i]? = some w) (hg : goodWord w = true) : w ∈ BW := List.mem_filter.mpr ⟨List.mem_append_left _ (List.mem_of_getElem? h), hg⟩
theorem bw1 {w : Cond} {i : Nat} (h : tables_1_1[i]? = some w) (hg : goodWord w = true) : w ∈ BW := List.mem_filter.mpr ⟨List.mem_append_right _ (List.mem_append_left _ (List.mem_of_getElem? h)), hg⟩
theorem bw2 {w : Cond} {i : Nat} (h : tables_1_2[i]? = some w) (hg : goodWord w = true) : w ∈ BW := List.mem_filter.mpr ⟨List.mem_append_right _ (List.mem_append_right _ (List.mem_append_left _ (List.mem_of_getElem? h))), hg⟩
theorem bw3 {w : Cond} {i : Nat} (h : tables_1_3[i]? = some w) (hg : goodWord w = true) : w ∈ BW := List.mem_filter.mpr ⟨List.mem_append_right _ (List.mem_append_right _ (List.mem_append_right _ (List.mem_append_left _ (List.mem_of_getElem? h)))), hg⟩
theorem bw4 {w : Cond} {i : Nat} (h : tables_1_4[i]? = some w) (hg : goodWord w = true) : w ∈ BW := List.mem_filter.mpr ⟨List.mem_append_right _ (List.mem_append_right _ (List.mem_append_right _ (List.mem_append_right _ (List.mem_of_getElem? h)))), hg⟩
theorem bwG {w : Cond} (h : w ∈ BW) : (w.onTables && w.keeps) = true ∨ ∃ ty, w = .arrayClass ty := good_of_word (List.mem_filter.mp h).2
theorem gdB {y : MethodName} {cc : ByteArray} {maxL : Nat} {ret : Option FieldType} (h : Cond.code y cc maxL ret ∈ BW) : GoodIn BW (wB y cc maxL ret) := fun w hw => by
  rcases List.mem_cons.mp hw with e | h2
  · subst e; exact ⟨h, bwG h⟩
  · exact ⟨h2, bwG h2⟩
theorem gdL {l b : List Cond} (hl : ∀ w ∈ l, w ∈ BW) (hb : GoodIn BW b) : GoodIn BW (l ++ b) := fun w hw => by
  rcases List.mem_append.mp hw with h | h
  · exact ⟨hl w h, bwG (hl w h)⟩
  · exact hb w h
theorem gdV {own C : String} {idx maxL : Nat} {y : MethodName} {cc : ByteArray} {ret : Option FieldType} (h1 : Cond.methodLink own idx y ∈ BW) (h2 : Cond.instanceMethod y ∈ BW) (h3 : Cond.selects C y y ∈ BW) (h4 : Cond.initialized C ∈ BW) (h5 : Cond.code y cc maxL ret ∈ BW) : GoodIn BW (wsV own idx C y (wB y cc maxL ret)) :=
  gdL (fun w h => by rcases List.mem_cons.mp h with e | h; · rw [e]; exact h1
                     rcases List.mem_cons.mp h with e | h; · rw [e]; exact h2
                     rcases List.mem_cons.mp h with e | h; · rw [e]; exact h3
                     rcases List.mem_cons.mp h with e | h; · rw [e]; exact h4
                     cases h) (gdB h5)
theorem gdS {own : String} {idx maxL : Nat} {y : MethodName} {cc : ByteArray} {ret : Option FieldType} (h1 : Cond.methodLink own idx y ∈ BW) (h2 : Cond.static y ∈ BW) (h3 : Cond.initialized y.cls ∈ BW) (h5 : Cond.code y cc maxL ret ∈ BW) : GoodIn BW (va_wsS own idx y (wB y cc maxL ret)) :=
  gdL (fun w h => by rcases List.mem_cons.mp h with e | h; · rw [e]; exact h1
                     rcases List.mem_cons.mp h with e | h; · rw [e]; exact h2
                     rcases List.mem_cons.mp h with e | h; · rw [e]; exact h3
                     cases h) (gdB h5)
theorem gdU {own C owner : String} {idx maxL : Nat} {x y : MethodName} {cc : ByteArray} {ret : Option FieldType} (h1 : Cond.methodLink own idx x ∈ BW) (h2 : Cond.sameMethod x.cls owner x.name x.desc ∈ BW) (h3 : Cond.selects C x y ∈ BW) (h4 : Cond.instanceMethod y ∈ BW) (h6 : Cond.initialized y.cls ∈ BW) (h5 : Cond.code y cc maxL ret ∈ BW) : GoodIn BW (va_wsU own idx C owner x y (wB y cc maxL ret)) :=
  gdL (fun w h => by rcases List.mem_cons.mp h with e | h; · rw [e]; exact h1
                     rcases List.mem_cons.mp h with e | h; · rw [e]; exact h2
                     rcases List.mem_cons.mp h with e | h; · rw [e]; exact h3
                     rcases List.mem_cons.mp h with e | h; · rw [e]; exact h4
                     rcases List.mem_cons.mp h with e | h; · rw [e]; exact h6
                     cases h) (gdB h5)

