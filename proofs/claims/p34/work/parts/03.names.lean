def RX0 : String := "RingThreads$Line"
def TX0 : u_T := fun k => match k with
  | 0 => ("RingThreads$Line", "length", "I", true)
  | _ => ("RingThreads$Line", "squares", "[I", true)
def tyX0 : Nat → FieldType := fun k => match k with
  | 0 => .int
  | _ => .array .int
abbrev wsX00 : List Cond := u_ws RX0 TX0 2
theorem nmX0 : ∀ a, a < 2 → ∀ b, b < 2 → a ≠ b → (TX0 a).2.1 ≠ (TX0 b).2.1 := by decide +kernel
theorem tyX0_ok : ∀ k, k < 2 → parseFieldDescriptor (TX0 k).2.2.1 = some (tyX0 k) := by decide +kernel
abbrev cX0_init : ByteArray := prog_2_method_1_code
def yX0_init : MethodName := ⟨RX0, "<init>", "(I[I)V"⟩
abbrev cX0_xOf : ByteArray := prog_2_method_2_code
def yX0_xOf : MethodName := ⟨RX0, "xOf", "(I)I"⟩
abbrev cX0_yOf : ByteArray := prog_2_method_3_code
def yX0_yOf : MethodName := ⟨RX0, "yOf", "(I)I"⟩
abbrev cX0_pairOf : ByteArray := prog_2_method_4_code
def yX0_pairOf : MethodName := ⟨RX0, "pairOf", "(II)I"⟩
abbrev cX0_trace : ByteArray := prog_2_method_5_code
def yX0_trace : MethodName := ⟨RX0, "trace", "(II)LRingThreads$Line;"⟩
abbrev cX0_rootOf : ByteArray := prog_2_method_6_code
def yX0_rootOf : MethodName := ⟨RX0, "rootOf", "(I)I"⟩
def RX1 : String := "RingThreads$Ring"
def TX1 : u_T := fun k => match k with
  | 0 => ("RingThreads$Ring", "lines", "[LRingThreads$Line;", true)
  | 1 => ("RingThreads$Ring", "nails", "I", false)
  | 2 => ("RingThreads$Ring", "step", "I", false)
  | 3 => ("RingThreads$Ring", "at", "I", false)
  | 4 => ("RingThreads$Ring", "now", "I", false)
  | 5 => ("RingThreads$Ring", "woundSoFar", "I", false)
  | 6 => ("RingThreads$Ring", "refusedSoFar", "I", false)
  | 7 => ("RingThreads$Ring", "knots", "I", false)
  | 8 => ("RingThreads$Ring", "lying", "I", false)
  | 9 => ("RingThreads$Ring", "shades", "[I", true)
  | 10 => ("RingThreads$Ring", "left", "[I", true)
  | 11 => ("RingThreads$Ring", "settings", "[I", true)
  | 12 => ("RingThreads$Ring", "from", "[I", true)
  | 13 => ("RingThreads$Ring", "to", "[I", true)
  | 14 => ("RingThreads$Ring", "spools", "[I", true)
  | 15 => ("RingThreads$Ring", "greys", "[I", true)
  | 16 => ("RingThreads$Ring", "dark", "[I", true)
  | 17 => ("RingThreads$Ring", "crossings", "[I", true)
  | _ => ("RingThreads$Ring", "times", "[I", true)
def tyX1 : Nat → FieldType := fun k => match k with
  | 0 => .array (.object "RingThreads$Line")
  | 1 => .int
  | 2 => .int
  | 3 => .int
  | 4 => .int
  | 5 => .int
  | 6 => .int
  | 7 => .int
  | 8 => .int
  | 9 => .array .int
  | 10 => .array .int
  | 11 => .array .int
  | 12 => .array .int
  | 13 => .array .int
  | 14 => .array .int
  | 15 => .array .int
  | 16 => .array .int
  | 17 => .array .int
  | _ => .array .int
abbrev wsX10 : List Cond := u_ws RX1 TX1 19
theorem nmX1 : ∀ a, a < 19 → ∀ b, b < 19 → a ≠ b → (TX1 a).2.1 ≠ (TX1 b).2.1 := by decide +kernel
theorem tyX1_ok : ∀ k, k < 19 → parseFieldDescriptor (TX1 k).2.2.1 = some (tyX1 k) := by decide +kernel
abbrev cX1_init : ByteArray := prog_3_method_1_code
def yX1_init : MethodName := ⟨RX1, "<init>", "([LRingThreads$Line;)V"⟩
abbrev cX1_copyFrom : ByteArray := prog_3_method_2_code
def yX1_copyFrom : MethodName := ⟨RX1, "copyFrom", "(LRingThreads$Ring;)V"⟩
abbrev cX1_lineBetween : ByteArray := prog_3_method_3_code
def yX1_lineBetween : MethodName := ⟨RX1, "lineBetween", "(II)LRingThreads$Line;"⟩
abbrev cX1_timesLying : ByteArray := prog_3_method_4_code
def yX1_timesLying : MethodName := ⟨RX1, "timesLying", "(II)I"⟩
abbrev cX1_refusal : ByteArray := prog_3_method_5_code
def yX1_refusal : MethodName := ⟨RX1, "refusal", "(I)I"⟩
abbrev cX1_lackOf : ByteArray := prog_3_method_6_code
def yX1_lackOf : MethodName := ⟨RX1, "lackOf", "(I)I"⟩
abbrev cX1_misfit : ByteArray := prog_3_method_7_code
def yX1_misfit : MethodName := ⟨RX1, "misfit", "()I"⟩
abbrev cX1_squaresOfSign : ByteArray := prog_3_method_8_code
def yX1_squaresOfSign : MethodName := ⟨RX1, "squaresOfSign", "(I)I"⟩
abbrev cX1_gainTo : ByteArray := prog_3_method_9_code
def yX1_gainTo : MethodName := ⟨RX1, "gainTo", "(I)I"⟩
abbrev cX1_relief : ByteArray := prog_3_method_10_code
def yX1_relief : MethodName := ⟨RX1, "relief", "(II)I"⟩
abbrev cX1_misfitByGains : ByteArray := prog_3_method_11_code
def yX1_misfitByGains : MethodName := ⟨RX1, "misfitByGains", "([I)I"⟩
abbrev cX1_bestNail : ByteArray := prog_3_method_12_code
def yX1_bestNail : MethodName := ⟨RX1, "bestNail", "()I"⟩
abbrev cX1_lay : ByteArray := prog_3_method_14_code
def yX1_lay : MethodName := ⟨RX1, "lay", "(I)V"⟩
abbrev cX1_takeOff : ByteArray := prog_3_method_15_code
def yX1_takeOff : MethodName := ⟨RX1, "takeOff", "()V"⟩
abbrev cX1_takeAllOff : ByteArray := prog_3_method_16_code
def yX1_takeAllOff : MethodName := ⟨RX1, "takeAllOff", "()V"⟩
abbrev cX1_putThread : ByteArray := prog_3_method_17_code
def yX1_putThread : MethodName := ⟨RX1, "putThread", "(II)V"⟩
abbrev cX1_endsAt : ByteArray := prog_3_method_18_code
def yX1_endsAt : MethodName := ⟨RX1, "endsAt", "(I)I"⟩
abbrev cX1_chordsOf : ByteArray := prog_3_method_19_code
def yX1_chordsOf : MethodName := ⟨RX1, "chordsOf", "(I)I"⟩
abbrev cX1_threadLying : ByteArray := prog_3_method_20_code
def yX1_threadLying : MethodName := ⟨RX1, "threadLying", "(I)I"⟩
def RX2 : String := "RingThreads$Text"
def TX2 : u_T := fun k => match k with
  | 0 => ("RingThreads$Text", "codes", "[C", true)
  | _ => ("RingThreads$Text", "length", "I", false)
def tyX2 : Nat → FieldType := fun k => match k with
  | 0 => .array .char
  | _ => .int
abbrev wsX20 : List Cond := u_ws RX2 TX2 2
theorem nmX2 : ∀ a, a < 2 → ∀ b, b < 2 → a ≠ b → (TX2 a).2.1 ≠ (TX2 b).2.1 := by decide +kernel
theorem tyX2_ok : ∀ k, k < 2 → parseFieldDescriptor (TX2 k).2.2.1 = some (tyX2 k) := by decide +kernel
abbrev cX2_init : ByteArray := prog_4_method_1_code
def yX2_init : MethodName := ⟨RX2, "<init>", "()V"⟩
def RX3 : String := "RingThreads"
def TX3 : u_T := fun k => match k with
  | 0 => ("RingThreads", "ring", "LRingThreads$Ring;", true)
  | 1 => ("RingThreads", "trial", "LRingThreads$Ring;", true)
  | 2 => ("RingThreads", "scratch", "[I", true)
  | 3 => ("RingThreads", "text", "LRingThreads$Text;", true)
  | 4 => ("RingThreads", "slots", "[LRingThreads$Ring;", true)
  | 5 => ("RingThreads", "saved", "[LRingThreads$Ring;", true)
  | _ => ("RingThreads", "savedMany", "I", false)
def tyX3 : Nat → FieldType := fun k => match k with
  | 0 => .object "RingThreads$Ring"
  | 1 => .object "RingThreads$Ring"
  | 2 => .array .int
  | 3 => .object "RingThreads$Text"
  | 4 => .array (.object "RingThreads$Ring")
  | 5 => .array (.object "RingThreads$Ring")
  | _ => .int
abbrev wsX30 : List Cond := u_ws RX3 TX3 7
theorem nmX3 : ∀ a, a < 7 → ∀ b, b < 7 → a ≠ b → (TX3 a).2.1 ≠ (TX3 b).2.1 := by decide +kernel
theorem tyX3_ok : ∀ k, k < 7 → parseFieldDescriptor (TX3 k).2.2.1 = some (tyX3 k) := by decide +kernel
abbrev cX3_init : ByteArray := prog_1_method_1_code
def yX3_init : MethodName := ⟨RX3, "<init>", "()V"⟩
abbrev cX3_nails : ByteArray := prog_1_method_2_code
def yX3_nails : MethodName := ⟨RX3, "nails", "(I)I"⟩
abbrev cX3_spool : ByteArray := prog_1_method_3_code
def yX3_spool : MethodName := ⟨RX3, "spool", "(III)I"⟩
abbrev cX3_knot : ByteArray := prog_1_method_4_code
def yX3_knot : MethodName := ⟨RX3, "knot", "(I)I"⟩
abbrev cX3_set : ByteArray := prog_1_method_5_code
def yX3_set : MethodName := ⟨RX3, "set", "(II)I"⟩
abbrev cX3_wind : ByteArray := prog_1_method_6_code
def yX3_wind : MethodName := ⟨RX3, "wind", "(I)I"⟩
abbrev cX3_unwind : ByteArray := prog_1_method_7_code
def yX3_unwind : MethodName := ⟨RX3, "unwind", "()I"⟩
abbrev cX3_windBest : ByteArray := prog_1_method_8_code
def yX3_windBest : MethodName := ⟨RX3, "windBest", "(I)I"⟩
abbrev cX3_want : ByteArray := prog_1_method_9_code
def yX3_want : MethodName := ⟨RX3, "want", "(III)I"⟩
abbrev cX3_turnFace : ByteArray := prog_1_method_10_code
def yX3_turnFace : MethodName := ⟨RX3, "turnFace", "(I)I"⟩
abbrev cX3_keep : ByteArray := prog_1_method_15_code
def yX3_keep : MethodName := ⟨RX3, "keep", "(I)I"⟩
abbrev cX3_goBack : ByteArray := prog_1_method_16_code
def yX3_goBack : MethodName := ⟨RX3, "goBack", "(I)I"⟩
abbrev cX3_undo : ByteArray := prog_1_method_17_code
def yX3_undo : MethodName := ⟨RX3, "undo", "()I"⟩
abbrev cX3_nailOf : ByteArray := prog_1_method_18_code
def yX3_nailOf : MethodName := ⟨RX3, "nailOf", "(II)I"⟩
abbrev cX3_spoolOf : ByteArray := prog_1_method_19_code
def yX3_spoolOf : MethodName := ⟨RX3, "spoolOf", "(II)I"⟩
abbrev cX3_wound : ByteArray := prog_1_method_21_code
def yX3_wound : MethodName := ⟨RX3, "wound", "(II)I"⟩
abbrev cX3_square : ByteArray := prog_1_method_22_code
def yX3_square : MethodName := ⟨RX3, "square", "(III)I"⟩
abbrev cX3_count : ByteArray := prog_1_method_23_code
def yX3_count : MethodName := ⟨RX3, "count", "(I)I"⟩
abbrev cX3_setting : ByteArray := prog_1_method_24_code
def yX3_setting : MethodName := ⟨RX3, "setting", "(I)I"⟩
abbrev cX3_whyNot : ByteArray := prog_1_method_25_code
def yX3_whyNot : MethodName := ⟨RX3, "whyNot", "(I)I"⟩
abbrev cX3_gain : ByteArray := prog_1_method_26_code
def yX3_gain : MethodName := ⟨RX3, "gain", "(I)I"⟩
abbrev cX3_best : ByteArray := prog_1_method_27_code
def yX3_best : MethodName := ⟨RX3, "best", "()I"⟩
abbrev cX3_palest : ByteArray := prog_1_method_29_code
def yX3_palest : MethodName := ⟨RX3, "palest", "()I"⟩
abbrev cX3_stepOf : ByteArray := prog_1_method_39_code
def yX3_stepOf : MethodName := ⟨RX3, "stepOf", "(I)I"⟩
abbrev cX3_needNail : ByteArray := prog_1_method_40_code
def yX3_needNail : MethodName := ⟨RX3, "needNail", "(I)V"⟩
abbrev cX3_needSpool : ByteArray := prog_1_method_41_code
def yX3_needSpool : MethodName := ⟨RX3, "needSpool", "(I)V"⟩
abbrev cX3_needSetting : ByteArray := prog_1_method_42_code
def yX3_needSetting : MethodName := ⟨RX3, "needSetting", "(I)V"⟩
abbrev cX3_needSquare : ByteArray := prog_1_method_43_code
def yX3_needSquare : MethodName := ⟨RX3, "needSquare", "(II)V"⟩
abbrev cX3_needRange : ByteArray := prog_1_method_44_code
def yX3_needRange : MethodName := ⟨RX3, "needRange", "(III)V"⟩
abbrev cX3_save : ByteArray := prog_1_method_45_code
def yX3_save : MethodName := ⟨RX3, "save", "()V"⟩
abbrev cX3_copyTo : ByteArray := prog_1_method_46_code
def yX3_copyTo : MethodName := ⟨RX3, "copyTo", "([LRingThreads$Ring;I)V"⟩
def RX4 : String := "RingThreadsModel"
def TX4 : u_T := fun k => match k with
  | _ => ("", "", "", false)
def tyX4 : Nat → FieldType := fun k => match k with
  | _ => .int
abbrev wsX40 : List Cond := u_ws RX4 TX4 0
theorem nmX4 : ∀ a, a < 0 → ∀ b, b < 0 → a ≠ b → (TX4 a).2.1 ≠ (TX4 b).2.1 := by decide +kernel
theorem tyX4_ok : ∀ k, k < 0 → parseFieldDescriptor (TX4 k).2.2.1 = some (tyX4 k) := by decide +kernel
def RJx145de : String := "java/io/Serializable"
def TJx145de : u_T := fun k => match k with
  | _ => ("", "", "", false)
def tyJx145de : Nat → FieldType := fun k => match k with
  | _ => .int
theorem nmJx145de : ∀ a, a < 0 → ∀ b, b < 0 → a ≠ b → (TJx145de a).2.1 ≠ (TJx145de b).2.1 := by decide +kernel
theorem tyJx145de_ok : ∀ k, k < 0 → parseFieldDescriptor (TJx145de k).2.2.1 = some (tyJx145de k) := by decide +kernel
def RJx8e188 : String := "java/lang/Cloneable"
def TJx8e188 : u_T := fun k => match k with
  | _ => ("", "", "", false)
def tyJx8e188 : Nat → FieldType := fun k => match k with
  | _ => .int
theorem nmJx8e188 : ∀ a, a < 0 → ∀ b, b < 0 → a ≠ b → (TJx8e188 a).2.1 ≠ (TJx8e188 b).2.1 := by decide +kernel
theorem tyJx8e188_ok : ∀ k, k < 0 → parseFieldDescriptor (TJx8e188 k).2.2.1 = some (tyJx8e188 k) := by decide +kernel
def RJ9 : String := "java/lang/Math"
def TJ9 : u_T := fun k => match k with
  | _ => ("", "", "", false)
def tyJ9 : Nat → FieldType := fun k => match k with
  | _ => .int
theorem nmJ9 : ∀ a, a < 0 → ∀ b, b < 0 → a ≠ b → (TJ9 a).2.1 ≠ (TJ9 b).2.1 := by decide +kernel
theorem tyJ9_ok : ∀ k, k < 0 → parseFieldDescriptor (TJ9 k).2.2.1 = some (tyJ9 k) := by decide +kernel
abbrev cJ9_abs_0f7a4 : ByteArray := prog_12_method_59_code
def yJ9_abs_0f7a4 : MethodName := ⟨RJ9, "abs", "(I)I"⟩
abbrev cJ9_max_7cf53 : ByteArray := prog_12_method_65_code
def yJ9_max_7cf53 : MethodName := ⟨RJ9, "max", "(II)I"⟩
abbrev cJ9_min_7cf53 : ByteArray := prog_12_method_69_code
def yJ9_min_7cf53 : MethodName := ⟨RJ9, "min", "(II)I"⟩
def RJ0 : String := "java/lang/String"
def TJ0 : u_T := fun k => match k with
  | _ => ("", "", "", false)
def tyJ0 : Nat → FieldType := fun k => match k with
  | _ => .int
theorem nmJ0 : ∀ a, a < 0 → ∀ b, b < 0 → a ≠ b → (TJ0 a).2.1 ≠ (TJ0 b).2.1 := by decide +kernel
theorem tyJ0_ok : ∀ k, k < 0 → parseFieldDescriptor (TJ0 k).2.2.1 = some (tyJ0 k) := by decide +kernel
def RJ10 : String := "java/lang/System"
def TJ10 : u_T := fun k => match k with
  | _ => ("", "", "", false)
def tyJ10 : Nat → FieldType := fun k => match k with
  | _ => .int
theorem nmJ10 : ∀ a, a < 0 → ∀ b, b < 0 → a ≠ b → (TJ10 a).2.1 ≠ (TJ10 b).2.1 := by decide +kernel
theorem tyJ10_ok : ∀ k, k < 0 → parseFieldDescriptor (TJ10 k).2.2.1 = some (tyJ10 k) := by decide +kernel
def RJ7 : String := "java/util/Arrays"
def TJ7 : u_T := fun k => match k with
  | _ => ("", "", "", false)
def tyJ7 : Nat → FieldType := fun k => match k with
  | _ => .int
theorem nmJ7 : ∀ a, a < 0 → ∀ b, b < 0 → a ≠ b → (TJ7 a).2.1 ≠ (TJ7 b).2.1 := by decide +kernel
theorem tyJ7_ok : ∀ k, k < 0 → parseFieldDescriptor (TJ7 k).2.2.1 = some (tyJ7 k) := by decide +kernel
abbrev cJ7_copyOf_59c91 : ByteArray := prog_17_method_123_code
def yJ7_copyOf_59c91 : MethodName := ⟨RJ7, "copyOf", "([II)[I"⟩
def RL : String := "RingThreadsLaw"
abbrev cL_cell : ByteArray := method_2_code
def yL_cell : MethodName := ⟨RL, "cell", "([II)I"⟩
abbrev cL_low : ByteArray := method_3_code
def yL_low : MethodName := ⟨RL, "low", "(II)I"⟩
abbrev cL_told : ByteArray := method_4_code
def yL_told : MethodName := ⟨RL, "told", "(LRingThreads;)J"⟩
abbrev cL_act : ByteArray := method_5_code
def yL_act : MethodName := ⟨RL, "act", "(LRingThreads;II)I"⟩
abbrev cL_holds : ByteArray := method_6_code
def yL_holds : MethodName := ⟨RL, "holds", "(LRingThreads;)Z"⟩
abbrev cL_law : ByteArray := code
def yL_law : MethodName := ⟨RL, "law", "([I)Z"⟩
abbrev vwCl : List vw_C := [(RX0, TX0, 2), (RX1, TX1, 19), (RX2, TX2, 2), (RX3, TX3, 7)]
