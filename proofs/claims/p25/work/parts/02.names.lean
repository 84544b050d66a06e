def RX0 : String := "PortolanHall$Chart"
def TX0 : u_T := fun k => match k with
  | 0 => ("PortolanHall$Chart", "year", "I", false)
  | 1 => ("PortolanHall$Chart", "x", "[I", true)
  | 2 => ("PortolanHall$Chart", "y", "[I", true)
  | 3 => ("PortolanHall$Chart", "name", "[I", true)
  | 4 => ("PortolanHall$Chart", "source", "[I", true)
  | 5 => ("PortolanHall$Chart", "scale", "[I", true)
  | _ => ("PortolanHall$Chart", "hasIsland", "[Z", true)
def tyX0 : Nat → FieldType := fun k => match k with
  | 0 => .int
  | 1 => .array .int
  | 2 => .array .int
  | 3 => .array .int
  | 4 => .array .int
  | 5 => .array .int
  | _ => .array .boolean
abbrev wsX00 : List Cond := u_ws RX0 TX0 7
theorem nmX0 : ∀ a, a < 7 → ∀ b, b < 7 → a ≠ b → (TX0 a).2.1 ≠ (TX0 b).2.1 := by decide +kernel
theorem tyX0_ok : ∀ k, k < 7 → parseFieldDescriptor (TX0 k).2.2.1 = some (tyX0 k) := by decide +kernel
abbrev cX0_init : ByteArray := prog_2_method_1_code
def yX0_init : MethodName := ⟨RX0, "<init>", "()V"⟩
abbrev cX0_knows : ByteArray := prog_2_method_2_code
def yX0_knows : MethodName := ⟨RX0, "knows", "(I)Z"⟩
abbrev cX0_put : ByteArray := prog_2_method_3_code
def yX0_put : MethodName := ⟨RX0, "put", "(IIII)V"⟩
abbrev cX0_forget : ByteArray := prog_2_method_4_code
def yX0_forget : MethodName := ⟨RX0, "forget", "(I)V"⟩
abbrev cX0_takeFrame : ByteArray := prog_2_method_5_code
def yX0_takeFrame : MethodName := ⟨RX0, "takeFrame", "(LPortolanHall$Chart;)V"⟩
abbrev cX0_knownFrom : ByteArray := prog_2_method_6_code
def yX0_knownFrom : MethodName := ⟨RX0, "knownFrom", "(II)I"⟩
abbrev cX0_islandCount : ByteArray := prog_2_method_7_code
def yX0_islandCount : MethodName := ⟨RX0, "islandCount", "()I"⟩
abbrev cX0_islandsWith : ByteArray := prog_2_method_8_code
def yX0_islandsWith : MethodName := ⟨RX0, "islandsWith", "(LPortolanHall$Chart;)I"⟩
abbrev cX0_fitsMoved : ByteArray := prog_2_method_9_code
def yX0_fitsMoved : MethodName := ⟨RX0, "fitsMoved", "(IIII)Z"⟩
abbrev cX0_fitsShrunk : ByteArray := prog_2_method_10_code
def yX0_fitsShrunk : MethodName := ⟨RX0, "fitsShrunk", "(II)Z"⟩
abbrev cX0_shrinkPlaces : ByteArray := prog_2_method_11_code
def yX0_shrinkPlaces : MethodName := ⟨RX0, "shrinkPlaces", "(II)V"⟩
abbrev cX0_shrunk : ByteArray := prog_2_method_12_code
def yX0_shrunk : MethodName := ⟨RX0, "shrunk", "(II)I"⟩
abbrev cX0_isPlace : ByteArray := prog_2_method_13_code
def yX0_isPlace : MethodName := ⟨RX0, "isPlace", "(II)Z"⟩
def RX1 : String := "PortolanHall$Coast"
def TX1 : u_T := fun k => match k with
  | 0 => ("PortolanHall$Coast", "x", "[I", true)
  | 1 => ("PortolanHall$Coast", "y", "[I", true)
  | 2 => ("PortolanHall$Coast", "name", "[I", true)
  | _ => ("PortolanHall$Coast", "year", "[I", true)
def tyX1 : Nat → FieldType := fun k => match k with
  | 0 => .array .int
  | 1 => .array .int
  | 2 => .array .int
  | _ => .array .int
abbrev wsX10 : List Cond := u_ws RX1 TX1 4
theorem nmX1 : ∀ a, a < 4 → ∀ b, b < 4 → a ≠ b → (TX1 a).2.1 ≠ (TX1 b).2.1 := by decide +kernel
theorem tyX1_ok : ∀ k, k < 4 → parseFieldDescriptor (TX1 k).2.2.1 = some (tyX1 k) := by decide +kernel
abbrev cX1_init : ByteArray := prog_3_method_1_code
def yX1_init : MethodName := ⟨RX1, "<init>", "()V"⟩
def RX2 : String := "PortolanHall$Copyist"
def TX2 : u_T := fun k => match k with
  | 0 => ("PortolanHall$Copyist", "hand", "I", false)
  | _ => ("PortolanHall$Copyist", "reading", "[I", true)
def tyX2 : Nat → FieldType := fun k => match k with
  | 0 => .int
  | _ => .array .int
abbrev wsX20 : List Cond := u_ws RX2 TX2 2
theorem nmX2 : ∀ a, a < 2 → ∀ b, b < 2 → a ≠ b → (TX2 a).2.1 ≠ (TX2 b).2.1 := by decide +kernel
theorem tyX2_ok : ∀ k, k < 2 → parseFieldDescriptor (TX2 k).2.2.1 = some (tyX2 k) := by decide +kernel
abbrev cX2_init : ByteArray := prog_4_method_1_code
def yX2_init : MethodName := ⟨RX2, "<init>", "()V"⟩
abbrev cX2_readingOf : ByteArray := prog_4_method_2_code
def yX2_readingOf : MethodName := ⟨RX2, "readingOf", "(I)I"⟩
def RX3 : String := "PortolanHall$Islands"
def TX3 : u_T := fun k => match k with
  | 0 => ("PortolanHall$Islands", "x", "[I", true)
  | 1 => ("PortolanHall$Islands", "y", "[I", true)
  | 2 => ("PortolanHall$Islands", "firstChart", "[I", true)
  | _ => ("PortolanHall$Islands", "count", "I", false)
def tyX3 : Nat → FieldType := fun k => match k with
  | 0 => .array .int
  | 1 => .array .int
  | 2 => .array .int
  | _ => .int
abbrev wsX30 : List Cond := u_ws RX3 TX3 4
theorem nmX3 : ∀ a, a < 4 → ∀ b, b < 4 → a ≠ b → (TX3 a).2.1 ≠ (TX3 b).2.1 := by decide +kernel
theorem tyX3_ok : ∀ k, k < 4 → parseFieldDescriptor (TX3 k).2.2.1 = some (tyX3 k) := by decide +kernel
abbrev cX3_init : ByteArray := prog_5_method_1_code
def yX3_init : MethodName := ⟨RX3, "<init>", "()V"⟩
def RX4 : String := "PortolanHall$Log"
def TX4 : u_T := fun k => match k with
  | 0 => ("PortolanHall$Log", "from", "[I", true)
  | 1 => ("PortolanHall$Log", "to", "[I", true)
  | 2 => ("PortolanHall$Log", "x", "[I", true)
  | 3 => ("PortolanHall$Log", "y", "[I", true)
  | _ => ("PortolanHall$Log", "count", "I", false)
def tyX4 : Nat → FieldType := fun k => match k with
  | 0 => .array .int
  | 1 => .array .int
  | 2 => .array .int
  | 3 => .array .int
  | _ => .int
abbrev wsX40 : List Cond := u_ws RX4 TX4 5
theorem nmX4 : ∀ a, a < 5 → ∀ b, b < 5 → a ≠ b → (TX4 a).2.1 ≠ (TX4 b).2.1 := by decide +kernel
theorem tyX4_ok : ∀ k, k < 5 → parseFieldDescriptor (TX4 k).2.2.1 = some (tyX4 k) := by decide +kernel
abbrev cX4_init : ByteArray := prog_6_method_1_code
def yX4_init : MethodName := ⟨RX4, "<init>", "()V"⟩
def RX5 : String := "PortolanHall$Pilots"
def TX5 : u_T := fun k => match k with
  | 0 => ("PortolanHall$Pilots", "turn", "[I", true)
  | 1 => ("PortolanHall$Pilots", "error", "[I", true)
  | _ => ("PortolanHall$Pilots", "count", "I", false)
def tyX5 : Nat → FieldType := fun k => match k with
  | 0 => .array .int
  | 1 => .array .int
  | _ => .int
abbrev wsX50 : List Cond := u_ws RX5 TX5 3
theorem nmX5 : ∀ a, a < 3 → ∀ b, b < 3 → a ≠ b → (TX5 a).2.1 ≠ (TX5 b).2.1 := by decide +kernel
theorem tyX5_ok : ∀ k, k < 3 → parseFieldDescriptor (TX5 k).2.2.1 = some (tyX5 k) := by decide +kernel
abbrev cX5_init : ByteArray := prog_7_method_1_code
def yX5_init : MethodName := ⟨RX5, "<init>", "()V"⟩
def RX6 : String := "PortolanHall$Round"
def TX6 : u_T := fun k => match k with
  | 0 => ("PortolanHall$Round", "sumX", "[I", true)
  | 1 => ("PortolanHall$Round", "sumY", "[I", true)
  | _ => ("PortolanHall$Round", "given", "[I", true)
def tyX6 : Nat → FieldType := fun k => match k with
  | 0 => .array .int
  | 1 => .array .int
  | _ => .array .int
abbrev wsX60 : List Cond := u_ws RX6 TX6 3
theorem nmX6 : ∀ a, a < 3 → ∀ b, b < 3 → a ≠ b → (TX6 a).2.1 ≠ (TX6 b).2.1 := by decide +kernel
theorem tyX6_ok : ∀ k, k < 3 → parseFieldDescriptor (TX6 k).2.2.1 = some (tyX6 k) := by decide +kernel
abbrev cX6_init : ByteArray := prog_8_method_1_code
def yX6_init : MethodName := ⟨RX6, "<init>", "()V"⟩
abbrev cX6_begin : ByteArray := prog_8_method_2_code
def yX6_begin : MethodName := ⟨RX6, "begin", "()V"⟩
abbrev cX6_give : ByteArray := prog_8_method_3_code
def yX6_give : MethodName := ⟨RX6, "give", "(III)V"⟩
abbrev cX6_settle : ByteArray := prog_8_method_4_code
def yX6_settle : MethodName := ⟨RX6, "settle", "(LPortolanHall$Chart;)Z"⟩
def RX7 : String := "PortolanHall"
def TX7 : u_T := fun k => match k with
  | 0 => ("PortolanHall", "truth", "LPortolanHall$Coast;", true)
  | 1 => ("PortolanHall", "pilots", "LPortolanHall$Pilots;", true)
  | 2 => ("PortolanHall", "log", "LPortolanHall$Log;", true)
  | 3 => ("PortolanHall", "round", "LPortolanHall$Round;", true)
  | 4 => ("PortolanHall", "copyists", "[LPortolanHall$Copyist;", true)
  | 5 => ("PortolanHall", "charts", "[LPortolanHall$Chart;", true)
  | 6 => ("PortolanHall", "islands", "LPortolanHall$Islands;", true)
  | _ => ("PortolanHall", "chartCount", "I", false)
def tyX7 : Nat → FieldType := fun k => match k with
  | 0 => .object "PortolanHall$Coast"
  | 1 => .object "PortolanHall$Pilots"
  | 2 => .object "PortolanHall$Log"
  | 3 => .object "PortolanHall$Round"
  | 4 => .array (.object "PortolanHall$Copyist")
  | 5 => .array (.object "PortolanHall$Chart")
  | 6 => .object "PortolanHall$Islands"
  | _ => .int
abbrev wsX70 : List Cond := u_ws RX7 TX7 8
theorem nmX7 : ∀ a, a < 8 → ∀ b, b < 8 → a ≠ b → (TX7 a).2.1 ≠ (TX7 b).2.1 := by decide +kernel
theorem tyX7_ok : ∀ k, k < 8 → parseFieldDescriptor (TX7 k).2.2.1 = some (tyX7 k) := by decide +kernel
abbrev cX7_init : ByteArray := prog_1_method_1_code
def yX7_init : MethodName := ⟨RX7, "<init>", "()V"⟩
abbrev cX7_coast : ByteArray := prog_1_method_2_code
def yX7_coast : MethodName := ⟨RX7, "coast", "(IIIII)V"⟩
abbrev cX7_pilot : ByteArray := prog_1_method_3_code
def yX7_pilot : MethodName := ⟨RX7, "pilot", "(II)I"⟩
abbrev cX7_report : ByteArray := prog_1_method_4_code
def yX7_report : MethodName := ⟨RX7, "report", "(III)I"⟩
abbrev cX7_chart : ByteArray := prog_1_method_5_code
def yX7_chart : MethodName := ⟨RX7, "chart", "(II)I"⟩
abbrev cX7_hand : ByteArray := prog_1_method_6_code
def yX7_hand : MethodName := ⟨RX7, "hand", "(II)I"⟩
abbrev cX7_reads : ByteArray := prog_1_method_7_code
def yX7_reads : MethodName := ⟨RX7, "reads", "(III)V"⟩
abbrev cX7_copy : ByteArray := prog_1_method_8_code
def yX7_copy : MethodName := ⟨RX7, "copy", "(IIII)I"⟩
abbrev cX7_paste : ByteArray := prog_1_method_9_code
def yX7_paste : MethodName := ⟨RX7, "paste", "(IIII)I"⟩
abbrev cX7_island : ByteArray := prog_1_method_10_code
def yX7_island : MethodName := ⟨RX7, "island", "(III)I"⟩
abbrev cX7_exchange : ByteArray := prog_1_method_11_code
def yX7_exchange : MethodName := ⟨RX7, "exchange", "(III)V"⟩
abbrev cX7_shrink : ByteArray := prog_1_method_12_code
def yX7_shrink : MethodName := ⟨RX7, "shrink", "(IIIZ)I"⟩
abbrev cX7_lose : ByteArray := prog_1_method_13_code
def yX7_lose : MethodName := ⟨RX7, "lose", "(III)I"⟩
abbrev cX7_paint : ByteArray := prog_1_method_14_code
def yX7_paint : MethodName := ⟨RX7, "paint", "(II)Z"⟩
abbrev cX7_told : ByteArray := prog_1_method_15_code
def yX7_told : MethodName := ⟨RX7, "told", "(IZ)I"⟩
abbrev cX7_at : ByteArray := prog_1_method_16_code
def yX7_at : MethodName := ⟨RX7, "at", "(III)I"⟩
abbrev cX7_chain : ByteArray := prog_1_method_17_code
def yX7_chain : MethodName := ⟨RX7, "chain", "(III)I"⟩
abbrev cX7_of : ByteArray := prog_1_method_18_code
def yX7_of : MethodName := ⟨RX7, "of", "(II)I"⟩
abbrev cX7_fit : ByteArray := prog_1_method_20_code
def yX7_fit : MethodName := ⟨RX7, "fit", "(III)I"⟩
abbrev cX7_shared : ByteArray := prog_1_method_21_code
def yX7_shared : MethodName := ⟨RX7, "shared", "(III)I"⟩
abbrev cX7_kin : ByteArray := prog_1_method_22_code
def yX7_kin : MethodName := ⟨RX7, "kin", "(II)I"⟩
abbrev cX7_isWithin : ByteArray := prog_1_method_24_code
def yX7_isWithin : MethodName := ⟨RX7, "isWithin", "(II)Z"⟩
abbrev cX7_isName : ByteArray := prog_1_method_25_code
def yX7_isName : MethodName := ⟨RX7, "isName", "(I)Z"⟩
abbrev cX7_isYear : ByteArray := prog_1_method_26_code
def yX7_isYear : MethodName := ⟨RX7, "isYear", "(I)Z"⟩
abbrev cX7_firstOf : ByteArray := prog_1_method_27_code
def yX7_firstOf : MethodName := ⟨RX7, "firstOf", "(I)I"⟩
abbrev cX7_lastOf : ByteArray := prog_1_method_28_code
def yX7_lastOf : MethodName := ⟨RX7, "lastOf", "(I)I"⟩
abbrev cX7_needPoint : ByteArray := prog_1_method_29_code
def yX7_needPoint : MethodName := ⟨RX7, "needPoint", "(I)V"⟩
abbrev cX7_needBasin : ByteArray := prog_1_method_30_code
def yX7_needBasin : MethodName := ⟨RX7, "needBasin", "(I)V"⟩
abbrev cX7_needIsland : ByteArray := prog_1_method_31_code
def yX7_needIsland : MethodName := ⟨RX7, "needIsland", "(I)V"⟩
abbrev cX7_needRoomForChart : ByteArray := prog_1_method_32_code
def yX7_needRoomForChart : MethodName := ⟨RX7, "needRoomForChart", "()V"⟩
abbrev cX7_chartOf : ByteArray := prog_1_method_33_code
def yX7_chartOf : MethodName := ⟨RX7, "chartOf", "(I)LPortolanHall$Chart;"⟩
abbrev cX7_copyistOf : ByteArray := prog_1_method_34_code
def yX7_copyistOf : MethodName := ⟨RX7, "copyistOf", "(I)LPortolanHall$Copyist;"⟩
abbrev cX7_layOut : ByteArray := prog_1_method_35_code
def yX7_layOut : MethodName := ⟨RX7, "layOut", "(LPortolanHall$Chart;I)V"⟩
abbrev cX7_gather : ByteArray := prog_1_method_36_code
def yX7_gather : MethodName := ⟨RX7, "gather", "(LPortolanHall$Chart;I)V"⟩
abbrev cX7_drawn : ByteArray := prog_1_method_37_code
def yX7_drawn : MethodName := ⟨RX7, "drawn", "(III)I"⟩
abbrev cX7_sourceOf : ByteArray := prog_1_method_38_code
def yX7_sourceOf : MethodName := ⟨RX7, "sourceOf", "(II)I"⟩
abbrev cX7_leadsBack : ByteArray := prog_1_method_39_code
def yX7_leadsBack : MethodName := ⟨RX7, "leadsBack", "(IIII)Z"⟩
abbrev cX7_errorOf : ByteArray := prog_1_method_40_code
def yX7_errorOf : MethodName := ⟨RX7, "errorOf", "(LPortolanHall$Chart;IZ)I"⟩
abbrev cX7_hasTrueName : ByteArray := prog_1_method_41_code
def yX7_hasTrueName : MethodName := ⟨RX7, "hasTrueName", "(LPortolanHall$Chart;I)Z"⟩
abbrev cX7_falseNames : ByteArray := prog_1_method_42_code
def yX7_falseNames : MethodName := ⟨RX7, "falseNames", "(LPortolanHall$Chart;)I"⟩
abbrev cX7_shift : ByteArray := prog_1_method_43_code
def yX7_shift : MethodName := ⟨RX7, "shift", "(LPortolanHall$Chart;IZ)I"⟩
abbrev cX7_residual : ByteArray := prog_1_method_44_code
def yX7_residual : MethodName := ⟨RX7, "residual", "(LPortolanHall$Chart;I)I"⟩
abbrev cX7_sharedBy : ByteArray := prog_1_method_45_code
def yX7_sharedBy : MethodName := ⟨RX7, "sharedBy", "(LPortolanHall$Chart;LPortolanHall$Chart;I)I"⟩
abbrev cX7_shareError : ByteArray := prog_1_method_46_code
def yX7_shareError : MethodName := ⟨RX7, "shareError", "(LPortolanHall$Chart;LPortolanHall$Chart;I)Z"⟩
def RX8 : String := "PortolanHallModel"
def TX8 : u_T := fun k => match k with
  | _ => ("", "", "", false)
def tyX8 : Nat → FieldType := fun k => match k with
  | _ => .int
abbrev wsX80 : List Cond := u_ws RX8 TX8 0
theorem nmX8 : ∀ a, a < 0 → ∀ b, b < 0 → a ≠ b → (TX8 a).2.1 ≠ (TX8 b).2.1 := by decide +kernel
theorem tyX8_ok : ∀ k, k < 0 → parseFieldDescriptor (TX8 k).2.2.1 = some (tyX8 k) := by decide +kernel
def RJ9 : String := "java/lang/Math"
def TJ9 : u_T := fun k => match k with
  | _ => ("", "", "", false)
def tyJ9 : Nat → FieldType := fun k => match k with
  | _ => .int
abbrev wsJ90 : List Cond := u_ws RJ9 TJ9 0
theorem nmJ9 : ∀ a, a < 0 → ∀ b, b < 0 → a ≠ b → (TJ9 a).2.1 ≠ (TJ9 b).2.1 := by decide +kernel
theorem tyJ9_ok : ∀ k, k < 0 → parseFieldDescriptor (TJ9 k).2.2.1 = some (tyJ9 k) := by decide +kernel
abbrev cJ9_abs_0f7a4 : ByteArray := prog_15_method_59_code
def yJ9_abs_0f7a4 : MethodName := ⟨RJ9, "abs", "(I)I"⟩
def RJ0 : String := "java/lang/String"
def TJ0 : u_T := fun k => match k with
  | _ => ("", "", "", false)
def tyJ0 : Nat → FieldType := fun k => match k with
  | _ => .int
abbrev wsJ00 : List Cond := u_ws RJ0 TJ0 0
theorem nmJ0 : ∀ a, a < 0 → ∀ b, b < 0 → a ≠ b → (TJ0 a).2.1 ≠ (TJ0 b).2.1 := by decide +kernel
theorem tyJ0_ok : ∀ k, k < 0 → parseFieldDescriptor (TJ0 k).2.2.1 = some (tyJ0 k) := by decide +kernel
def RL : String := "PortolanHallLaw"
abbrev cL_cell : ByteArray := method_2_code
def yL_cell : MethodName := ⟨RL, "cell", "([II)I"⟩
abbrev cL_low : ByteArray := method_3_code
def yL_low : MethodName := ⟨RL, "low", "(II)I"⟩
abbrev cL_shared : ByteArray := method_4_code
def yL_shared : MethodName := ⟨RL, "shared", "([I[I[I[I[I[IIII)I"⟩
abbrev cL_size : ByteArray := method_5_code
def yL_size : MethodName := ⟨RL, "size", "(I)I"⟩
abbrev cL_pasted : ByteArray := method_6_code
def yL_pasted : MethodName := ⟨RL, "pasted", "(LPortolanHall;IIII)I"⟩
abbrev cL_shrunk : ByteArray := method_7_code
def yL_shrunk : MethodName := ⟨RL, "shrunk", "(LPortolanHall;II)I"⟩
abbrev cL_right : ByteArray := method_8_code
def yL_right : MethodName := ⟨RL, "right", "(LPortolanHall;[I[I[I[I[I[II)Z"⟩
abbrev cL_law : ByteArray := code
def yL_law : MethodName := ⟨RL, "law", "([I)Z"⟩
abbrev vwCl : List vw_C := [(RX0, TX0, 7), (RX1, TX1, 4), (RX2, TX2, 2), (RX3, TX3, 4), (RX4, TX4, 5), (RX5, TX5, 3), (RX6, TX6, 3), (RX7, TX7, 8)]
