section
-- names, field tables, method names and codes: the program's own, as the task prints them (NAMES.whole, SKELETON's PART A)
-- ===== PART A: goes FIRST, ahead of the names: the tables' words, and 'selects' of the private methods out of them =====
/-- a private method of a class that the tables say can be made, by its rows of tables_1 -/
def lw_okq (q : MethodName × Nat) : Prop := (q.1.cls ≠ "java/lang/invoke/MethodHandle" ∧ q.1.cls ≠ "java/lang/invoke/VarHandle") ∧ Cond.instantiable q.1.cls q.2 ∈ tables_1 ∧ Cond.privateMethod q.1 ∈ tables_1 ∧ Cond.instanceMethod q.1 ∈ tables_1
theorem lw_p0 : lw_okq (⟨"HungStops", "broken", "(I)LHungStops$Layout;"⟩, 8) := ⟨⟨by decide +kernel, by decide +kernel⟩, List.mem_of_getElem? (i := 9) (by decide +kernel), List.mem_of_getElem? (i := 234) (by decide +kernel), List.mem_of_getElem? (i := 235) (by decide +kernel)⟩
theorem lw_p1 : lw_okq (⟨"HungStops$Layout", "findFirstLine", "(I)V"⟩, 11) := ⟨⟨by decide +kernel, by decide +kernel⟩, List.mem_of_getElem? (i := 55) (by decide +kernel), List.mem_of_getElem? (i := 276) (by decide +kernel), List.mem_of_getElem? (i := 277) (by decide +kernel)⟩
theorem lw_p2 : lw_okq (⟨"HungStops$Layout", "badnessOf", "(II)I"⟩, 11) := ⟨⟨by decide +kernel, by decide +kernel⟩, List.mem_of_getElem? (i := 55) (by decide +kernel), List.mem_of_getElem? (i := 280) (by decide +kernel), List.mem_of_getElem? (i := 281) (by decide +kernel)⟩
theorem lw_p3 : lw_okq (⟨"HungStops", "isWord", "(I)Z"⟩, 8) := ⟨⟨by decide +kernel, by decide +kernel⟩, List.mem_of_getElem? (i := 9) (by decide +kernel), List.mem_of_getElem? (i := 296) (by decide +kernel), List.mem_of_getElem? (i := 297) (by decide +kernel)⟩
theorem lw_p4 : lw_okq (⟨"HungStops", "leastBadnessOf", "(LHungStops$Sheet;)I"⟩, 8) := ⟨⟨by decide +kernel, by decide +kernel⟩, List.mem_of_getElem? (i := 9) (by decide +kernel), List.mem_of_getElem? (i := 433) (by decide +kernel), List.mem_of_getElem? (i := 434) (by decide +kernel)⟩
def lw_privs_1 : List (MethodName × Nat) := [(⟨"HungStops", "broken", "(I)LHungStops$Layout;"⟩, 8), (⟨"HungStops$Layout", "findFirstLine", "(I)V"⟩, 11), (⟨"HungStops$Layout", "badnessOf", "(II)I"⟩, 11), (⟨"HungStops", "isWord", "(I)Z"⟩, 8), (⟨"HungStops", "leastBadnessOf", "(LHungStops$Sheet;)I"⟩, 8)]
theorem lw_r1 : ∀ q ∈ lw_privs_1, lw_okq q := List.forall_mem_cons.mpr ⟨lw_p0, List.forall_mem_cons.mpr ⟨lw_p1, List.forall_mem_cons.mpr ⟨lw_p2, List.forall_mem_cons.mpr ⟨lw_p3, List.forall_mem_cons.mpr ⟨lw_p4, fun _ h => absurd h List.not_mem_nil⟩⟩⟩⟩⟩
def lw_privs : List (MethodName × Nat) := lw_privs_1
def lw_tbl : List Cond := k2_sels lw_privs ++ tables_1
theorem lw_privs_ok : ∀ q ∈ lw_privs, lw_okq q := lw_r1
def RX0 : String := "HungStops$History"
def TX0 : u_T := fun k => match k with
  | 0 => ("HungStops$History", "states", "[LHungStops$Sheet;", true)
  | 1 => ("HungStops$History", "next", "I", false)
  | _ => ("HungStops$History", "size", "I", false)
def tyX0 : Nat → FieldType := fun k => match k with
  | 0 => .array (.object "HungStops$Sheet")
  | 1 => .int
  | _ => .int
theorem nmX0 : ∀ a, a < 3 → ∀ b, b < 3 → a ≠ b → (TX0 a).2.1 ≠ (TX0 b).2.1 := by decide +kernel
theorem tyX0_ok : ∀ k, k < 3 → parseFieldDescriptor (TX0 k).2.2.1 = some (tyX0 k) := by decide +kernel
abbrev cX0_init : ByteArray := prog_2_method_1_code
def yX0_init : MethodName := ⟨RX0, "<init>", "()V"⟩
abbrev cX0_record : ByteArray := prog_2_method_2_code
def yX0_record : MethodName := ⟨RX0, "record", "(LHungStops$Sheet;)V"⟩
def RX1 : String := "HungStops$Layout"
def TX1 : u_T := fun k => match k with
  | 0 => ("HungStops$Layout", "places", "[I", true)
  | 1 => ("HungStops$Layout", "leftHangs", "[I", true)
  | 2 => ("HungStops$Layout", "rightHangs", "[I", true)
  | 3 => ("HungStops$Layout", "words", "I", false)
  | 4 => ("HungStops$Layout", "measure", "I", false)
  | 5 => ("HungStops$Layout", "space", "I", false)
  | 6 => ("HungStops$Layout", "loose", "I", false)
  | 7 => ("HungStops$Layout", "starts", "[I", true)
  | 8 => ("HungStops$Layout", "lines", "I", false)
  | 9 => ("HungStops$Layout", "leastFrom", "[I", true)
  | _ => ("HungStops$Layout", "nextStart", "[I", true)
def tyX1 : Nat → FieldType := fun k => match k with
  | 0 => .array .int
  | 1 => .array .int
  | 2 => .array .int
  | 3 => .int
  | 4 => .int
  | 5 => .int
  | 6 => .int
  | 7 => .array .int
  | 8 => .int
  | 9 => .array .int
  | _ => .array .int
theorem nmX1 : ∀ a, a < 11 → ∀ b, b < 11 → a ≠ b → (TX1 a).2.1 ≠ (TX1 b).2.1 := by decide +kernel
theorem tyX1_ok : ∀ k, k < 11 → parseFieldDescriptor (TX1 k).2.2.1 = some (tyX1 k) := by decide +kernel
abbrev cX1_init : ByteArray := prog_3_method_1_code
def yX1_init : MethodName := ⟨RX1, "<init>", "()V"⟩
abbrev cX1_weigh : ByteArray := prog_3_method_2_code
def yX1_weigh : MethodName := ⟨RX1, "weigh", "(LHungStops$Sheet;)V"⟩
abbrev cX1_widthFrom : ByteArray := prog_3_method_3_code
def yX1_widthFrom : MethodName := ⟨RX1, "widthFrom", "(II)I"⟩
abbrev cX1_bodyOf : ByteArray := prog_3_method_4_code
def yX1_bodyOf : MethodName := ⟨RX1, "bodyOf", "(II)I"⟩
abbrev cX1_fillGreedily : ByteArray := prog_3_method_5_code
def yX1_fillGreedily : MethodName := ⟨RX1, "fillGreedily", "()V"⟩
abbrev cX1_breakBest : ByteArray := prog_3_method_6_code
def yX1_breakBest : MethodName := ⟨RX1, "breakBest", "()V"⟩
abbrev cX1_leastBadness : ByteArray := prog_3_method_7_code
def yX1_leastBadness : MethodName := ⟨RX1, "leastBadness", "()I"⟩
abbrev cX1_findFirstLine : ByteArray := prog_3_method_8_code
def yX1_findFirstLine : MethodName := ⟨RX1, "findFirstLine", "(I)V"⟩
abbrev cX1_badnessOf : ByteArray := prog_3_method_9_code
def yX1_badnessOf : MethodName := ⟨RX1, "badnessOf", "(II)I"⟩
abbrev cX1_lineWith : ByteArray := prog_3_method_10_code
def yX1_lineWith : MethodName := ⟨RX1, "lineWith", "(I)I"⟩
abbrev cX1_lastWord : ByteArray := prog_3_method_11_code
def yX1_lastWord : MethodName := ⟨RX1, "lastWord", "(I)I"⟩
abbrev cX1_bodyOfLine : ByteArray := prog_3_method_12_code
def yX1_bodyOfLine : MethodName := ⟨RX1, "bodyOfLine", "(I)I"⟩
abbrev cX1_fits : ByteArray := prog_3_method_13_code
def yX1_fits : MethodName := ⟨RX1, "fits", "(I)Z"⟩
abbrev cX1_looksIndented : ByteArray := prog_3_method_14_code
def yX1_looksIndented : MethodName := ⟨RX1, "looksIndented", "(I)Z"⟩
abbrev cX1_tellLine : ByteArray := prog_3_method_15_code
def yX1_tellLine : MethodName := ⟨RX1, "tellLine", "(II)I"⟩
abbrev cX1_badness : ByteArray := prog_3_method_16_code
def yX1_badness : MethodName := ⟨RX1, "badness", "()I"⟩
abbrev cX1_countIndented : ByteArray := prog_3_method_17_code
def yX1_countIndented : MethodName := ⟨RX1, "countIndented", "()I"⟩
abbrev cX1_countUnfit : ByteArray := prog_3_method_18_code
def yX1_countUnfit : MethodName := ⟨RX1, "countUnfit", "()I"⟩
abbrev cX1_greatestBody : ByteArray := prog_3_method_19_code
def yX1_greatestBody : MethodName := ⟨RX1, "greatestBody", "()I"⟩
abbrev cX1_breaksLike : ByteArray := prog_3_method_20_code
def yX1_breaksLike : MethodName := ⟨RX1, "breaksLike", "(LHungStops$Layout;)Z"⟩
def RX2 : String := "HungStops$Pad"
def TX2 : u_T := fun k => match k with
  | 0 => ("HungStops$Pad", "text", "[C", true)
  | _ => ("HungStops$Pad", "length", "I", false)
def tyX2 : Nat → FieldType := fun k => match k with
  | 0 => .array .char
  | _ => .int
theorem nmX2 : ∀ a, a < 2 → ∀ b, b < 2 → a ≠ b → (TX2 a).2.1 ≠ (TX2 b).2.1 := by decide +kernel
theorem tyX2_ok : ∀ k, k < 2 → parseFieldDescriptor (TX2 k).2.2.1 = some (tyX2 k) := by decide +kernel
abbrev cX2_init : ByteArray := prog_4_method_1_code
def yX2_init : MethodName := ⟨RX2, "<init>", "()V"⟩
abbrev cX2_lengthOf : ByteArray := prog_4_method_2_code
def yX2_lengthOf : MethodName := ⟨RX2, "lengthOf", "(J)I"⟩
abbrev cX2_append : ByteArray := prog_4_method_3_code
def yX2_append : MethodName := ⟨RX2, "append", "(JI)V"⟩
abbrev cX2_firstFault : ByteArray := prog_4_method_4_code
def yX2_firstFault : MethodName := ⟨RX2, "firstFault", "()I"⟩
abbrev cX2_countWords : ByteArray := prog_4_method_5_code
def yX2_countWords : MethodName := ⟨RX2, "countWords", "()I"⟩
abbrev cX2_addWordsTo : ByteArray := prog_4_method_6_code
def yX2_addWordsTo : MethodName := ⟨RX2, "addWordsTo", "(LHungStops$Sheet;)V"⟩
def RX3 : String := "HungStops$Sheet"
def TX3 : u_T := fun k => match k with
  | 0 => ("HungStops$Sheet", "settings", "[I", true)
  | 1 => ("HungStops$Sheet", "widths", "[I", true)
  | 2 => ("HungStops$Sheet", "lefts", "[I", true)
  | 3 => ("HungStops$Sheet", "rights", "[I", true)
  | 4 => ("HungStops$Sheet", "signs", "[C", true)
  | 5 => ("HungStops$Sheet", "lengths", "[I", true)
  | _ => ("HungStops$Sheet", "words", "I", false)
def tyX3 : Nat → FieldType := fun k => match k with
  | 0 => .array .int
  | 1 => .array .int
  | 2 => .array .int
  | 3 => .array .int
  | 4 => .array .char
  | 5 => .array .int
  | _ => .int
theorem nmX3 : ∀ a, a < 7 → ∀ b, b < 7 → a ≠ b → (TX3 a).2.1 ≠ (TX3 b).2.1 := by decide +kernel
theorem tyX3_ok : ∀ k, k < 7 → parseFieldDescriptor (TX3 k).2.2.1 = some (tyX3 k) := by decide +kernel
abbrev cX3_init : ByteArray := prog_5_method_1_code
def yX3_init : MethodName := ⟨RX3, "<init>", "()V"⟩
abbrev cX3_copyFrom : ByteArray := prog_5_method_2_code
def yX3_copyFrom : MethodName := ⟨RX3, "copyFrom", "(LHungStops$Sheet;)V"⟩
abbrev cX3_beginWord : ByteArray := prog_5_method_3_code
def yX3_beginWord : MethodName := ⟨RX3, "beginWord", "()V"⟩
abbrev cX3_addSign : ByteArray := prog_5_method_4_code
def yX3_addSign : MethodName := ⟨RX3, "addSign", "(C)V"⟩
abbrev cX3_takeOut : ByteArray := prog_5_method_5_code
def yX3_takeOut : MethodName := ⟨RX3, "takeOut", "(I)V"⟩
abbrev cX3_exchange : ByteArray := prog_5_method_6_code
def yX3_exchange : MethodName := ⟨RX3, "exchange", "(II)V"⟩
abbrev cX3_signAt : ByteArray := prog_5_method_7_code
def yX3_signAt : MethodName := ⟨RX3, "signAt", "(II)C"⟩
abbrev cX3_sortAt : ByteArray := prog_5_method_8_code
def yX3_sortAt : MethodName := ⟨RX3, "sortAt", "(II)I"⟩
abbrev cX3_widthOf : ByteArray := prog_5_method_9_code
def yX3_widthOf : MethodName := ⟨RX3, "widthOf", "(I)I"⟩
abbrev cX3_countSigns : ByteArray := prog_5_method_10_code
def yX3_countSigns : MethodName := ⟨RX3, "countSigns", "()I"⟩
abbrev cX3_countOf : ByteArray := prog_5_method_11_code
def yX3_countOf : MethodName := ⟨RX3, "countOf", "(I)I"⟩
abbrev cX3_hangAtLeft : ByteArray := prog_5_method_12_code
def yX3_hangAtLeft : MethodName := ⟨RX3, "hangAtLeft", "(I)I"⟩
abbrev cX3_hangAtRight : ByteArray := prog_5_method_13_code
def yX3_hangAtRight : MethodName := ⟨RX3, "hangAtRight", "(I)I"⟩
abbrev cX3_leftHangOf : ByteArray := prog_5_method_14_code
def yX3_leftHangOf : MethodName := ⟨RX3, "leftHangOf", "(I)I"⟩
abbrev cX3_rightHangOf : ByteArray := prog_5_method_15_code
def yX3_rightHangOf : MethodName := ⟨RX3, "rightHangOf", "(I)I"⟩
def RX4 : String := "HungStops"
def TX4 : u_T := fun k => match k with
  | 0 => ("HungStops", "now", "LHungStops$Sheet;", true)
  | 1 => ("HungStops", "trial", "LHungStops$Sheet;", true)
  | 2 => ("HungStops", "greedy", "LHungStops$Layout;", true)
  | 3 => ("HungStops", "best", "LHungStops$Layout;", true)
  | 4 => ("HungStops", "pad", "LHungStops$Pad;", true)
  | 5 => ("HungStops", "history", "LHungStops$History;", true)
  | 6 => ("HungStops", "slots", "[LHungStops$Sheet;", true)
  | _ => ("HungStops", "filled", "[Z", true)
def tyX4 : Nat → FieldType := fun k => match k with
  | 0 => .object "HungStops$Sheet"
  | 1 => .object "HungStops$Sheet"
  | 2 => .object "HungStops$Layout"
  | 3 => .object "HungStops$Layout"
  | 4 => .object "HungStops$Pad"
  | 5 => .object "HungStops$History"
  | 6 => .array (.object "HungStops$Sheet")
  | _ => .array .boolean
theorem nmX4 : ∀ a, a < 8 → ∀ b, b < 8 → a ≠ b → (TX4 a).2.1 ≠ (TX4 b).2.1 := by decide +kernel
theorem tyX4_ok : ∀ k, k < 8 → parseFieldDescriptor (TX4 k).2.2.1 = some (tyX4 k) := by decide +kernel
abbrev cX4_init : ByteArray := prog_1_method_1_code
def yX4_init : MethodName := ⟨RX4, "<init>", "()V"⟩
abbrev cX4_set : ByteArray := prog_1_method_2_code
def yX4_set : MethodName := ⟨RX4, "set", "(II)I"⟩
abbrev cX4_sort : ByteArray := prog_1_method_3_code
def yX4_sort : MethodName := ⟨RX4, "sort", "(IIII)I"⟩
abbrev cX4_read : ByteArray := prog_1_method_4_code
def yX4_read : MethodName := ⟨RX4, "read", "()I"⟩
abbrev cX4_drop : ByteArray := prog_1_method_5_code
def yX4_drop : MethodName := ⟨RX4, "drop", "(I)I"⟩
abbrev cX4_swap : ByteArray := prog_1_method_6_code
def yX4_swap : MethodName := ⟨RX4, "swap", "(II)I"⟩
abbrev cX4_clear : ByteArray := prog_1_method_7_code
def yX4_clear : MethodName := ⟨RX4, "clear", "()I"⟩
abbrev cX4_sortOf : ByteArray := prog_1_method_8_code
def yX4_sortOf : MethodName := ⟨RX4, "sortOf", "(II)I"⟩
abbrev cX4_word : ByteArray := prog_1_method_9_code
def yX4_word : MethodName := ⟨RX4, "word", "(II)I"⟩
abbrev cX4_line : ByteArray := prog_1_method_10_code
def yX4_line : MethodName := ⟨RX4, "line", "(III)I"⟩
abbrev cX4_lines : ByteArray := prog_1_method_11_code
def yX4_lines : MethodName := ⟨RX4, "lines", "(II)I"⟩
abbrev cX4_count : ByteArray := prog_1_method_12_code
def yX4_count : MethodName := ⟨RX4, "count", "(I)I"⟩
abbrev cX4_body : ByteArray := prog_1_method_13_code
def yX4_body : MethodName := ⟨RX4, "body", "(II)I"⟩
abbrev cX4_leastMeasure : ByteArray := prog_1_method_14_code
def yX4_leastMeasure : MethodName := ⟨RX4, "leastMeasure", "(I)I"⟩
abbrev cX4_bestShare : ByteArray := prog_1_method_15_code
def yX4_bestShare : MethodName := ⟨RX4, "bestShare", "(I)I"⟩
abbrev cX4_worstWord : ByteArray := prog_1_method_16_code
def yX4_worstWord : MethodName := ⟨RX4, "worstWord", "()I"⟩
abbrev cX4_put : ByteArray := prog_1_method_17_code
def yX4_put : MethodName := ⟨RX4, "put", "(J)I"⟩
abbrev cX4_wipe : ByteArray := prog_1_method_18_code
def yX4_wipe : MethodName := ⟨RX4, "wipe", "()I"⟩
abbrev cX4_save : ByteArray := prog_1_method_21_code
def yX4_save : MethodName := ⟨RX4, "save", "(I)I"⟩
abbrev cX4_restore : ByteArray := prog_1_method_22_code
def yX4_restore : MethodName := ⟨RX4, "restore", "(I)I"⟩
abbrev cX4_isSort : ByteArray := prog_1_method_23_code
def yX4_isSort : MethodName := ⟨RX4, "isSort", "(I)Z"⟩
abbrev cX4_isShare : ByteArray := prog_1_method_24_code
def yX4_isShare : MethodName := ⟨RX4, "isShare", "(I)Z"⟩
abbrev cX4_isWay : ByteArray := prog_1_method_25_code
def yX4_isWay : MethodName := ⟨RX4, "isWay", "(I)Z"⟩
abbrev cX4_isWord : ByteArray := prog_1_method_26_code
def yX4_isWord : MethodName := ⟨RX4, "isWord", "(I)Z"⟩
abbrev cX4_sortWith : ByteArray := prog_1_method_27_code
def yX4_sortWith : MethodName := ⟨RX4, "sortWith", "(I)I"⟩
abbrev cX4_broken : ByteArray := prog_1_method_28_code
def yX4_broken : MethodName := ⟨RX4, "broken", "(I)LHungStops$Layout;"⟩
abbrev cX4_leastBadnessOf : ByteArray := prog_1_method_29_code
def yX4_leastBadnessOf : MethodName := ⟨RX4, "leastBadnessOf", "(LHungStops$Sheet;)I"⟩
def RX5 : String := "HungStopsModel"
def TX5 : u_T := fun k => match k with
  | _ => ("", "", "", false)
def tyX5 : Nat → FieldType := fun k => match k with
  | _ => .int
theorem nmX5 : ∀ a, a < 0 → ∀ b, b < 0 → a ≠ b → (TX5 a).2.1 ≠ (TX5 b).2.1 := by decide +kernel
theorem tyX5_ok : ∀ k, k < 0 → parseFieldDescriptor (TX5 k).2.2.1 = some (tyX5 k) := by decide +kernel
def RL : String := "HungStopsLaw"
abbrev cL_cell : ByteArray := method_2_code
def yL_cell : MethodName := ⟨RL, "cell", "([II)I"⟩
abbrev cL_up : ByteArray := method_3_code
def yL_up : MethodName := ⟨RL, "up", "(II)I"⟩
abbrev cL_there : ByteArray := method_4_code
def yL_there : MethodName := ⟨RL, "there", "(I)I"⟩
abbrev cL_code : ByteArray := method_5_code
def yL_code : MethodName := ⟨RL, "code", "(I)I"⟩
abbrev cL_other : ByteArray := method_6_code
def yL_other : MethodName := ⟨RL, "other", "(I)I"⟩
abbrev cL_signOf : ByteArray := method_7_code
def yL_signOf : MethodName := ⟨RL, "signOf", "(I)I"⟩
abbrev cL_isRead : ByteArray := method_8_code
def yL_isRead : MethodName := ⟨RL, "isRead", "(LHungStops;LHungStops;II)Z"⟩
abbrev cL_isStep : ByteArray := method_9_code
def yL_isStep : MethodName := ⟨RL, "isStep", "(LHungStops;LHungStops;II)Z"⟩
abbrev cL_areAlike : ByteArray := method_10_code
def yL_areAlike : MethodName := ⟨RL, "areAlike", "(LHungStops;LHungStops;I)Z"⟩
abbrev cL_isWell : ByteArray := method_11_code
def yL_isWell : MethodName := ⟨RL, "isWell", "(LHungStops;)Z"⟩
abbrev cL_law : ByteArray := code
def yL_law : MethodName := ⟨RL, "law", "([I)Z"⟩
def gT : List Cond := lw_tbl.filter goodWord
theorem gT_mem {w : Cond} (h : w ∈ lw_tbl) (g : goodWord w = true) : w ∈ gT := List.mem_filter.mpr ⟨h, g⟩
theorem gT_i {w : Cond} (i : Nat) (h : lw_tbl[i]? = some w) (g : goodWord w = true) : w ∈ gT := gT_mem (List.mem_of_getElem? h) g
theorem gT_all : ∀ w ∈ gT, w ∈ gT ∧ ((w.onTables && w.keeps) = true ∨ ∃ ty, w = .arrayClass ty) := fun w h => ⟨h, good_of_word (List.mem_filter.mp h).2⟩
abbrev kcl : List vw_C := [(RX0, TX0, 3), (RX1, TX1, 11), (RX2, TX2, 2), (RX3, TX3, 7), (RX4, TX4, 8)]
end
section
theorem dX0_init_0 : decode cX0_init 0 = .ok (.aload_n 0, 1) := by decide +kernel
theorem dX0_init_1 : decode cX0_init 1 = .ok (.invokespecial 3, 3) := by decide +kernel
theorem dX0_init_4 : decode cX0_init 4 = .ok (.aload_n 0, 1) := by decide +kernel
theorem dX0_init_5 : decode cX0_init 5 = .ok (.bipush 6, 2) := by decide +kernel
theorem dX0_init_7 : decode cX0_init 7 = .ok (.anewarray 9, 3) := by decide +kernel
theorem dX0_init_10 : decode cX0_init 10 = .ok (.putfield 11, 3) := by decide +kernel
theorem dX0_init_13 : decode cX0_init 13 = .ok (.aload_n 0, 1) := by decide +kernel
theorem dX0_init_14 : decode cX0_init 14 = .ok (.iconst 0, 1) := by decide +kernel
theorem dX0_init_15 : decode cX0_init 15 = .ok (.putfield 17, 3) := by decide +kernel
theorem dX0_init_18 : decode cX0_init 18 = .ok (.aload_n 0, 1) := by decide +kernel
theorem dX0_init_19 : decode cX0_init 19 = .ok (.iconst 0, 1) := by decide +kernel
theorem dX0_init_20 : decode cX0_init 20 = .ok (.putfield 21, 3) := by decide +kernel
theorem dX0_init_23 : decode cX0_init 23 = .ok (.iconst 0, 1) := by decide +kernel
theorem dX0_init_24 : decode cX0_init 24 = .ok (.istore_n 1, 1) := by decide +kernel
theorem dX0_init_25 : decode cX0_init 25 = .ok (.iload_n 1, 1) := by decide +kernel
theorem dX0_init_26 : decode cX0_init 26 = .ok (.bipush 6, 2) := by decide +kernel
theorem dX0_init_28 : decode cX0_init 28 = .ok (.if_icmp .ge 22, 3) := by decide +kernel
theorem dX0_init_31 : decode cX0_init 31 = .ok (.aload_n 0, 1) := by decide +kernel
theorem dX0_init_32 : decode cX0_init 32 = .ok (.getfield 11, 3) := by decide +kernel
theorem dX0_init_35 : decode cX0_init 35 = .ok (.iload_n 1, 1) := by decide +kernel
theorem dX0_init_36 : decode cX0_init 36 = .ok (.new 9, 3) := by decide +kernel
theorem dX0_init_39 : decode cX0_init 39 = .ok (.dup, 1) := by decide +kernel
theorem dX0_init_40 : decode cX0_init 40 = .ok (.invokespecial 24, 3) := by decide +kernel
theorem dX0_init_43 : decode cX0_init 43 = .ok (.aastore, 1) := by decide +kernel
theorem dX0_init_44 : decode cX0_init 44 = .ok (.iinc 1 1, 3) := by decide +kernel
theorem dX0_init_47 : decode cX0_init 47 = .ok (.goto (-22), 3) := by decide +kernel
theorem dX0_init_50 : decode cX0_init 50 = .ok (.return_, 1) := by decide +kernel
theorem dX0_record_0 : decode cX0_record 0 = .ok (.aload_n 0, 1) := by decide +kernel
theorem dX0_record_1 : decode cX0_record 1 = .ok (.getfield 11, 3) := by decide +kernel
theorem dX0_record_4 : decode cX0_record 4 = .ok (.aload_n 0, 1) := by decide +kernel
theorem dX0_record_5 : decode cX0_record 5 = .ok (.getfield 17, 3) := by decide +kernel
theorem dX0_record_8 : decode cX0_record 8 = .ok (.aaload, 1) := by decide +kernel
theorem dX0_record_9 : decode cX0_record 9 = .ok (.aload_n 1, 1) := by decide +kernel
theorem dX0_record_10 : decode cX0_record 10 = .ok (.invokevirtual 25, 3) := by decide +kernel
theorem dX0_record_13 : decode cX0_record 13 = .ok (.aload_n 0, 1) := by decide +kernel
theorem dX0_record_14 : decode cX0_record 14 = .ok (.aload_n 0, 1) := by decide +kernel
theorem dX0_record_15 : decode cX0_record 15 = .ok (.getfield 17, 3) := by decide +kernel
theorem dX0_record_18 : decode cX0_record 18 = .ok (.iconst 1, 1) := by decide +kernel
theorem dX0_record_19 : decode cX0_record 19 = .ok (.iadd, 1) := by decide +kernel
theorem dX0_record_20 : decode cX0_record 20 = .ok (.bipush 6, 2) := by decide +kernel
theorem dX0_record_22 : decode cX0_record 22 = .ok (.irem, 1) := by decide +kernel
theorem dX0_record_23 : decode cX0_record 23 = .ok (.putfield 17, 3) := by decide +kernel
theorem dX0_record_26 : decode cX0_record 26 = .ok (.aload_n 0, 1) := by decide +kernel
theorem dX0_record_27 : decode cX0_record 27 = .ok (.getfield 21, 3) := by decide +kernel
theorem dX0_record_30 : decode cX0_record 30 = .ok (.bipush 6, 2) := by decide +kernel
theorem dX0_record_32 : decode cX0_record 32 = .ok (.if_icmp .ge 13, 3) := by decide +kernel
theorem dX0_record_35 : decode cX0_record 35 = .ok (.aload_n 0, 1) := by decide +kernel
theorem dX0_record_36 : decode cX0_record 36 = .ok (.dup, 1) := by decide +kernel
theorem dX0_record_37 : decode cX0_record 37 = .ok (.getfield 21, 3) := by decide +kernel
theorem dX0_record_40 : decode cX0_record 40 = .ok (.iconst 1, 1) := by decide +kernel
theorem dX0_record_41 : decode cX0_record 41 = .ok (.iadd, 1) := by decide +kernel
theorem dX0_record_42 : decode cX0_record 42 = .ok (.putfield 21, 3) := by decide +kernel
theorem dX0_record_45 : decode cX0_record 45 = .ok (.return_, 1) := by decide +kernel
theorem dX1_init_0 : decode cX1_init 0 = .ok (.aload_n 0, 1) := by decide +kernel
theorem dX1_init_1 : decode cX1_init 1 = .ok (.invokespecial 3, 3) := by decide +kernel
theorem dX1_init_4 : decode cX1_init 4 = .ok (.aload_n 0, 1) := by decide +kernel
theorem dX1_init_5 : decode cX1_init 5 = .ok (.bipush 25, 2) := by decide +kernel
theorem dX1_init_7 : decode cX1_init 7 = .ok (.newarray .int, 2) := by decide +kernel
theorem dX1_init_9 : decode cX1_init 9 = .ok (.putfield 9, 3) := by decide +kernel
theorem dX1_init_12 : decode cX1_init 12 = .ok (.aload_n 0, 1) := by decide +kernel
theorem dX1_init_13 : decode cX1_init 13 = .ok (.bipush 24, 2) := by decide +kernel
theorem dX1_init_15 : decode cX1_init 15 = .ok (.newarray .int, 2) := by decide +kernel
theorem dX1_init_17 : decode cX1_init 17 = .ok (.putfield 15, 3) := by decide +kernel
theorem dX1_init_20 : decode cX1_init 20 = .ok (.aload_n 0, 1) := by decide +kernel
theorem dX1_init_21 : decode cX1_init 21 = .ok (.bipush 24, 2) := by decide +kernel
theorem dX1_init_23 : decode cX1_init 23 = .ok (.newarray .int, 2) := by decide +kernel
theorem dX1_init_25 : decode cX1_init 25 = .ok (.putfield 18, 3) := by decide +kernel
theorem dX1_init_28 : decode cX1_init 28 = .ok (.aload_n 0, 1) := by decide +kernel
theorem dX1_init_29 : decode cX1_init 29 = .ok (.iconst 0, 1) := by decide +kernel
theorem dX1_init_30 : decode cX1_init 30 = .ok (.putfield 21, 3) := by decide +kernel
theorem dX1_init_33 : decode cX1_init 33 = .ok (.aload_n 0, 1) := by decide +kernel
theorem dX1_init_34 : decode cX1_init 34 = .ok (.iconst 0, 1) := by decide +kernel
theorem dX1_init_35 : decode cX1_init 35 = .ok (.putfield 25, 3) := by decide +kernel
theorem dX1_init_38 : decode cX1_init 38 = .ok (.aload_n 0, 1) := by decide +kernel
theorem dX1_init_39 : decode cX1_init 39 = .ok (.iconst 0, 1) := by decide +kernel
theorem dX1_init_40 : decode cX1_init 40 = .ok (.putfield 28, 3) := by decide +kernel
theorem dX1_init_43 : decode cX1_init 43 = .ok (.aload_n 0, 1) := by decide +kernel
theorem dX1_init_44 : decode cX1_init 44 = .ok (.iconst 0, 1) := by decide +kernel
theorem dX1_init_45 : decode cX1_init 45 = .ok (.putfield 31, 3) := by decide +kernel
theorem dX1_init_48 : decode cX1_init 48 = .ok (.aload_n 0, 1) := by decide +kernel
theorem dX1_init_49 : decode cX1_init 49 = .ok (.bipush 25, 2) := by decide +kernel
theorem dX1_init_51 : decode cX1_init 51 = .ok (.newarray .int, 2) := by decide +kernel
theorem dX1_init_53 : decode cX1_init 53 = .ok (.putfield 34, 3) := by decide +kernel
theorem dX1_init_56 : decode cX1_init 56 = .ok (.aload_n 0, 1) := by decide +kernel
theorem dX1_init_57 : decode cX1_init 57 = .ok (.iconst 0, 1) := by decide +kernel
theorem dX1_init_58 : decode cX1_init 58 = .ok (.putfield 37, 3) := by decide +kernel
theorem dX1_init_61 : decode cX1_init 61 = .ok (.aload_n 0, 1) := by decide +kernel
theorem dX1_init_62 : decode cX1_init 62 = .ok (.bipush 25, 2) := by decide +kernel
theorem dX1_init_64 : decode cX1_init 64 = .ok (.newarray .int, 2) := by decide +kernel
theorem dX1_init_66 : decode cX1_init 66 = .ok (.putfield 40, 3) := by decide +kernel
theorem dX1_init_69 : decode cX1_init 69 = .ok (.aload_n 0, 1) := by decide +kernel
theorem dX1_init_70 : decode cX1_init 70 = .ok (.bipush 24, 2) := by decide +kernel
theorem dX1_init_72 : decode cX1_init 72 = .ok (.newarray .int, 2) := by decide +kernel
theorem dX1_init_74 : decode cX1_init 74 = .ok (.putfield 43, 3) := by decide +kernel
theorem dX1_init_77 : decode cX1_init 77 = .ok (.return_, 1) := by decide +kernel
theorem dX1_weigh_0 : decode cX1_weigh 0 = .ok (.aload_n 0, 1) := by decide +kernel
theorem dX1_weigh_1 : decode cX1_weigh 1 = .ok (.aload_n 1, 1) := by decide +kernel
theorem dX1_weigh_2 : decode cX1_weigh 2 = .ok (.getfield 46, 3) := by decide +kernel
theorem dX1_weigh_5 : decode cX1_weigh 5 = .ok (.putfield 21, 3) := by decide +kernel
theorem dX1_weigh_8 : decode cX1_weigh 8 = .ok (.aload_n 0, 1) := by decide +kernel
theorem dX1_weigh_9 : decode cX1_weigh 9 = .ok (.aload_n 1, 1) := by decide +kernel
theorem dX1_weigh_10 : decode cX1_weigh 10 = .ok (.getfield 49, 3) := by decide +kernel
theorem dX1_weigh_13 : decode cX1_weigh 13 = .ok (.iconst 0, 1) := by decide +kernel
theorem dX1_weigh_14 : decode cX1_weigh 14 = .ok (.iaload, 1) := by decide +kernel
theorem dX1_weigh_15 : decode cX1_weigh 15 = .ok (.putfield 25, 3) := by decide +kernel
theorem dX1_weigh_18 : decode cX1_weigh 18 = .ok (.aload_n 0, 1) := by decide +kernel
theorem dX1_weigh_19 : decode cX1_weigh 19 = .ok (.aload_n 1, 1) := by decide +kernel
theorem dX1_weigh_20 : decode cX1_weigh 20 = .ok (.getfield 49, 3) := by decide +kernel
theorem dX1_weigh_23 : decode cX1_weigh 23 = .ok (.iconst 1, 1) := by decide +kernel
theorem dX1_weigh_24 : decode cX1_weigh 24 = .ok (.iaload, 1) := by decide +kernel
theorem dX1_weigh_25 : decode cX1_weigh 25 = .ok (.putfield 28, 3) := by decide +kernel
theorem dX1_weigh_28 : decode cX1_weigh 28 = .ok (.aload_n 0, 1) := by decide +kernel
theorem dX1_weigh_29 : decode cX1_weigh 29 = .ok (.aload_n 1, 1) := by decide +kernel
theorem dX1_weigh_30 : decode cX1_weigh 30 = .ok (.getfield 49, 3) := by decide +kernel
theorem dX1_weigh_33 : decode cX1_weigh 33 = .ok (.iconst 2, 1) := by decide +kernel
theorem dX1_weigh_34 : decode cX1_weigh 34 = .ok (.iaload, 1) := by decide +kernel
theorem dX1_weigh_35 : decode cX1_weigh 35 = .ok (.putfield 31, 3) := by decide +kernel
theorem dX1_weigh_38 : decode cX1_weigh 38 = .ok (.aload_n 0, 1) := by decide +kernel
theorem dX1_weigh_39 : decode cX1_weigh 39 = .ok (.getfield 9, 3) := by decide +kernel
theorem dX1_weigh_42 : decode cX1_weigh 42 = .ok (.iconst 0, 1) := by decide +kernel
theorem dX1_weigh_43 : decode cX1_weigh 43 = .ok (.iconst 0, 1) := by decide +kernel
theorem dX1_weigh_44 : decode cX1_weigh 44 = .ok (.iastore, 1) := by decide +kernel
theorem dX1_weigh_45 : decode cX1_weigh 45 = .ok (.iconst 0, 1) := by decide +kernel
theorem dX1_weigh_46 : decode cX1_weigh 46 = .ok (.istore_n 2, 1) := by decide +kernel
theorem dX1_weigh_47 : decode cX1_weigh 47 = .ok (.iload_n 2, 1) := by decide +kernel
theorem dX1_weigh_48 : decode cX1_weigh 48 = .ok (.aload_n 0, 1) := by decide +kernel
theorem dX1_weigh_49 : decode cX1_weigh 49 = .ok (.getfield 21, 3) := by decide +kernel
theorem dX1_weigh_52 : decode cX1_weigh 52 = .ok (.if_icmp .ge 56, 3) := by decide +kernel
theorem dX1_weigh_55 : decode cX1_weigh 55 = .ok (.aload_n 0, 1) := by decide +kernel
theorem dX1_weigh_56 : decode cX1_weigh 56 = .ok (.getfield 9, 3) := by decide +kernel
theorem dX1_weigh_59 : decode cX1_weigh 59 = .ok (.iload_n 2, 1) := by decide +kernel
theorem dX1_weigh_60 : decode cX1_weigh 60 = .ok (.iconst 1, 1) := by decide +kernel
theorem dX1_weigh_61 : decode cX1_weigh 61 = .ok (.iadd, 1) := by decide +kernel
theorem dX1_weigh_62 : decode cX1_weigh 62 = .ok (.aload_n 0, 1) := by decide +kernel
theorem dX1_weigh_63 : decode cX1_weigh 63 = .ok (.getfield 9, 3) := by decide +kernel
theorem dX1_weigh_66 : decode cX1_weigh 66 = .ok (.iload_n 2, 1) := by decide +kernel
theorem dX1_weigh_67 : decode cX1_weigh 67 = .ok (.iaload, 1) := by decide +kernel
theorem dX1_weigh_68 : decode cX1_weigh 68 = .ok (.aload_n 1, 1) := by decide +kernel
theorem dX1_weigh_69 : decode cX1_weigh 69 = .ok (.iload_n 2, 1) := by decide +kernel
theorem dX1_weigh_70 : decode cX1_weigh 70 = .ok (.invokevirtual 52, 3) := by decide +kernel
theorem dX1_weigh_73 : decode cX1_weigh 73 = .ok (.iadd, 1) := by decide +kernel
theorem dX1_weigh_74 : decode cX1_weigh 74 = .ok (.aload_n 0, 1) := by decide +kernel
theorem dX1_weigh_75 : decode cX1_weigh 75 = .ok (.getfield 28, 3) := by decide +kernel
theorem dX1_weigh_78 : decode cX1_weigh 78 = .ok (.iadd, 1) := by decide +kernel
theorem dX1_weigh_79 : decode cX1_weigh 79 = .ok (.iastore, 1) := by decide +kernel
theorem dX1_weigh_80 : decode cX1_weigh 80 = .ok (.aload_n 0, 1) := by decide +kernel
theorem dX1_weigh_81 : decode cX1_weigh 81 = .ok (.getfield 15, 3) := by decide +kernel
theorem dX1_weigh_84 : decode cX1_weigh 84 = .ok (.iload_n 2, 1) := by decide +kernel
theorem dX1_weigh_85 : decode cX1_weigh 85 = .ok (.aload_n 1, 1) := by decide +kernel
theorem dX1_weigh_86 : decode cX1_weigh 86 = .ok (.iload_n 2, 1) := by decide +kernel
theorem dX1_weigh_87 : decode cX1_weigh 87 = .ok (.invokevirtual 56, 3) := by decide +kernel
theorem dX1_weigh_90 : decode cX1_weigh 90 = .ok (.iastore, 1) := by decide +kernel
theorem dX1_weigh_91 : decode cX1_weigh 91 = .ok (.aload_n 0, 1) := by decide +kernel
theorem dX1_weigh_92 : decode cX1_weigh 92 = .ok (.getfield 18, 3) := by decide +kernel
theorem dX1_weigh_95 : decode cX1_weigh 95 = .ok (.iload_n 2, 1) := by decide +kernel
theorem dX1_weigh_96 : decode cX1_weigh 96 = .ok (.aload_n 1, 1) := by decide +kernel
theorem dX1_weigh_97 : decode cX1_weigh 97 = .ok (.iload_n 2, 1) := by decide +kernel
theorem dX1_weigh_98 : decode cX1_weigh 98 = .ok (.invokevirtual 59, 3) := by decide +kernel
theorem dX1_weigh_101 : decode cX1_weigh 101 = .ok (.iastore, 1) := by decide +kernel
theorem dX1_weigh_102 : decode cX1_weigh 102 = .ok (.iinc 2 1, 3) := by decide +kernel
theorem dX1_weigh_105 : decode cX1_weigh 105 = .ok (.goto (-58), 3) := by decide +kernel
theorem dX1_weigh_108 : decode cX1_weigh 108 = .ok (.return_, 1) := by decide +kernel
theorem dX1_widthFrom_0 : decode cX1_widthFrom 0 = .ok (.aload_n 0, 1) := by decide +kernel
theorem dX1_widthFrom_1 : decode cX1_widthFrom 1 = .ok (.getfield 9, 3) := by decide +kernel
theorem dX1_widthFrom_4 : decode cX1_widthFrom 4 = .ok (.iload_n 2, 1) := by decide +kernel
theorem dX1_widthFrom_5 : decode cX1_widthFrom 5 = .ok (.iconst 1, 1) := by decide +kernel
theorem dX1_widthFrom_6 : decode cX1_widthFrom 6 = .ok (.iadd, 1) := by decide +kernel
theorem dX1_widthFrom_7 : decode cX1_widthFrom 7 = .ok (.iaload, 1) := by decide +kernel
theorem dX1_widthFrom_8 : decode cX1_widthFrom 8 = .ok (.aload_n 0, 1) := by decide +kernel
theorem dX1_widthFrom_9 : decode cX1_widthFrom 9 = .ok (.getfield 9, 3) := by decide +kernel
theorem dX1_widthFrom_12 : decode cX1_widthFrom 12 = .ok (.iload_n 1, 1) := by decide +kernel
theorem dX1_widthFrom_13 : decode cX1_widthFrom 13 = .ok (.iaload, 1) := by decide +kernel
theorem dX1_widthFrom_14 : decode cX1_widthFrom 14 = .ok (.isub, 1) := by decide +kernel
theorem dX1_widthFrom_15 : decode cX1_widthFrom 15 = .ok (.aload_n 0, 1) := by decide +kernel
theorem dX1_widthFrom_16 : decode cX1_widthFrom 16 = .ok (.getfield 28, 3) := by decide +kernel
theorem dX1_widthFrom_19 : decode cX1_widthFrom 19 = .ok (.isub, 1) := by decide +kernel
theorem dX1_widthFrom_20 : decode cX1_widthFrom 20 = .ok (.ireturn, 1) := by decide +kernel
theorem dX1_bodyOf_0 : decode cX1_bodyOf 0 = .ok (.aload_n 0, 1) := by decide +kernel
theorem dX1_bodyOf_1 : decode cX1_bodyOf 1 = .ok (.iload_n 1, 1) := by decide +kernel
theorem dX1_bodyOf_2 : decode cX1_bodyOf 2 = .ok (.iload_n 2, 1) := by decide +kernel
theorem dX1_bodyOf_3 : decode cX1_bodyOf 3 = .ok (.invokevirtual 62, 3) := by decide +kernel
theorem dX1_bodyOf_6 : decode cX1_bodyOf 6 = .ok (.aload_n 0, 1) := by decide +kernel
theorem dX1_bodyOf_7 : decode cX1_bodyOf 7 = .ok (.getfield 15, 3) := by decide +kernel
theorem dX1_bodyOf_10 : decode cX1_bodyOf 10 = .ok (.iload_n 1, 1) := by decide +kernel
theorem dX1_bodyOf_11 : decode cX1_bodyOf 11 = .ok (.iaload, 1) := by decide +kernel
theorem dX1_bodyOf_12 : decode cX1_bodyOf 12 = .ok (.isub, 1) := by decide +kernel
theorem dX1_bodyOf_13 : decode cX1_bodyOf 13 = .ok (.aload_n 0, 1) := by decide +kernel
theorem dX1_bodyOf_14 : decode cX1_bodyOf 14 = .ok (.getfield 18, 3) := by decide +kernel
theorem dX1_bodyOf_17 : decode cX1_bodyOf 17 = .ok (.iload_n 2, 1) := by decide +kernel
theorem dX1_bodyOf_18 : decode cX1_bodyOf 18 = .ok (.iaload, 1) := by decide +kernel
theorem dX1_bodyOf_19 : decode cX1_bodyOf 19 = .ok (.isub, 1) := by decide +kernel
theorem dX1_bodyOf_20 : decode cX1_bodyOf 20 = .ok (.ireturn, 1) := by decide +kernel
theorem dX1_fillGreedily_0 : decode cX1_fillGreedily 0 = .ok (.aload_n 0, 1) := by decide +kernel
theorem dX1_fillGreedily_1 : decode cX1_fillGreedily 1 = .ok (.iconst 0, 1) := by decide +kernel
theorem dX1_fillGreedily_2 : decode cX1_fillGreedily 2 = .ok (.putfield 37, 3) := by decide +kernel
theorem dX1_fillGreedily_5 : decode cX1_fillGreedily 5 = .ok (.iconst 0, 1) := by decide +kernel
theorem dX1_fillGreedily_6 : decode cX1_fillGreedily 6 = .ok (.istore_n 1, 1) := by decide +kernel
theorem dX1_fillGreedily_7 : decode cX1_fillGreedily 7 = .ok (.iload_n 1, 1) := by decide +kernel
theorem dX1_fillGreedily_8 : decode cX1_fillGreedily 8 = .ok (.aload_n 0, 1) := by decide +kernel
theorem dX1_fillGreedily_9 : decode cX1_fillGreedily 9 = .ok (.getfield 21, 3) := by decide +kernel
theorem dX1_fillGreedily_12 : decode cX1_fillGreedily 12 = .ok (.if_icmp .ge 59, 3) := by decide +kernel
theorem dX1_fillGreedily_15 : decode cX1_fillGreedily 15 = .ok (.aload_n 0, 1) := by decide +kernel
theorem dX1_fillGreedily_16 : decode cX1_fillGreedily 16 = .ok (.getfield 37, 3) := by decide +kernel
theorem dX1_fillGreedily_19 : decode cX1_fillGreedily 19 = .ok (.ifCond .eq 26, 3) := by decide +kernel
theorem dX1_fillGreedily_22 : decode cX1_fillGreedily 22 = .ok (.aload_n 0, 1) := by decide +kernel
theorem dX1_fillGreedily_23 : decode cX1_fillGreedily 23 = .ok (.aload_n 0, 1) := by decide +kernel
theorem dX1_fillGreedily_24 : decode cX1_fillGreedily 24 = .ok (.getfield 34, 3) := by decide +kernel
theorem dX1_fillGreedily_27 : decode cX1_fillGreedily 27 = .ok (.aload_n 0, 1) := by decide +kernel
theorem dX1_fillGreedily_28 : decode cX1_fillGreedily 28 = .ok (.getfield 37, 3) := by decide +kernel
theorem dX1_fillGreedily_31 : decode cX1_fillGreedily 31 = .ok (.iconst 1, 1) := by decide +kernel
theorem dX1_fillGreedily_32 : decode cX1_fillGreedily 32 = .ok (.isub, 1) := by decide +kernel
theorem dX1_fillGreedily_33 : decode cX1_fillGreedily 33 = .ok (.iaload, 1) := by decide +kernel
theorem dX1_fillGreedily_34 : decode cX1_fillGreedily 34 = .ok (.iload_n 1, 1) := by decide +kernel
theorem dX1_fillGreedily_35 : decode cX1_fillGreedily 35 = .ok (.invokevirtual 66, 3) := by decide +kernel
theorem dX1_fillGreedily_38 : decode cX1_fillGreedily 38 = .ok (.aload_n 0, 1) := by decide +kernel
theorem dX1_fillGreedily_39 : decode cX1_fillGreedily 39 = .ok (.getfield 25, 3) := by decide +kernel
theorem dX1_fillGreedily_42 : decode cX1_fillGreedily 42 = .ok (.if_icmp .le 23, 3) := by decide +kernel
theorem dX1_fillGreedily_45 : decode cX1_fillGreedily 45 = .ok (.aload_n 0, 1) := by decide +kernel
theorem dX1_fillGreedily_46 : decode cX1_fillGreedily 46 = .ok (.getfield 34, 3) := by decide +kernel
theorem dX1_fillGreedily_49 : decode cX1_fillGreedily 49 = .ok (.aload_n 0, 1) := by decide +kernel
theorem dX1_fillGreedily_50 : decode cX1_fillGreedily 50 = .ok (.getfield 37, 3) := by decide +kernel
theorem dX1_fillGreedily_53 : decode cX1_fillGreedily 53 = .ok (.iload_n 1, 1) := by decide +kernel
theorem dX1_fillGreedily_54 : decode cX1_fillGreedily 54 = .ok (.iastore, 1) := by decide +kernel
theorem dX1_fillGreedily_55 : decode cX1_fillGreedily 55 = .ok (.aload_n 0, 1) := by decide +kernel
theorem dX1_fillGreedily_56 : decode cX1_fillGreedily 56 = .ok (.dup, 1) := by decide +kernel
theorem dX1_fillGreedily_57 : decode cX1_fillGreedily 57 = .ok (.getfield 37, 3) := by decide +kernel
theorem dX1_fillGreedily_60 : decode cX1_fillGreedily 60 = .ok (.iconst 1, 1) := by decide +kernel
theorem dX1_fillGreedily_61 : decode cX1_fillGreedily 61 = .ok (.iadd, 1) := by decide +kernel
theorem dX1_fillGreedily_62 : decode cX1_fillGreedily 62 = .ok (.putfield 37, 3) := by decide +kernel
theorem dX1_fillGreedily_65 : decode cX1_fillGreedily 65 = .ok (.iinc 1 1, 3) := by decide +kernel
theorem dX1_fillGreedily_68 : decode cX1_fillGreedily 68 = .ok (.goto (-61), 3) := by decide +kernel
theorem dX1_fillGreedily_71 : decode cX1_fillGreedily 71 = .ok (.aload_n 0, 1) := by decide +kernel
theorem dX1_fillGreedily_72 : decode cX1_fillGreedily 72 = .ok (.getfield 34, 3) := by decide +kernel
theorem dX1_fillGreedily_75 : decode cX1_fillGreedily 75 = .ok (.aload_n 0, 1) := by decide +kernel
theorem dX1_fillGreedily_76 : decode cX1_fillGreedily 76 = .ok (.getfield 37, 3) := by decide +kernel
theorem dX1_fillGreedily_79 : decode cX1_fillGreedily 79 = .ok (.aload_n 0, 1) := by decide +kernel
theorem dX1_fillGreedily_80 : decode cX1_fillGreedily 80 = .ok (.getfield 21, 3) := by decide +kernel
theorem dX1_fillGreedily_83 : decode cX1_fillGreedily 83 = .ok (.iastore, 1) := by decide +kernel
theorem dX1_fillGreedily_84 : decode cX1_fillGreedily 84 = .ok (.return_, 1) := by decide +kernel
theorem dX1_breakBest_0 : decode cX1_breakBest 0 = .ok (.aload_n 0, 1) := by decide +kernel
theorem dX1_breakBest_1 : decode cX1_breakBest 1 = .ok (.invokevirtual 69, 3) := by decide +kernel
theorem dX1_breakBest_4 : decode cX1_breakBest 4 = .ok (.pop, 1) := by decide +kernel
theorem dX1_breakBest_5 : decode cX1_breakBest 5 = .ok (.aload_n 0, 1) := by decide +kernel
theorem dX1_breakBest_6 : decode cX1_breakBest 6 = .ok (.iconst 0, 1) := by decide +kernel
theorem dX1_breakBest_7 : decode cX1_breakBest 7 = .ok (.putfield 37, 3) := by decide +kernel
theorem dX1_breakBest_10 : decode cX1_breakBest 10 = .ok (.iconst 0, 1) := by decide +kernel
theorem dX1_breakBest_11 : decode cX1_breakBest 11 = .ok (.istore_n 1, 1) := by decide +kernel
theorem dX1_breakBest_12 : decode cX1_breakBest 12 = .ok (.iconst 0, 1) := by decide +kernel
theorem dX1_breakBest_13 : decode cX1_breakBest 13 = .ok (.istore_n 2, 1) := by decide +kernel
theorem dX1_breakBest_14 : decode cX1_breakBest 14 = .ok (.iload_n 2, 1) := by decide +kernel
theorem dX1_breakBest_15 : decode cX1_breakBest 15 = .ok (.aload_n 0, 1) := by decide +kernel
theorem dX1_breakBest_16 : decode cX1_breakBest 16 = .ok (.getfield 21, 3) := by decide +kernel
theorem dX1_breakBest_19 : decode cX1_breakBest 19 = .ok (.if_icmp .ge 41, 3) := by decide +kernel
theorem dX1_breakBest_22 : decode cX1_breakBest 22 = .ok (.iload_n 2, 1) := by decide +kernel
theorem dX1_breakBest_23 : decode cX1_breakBest 23 = .ok (.iload_n 1, 1) := by decide +kernel
theorem dX1_breakBest_24 : decode cX1_breakBest 24 = .ok (.if_icmp .ne 30, 3) := by decide +kernel
theorem dX1_breakBest_27 : decode cX1_breakBest 27 = .ok (.aload_n 0, 1) := by decide +kernel
theorem dX1_breakBest_28 : decode cX1_breakBest 28 = .ok (.getfield 34, 3) := by decide +kernel
theorem dX1_breakBest_31 : decode cX1_breakBest 31 = .ok (.aload_n 0, 1) := by decide +kernel
theorem dX1_breakBest_32 : decode cX1_breakBest 32 = .ok (.getfield 37, 3) := by decide +kernel
theorem dX1_breakBest_35 : decode cX1_breakBest 35 = .ok (.iload_n 2, 1) := by decide +kernel
theorem dX1_breakBest_36 : decode cX1_breakBest 36 = .ok (.iastore, 1) := by decide +kernel
theorem dX1_breakBest_37 : decode cX1_breakBest 37 = .ok (.aload_n 0, 1) := by decide +kernel
theorem dX1_breakBest_38 : decode cX1_breakBest 38 = .ok (.dup, 1) := by decide +kernel
theorem dX1_breakBest_39 : decode cX1_breakBest 39 = .ok (.getfield 37, 3) := by decide +kernel
theorem dX1_breakBest_42 : decode cX1_breakBest 42 = .ok (.iconst 1, 1) := by decide +kernel
theorem dX1_breakBest_43 : decode cX1_breakBest 43 = .ok (.iadd, 1) := by decide +kernel
theorem dX1_breakBest_44 : decode cX1_breakBest 44 = .ok (.putfield 37, 3) := by decide +kernel
theorem dX1_breakBest_47 : decode cX1_breakBest 47 = .ok (.aload_n 0, 1) := by decide +kernel
theorem dX1_breakBest_48 : decode cX1_breakBest 48 = .ok (.getfield 43, 3) := by decide +kernel
theorem dX1_breakBest_51 : decode cX1_breakBest 51 = .ok (.iload_n 2, 1) := by decide +kernel
theorem dX1_breakBest_52 : decode cX1_breakBest 52 = .ok (.iaload, 1) := by decide +kernel
theorem dX1_breakBest_53 : decode cX1_breakBest 53 = .ok (.istore_n 1, 1) := by decide +kernel
theorem dX1_breakBest_54 : decode cX1_breakBest 54 = .ok (.iinc 2 1, 3) := by decide +kernel
theorem dX1_breakBest_57 : decode cX1_breakBest 57 = .ok (.goto (-43), 3) := by decide +kernel
theorem dX1_breakBest_60 : decode cX1_breakBest 60 = .ok (.aload_n 0, 1) := by decide +kernel
theorem dX1_breakBest_61 : decode cX1_breakBest 61 = .ok (.getfield 34, 3) := by decide +kernel
theorem dX1_breakBest_64 : decode cX1_breakBest 64 = .ok (.aload_n 0, 1) := by decide +kernel
theorem dX1_breakBest_65 : decode cX1_breakBest 65 = .ok (.getfield 37, 3) := by decide +kernel
theorem dX1_breakBest_68 : decode cX1_breakBest 68 = .ok (.aload_n 0, 1) := by decide +kernel
theorem dX1_breakBest_69 : decode cX1_breakBest 69 = .ok (.getfield 21, 3) := by decide +kernel
theorem dX1_breakBest_72 : decode cX1_breakBest 72 = .ok (.iastore, 1) := by decide +kernel
theorem dX1_breakBest_73 : decode cX1_breakBest 73 = .ok (.return_, 1) := by decide +kernel
theorem dX1_leastBadness_0 : decode cX1_leastBadness 0 = .ok (.aload_n 0, 1) := by decide +kernel
theorem dX1_leastBadness_1 : decode cX1_leastBadness 1 = .ok (.getfield 40, 3) := by decide +kernel
theorem dX1_leastBadness_4 : decode cX1_leastBadness 4 = .ok (.aload_n 0, 1) := by decide +kernel
theorem dX1_leastBadness_5 : decode cX1_leastBadness 5 = .ok (.getfield 21, 3) := by decide +kernel
theorem dX1_leastBadness_8 : decode cX1_leastBadness 8 = .ok (.iconst 0, 1) := by decide +kernel
theorem dX1_leastBadness_9 : decode cX1_leastBadness 9 = .ok (.iastore, 1) := by decide +kernel
theorem dX1_leastBadness_10 : decode cX1_leastBadness 10 = .ok (.aload_n 0, 1) := by decide +kernel
theorem dX1_leastBadness_11 : decode cX1_leastBadness 11 = .ok (.getfield 21, 3) := by decide +kernel
theorem dX1_leastBadness_14 : decode cX1_leastBadness 14 = .ok (.iconst 1, 1) := by decide +kernel
theorem dX1_leastBadness_15 : decode cX1_leastBadness 15 = .ok (.isub, 1) := by decide +kernel
theorem dX1_leastBadness_16 : decode cX1_leastBadness 16 = .ok (.istore_n 1, 1) := by decide +kernel
theorem dX1_leastBadness_17 : decode cX1_leastBadness 17 = .ok (.iload_n 1, 1) := by decide +kernel
theorem dX1_leastBadness_18 : decode cX1_leastBadness 18 = .ok (.ifCond .lt 14, 3) := by decide +kernel
theorem dX1_leastBadness_21 : decode cX1_leastBadness 21 = .ok (.aload_n 0, 1) := by decide +kernel
theorem dX1_leastBadness_22 : decode cX1_leastBadness 22 = .ok (.iload_n 1, 1) := by decide +kernel
theorem dX1_leastBadness_23 : decode cX1_leastBadness 23 = .ok (.invokevirtual 73, 3) := by decide +kernel
theorem dX1_leastBadness_26 : decode cX1_leastBadness 26 = .ok (.iinc 1 (-1), 3) := by decide +kernel
theorem dX1_leastBadness_29 : decode cX1_leastBadness 29 = .ok (.goto (-12), 3) := by decide +kernel
theorem dX1_leastBadness_32 : decode cX1_leastBadness 32 = .ok (.aload_n 0, 1) := by decide +kernel
theorem dX1_leastBadness_33 : decode cX1_leastBadness 33 = .ok (.getfield 40, 3) := by decide +kernel
theorem dX1_leastBadness_36 : decode cX1_leastBadness 36 = .ok (.iconst 0, 1) := by decide +kernel
theorem dX1_leastBadness_37 : decode cX1_leastBadness 37 = .ok (.iaload, 1) := by decide +kernel
theorem dX1_leastBadness_38 : decode cX1_leastBadness 38 = .ok (.ireturn, 1) := by decide +kernel
theorem dX1_findFirstLine_0 : decode cX1_findFirstLine 0 = .ok (.aload_n 0, 1) := by decide +kernel
theorem dX1_findFirstLine_1 : decode cX1_findFirstLine 1 = .ok (.getfield 40, 3) := by decide +kernel
theorem dX1_findFirstLine_4 : decode cX1_findFirstLine 4 = .ok (.iload_n 1, 1) := by decide +kernel
theorem dX1_findFirstLine_5 : decode cX1_findFirstLine 5 = .ok (.aload_n 0, 1) := by decide +kernel
theorem dX1_findFirstLine_6 : decode cX1_findFirstLine 6 = .ok (.iload_n 1, 1) := by decide +kernel
theorem dX1_findFirstLine_7 : decode cX1_findFirstLine 7 = .ok (.iload_n 1, 1) := by decide +kernel
theorem dX1_findFirstLine_8 : decode cX1_findFirstLine 8 = .ok (.invokevirtual 77, 3) := by decide +kernel
theorem dX1_findFirstLine_11 : decode cX1_findFirstLine 11 = .ok (.aload_n 0, 1) := by decide +kernel
theorem dX1_findFirstLine_12 : decode cX1_findFirstLine 12 = .ok (.getfield 40, 3) := by decide +kernel
theorem dX1_findFirstLine_15 : decode cX1_findFirstLine 15 = .ok (.iload_n 1, 1) := by decide +kernel
theorem dX1_findFirstLine_16 : decode cX1_findFirstLine 16 = .ok (.iconst 1, 1) := by decide +kernel
theorem dX1_findFirstLine_17 : decode cX1_findFirstLine 17 = .ok (.iadd, 1) := by decide +kernel
theorem dX1_findFirstLine_18 : decode cX1_findFirstLine 18 = .ok (.iaload, 1) := by decide +kernel
theorem dX1_findFirstLine_19 : decode cX1_findFirstLine 19 = .ok (.iadd, 1) := by decide +kernel
theorem dX1_findFirstLine_20 : decode cX1_findFirstLine 20 = .ok (.iastore, 1) := by decide +kernel
theorem dX1_findFirstLine_21 : decode cX1_findFirstLine 21 = .ok (.aload_n 0, 1) := by decide +kernel
theorem dX1_findFirstLine_22 : decode cX1_findFirstLine 22 = .ok (.getfield 43, 3) := by decide +kernel
theorem dX1_findFirstLine_25 : decode cX1_findFirstLine 25 = .ok (.iload_n 1, 1) := by decide +kernel
theorem dX1_findFirstLine_26 : decode cX1_findFirstLine 26 = .ok (.iload_n 1, 1) := by decide +kernel
theorem dX1_findFirstLine_27 : decode cX1_findFirstLine 27 = .ok (.iconst 1, 1) := by decide +kernel
theorem dX1_findFirstLine_28 : decode cX1_findFirstLine 28 = .ok (.iadd, 1) := by decide +kernel
theorem dX1_findFirstLine_29 : decode cX1_findFirstLine 29 = .ok (.iastore, 1) := by decide +kernel
theorem dX1_findFirstLine_30 : decode cX1_findFirstLine 30 = .ok (.iload_n 1, 1) := by decide +kernel
theorem dX1_findFirstLine_31 : decode cX1_findFirstLine 31 = .ok (.iconst 1, 1) := by decide +kernel
theorem dX1_findFirstLine_32 : decode cX1_findFirstLine 32 = .ok (.iadd, 1) := by decide +kernel
theorem dX1_findFirstLine_33 : decode cX1_findFirstLine 33 = .ok (.istore_n 2, 1) := by decide +kernel
theorem dX1_findFirstLine_34 : decode cX1_findFirstLine 34 = .ok (.iload_n 2, 1) := by decide +kernel
theorem dX1_findFirstLine_35 : decode cX1_findFirstLine 35 = .ok (.aload_n 0, 1) := by decide +kernel
theorem dX1_findFirstLine_36 : decode cX1_findFirstLine 36 = .ok (.getfield 21, 3) := by decide +kernel
theorem dX1_findFirstLine_39 : decode cX1_findFirstLine 39 = .ok (.if_icmp .ge 64, 3) := by decide +kernel
theorem dX1_findFirstLine_42 : decode cX1_findFirstLine 42 = .ok (.aload_n 0, 1) := by decide +kernel
theorem dX1_findFirstLine_43 : decode cX1_findFirstLine 43 = .ok (.iload_n 1, 1) := by decide +kernel
theorem dX1_findFirstLine_44 : decode cX1_findFirstLine 44 = .ok (.iload_n 2, 1) := by decide +kernel
theorem dX1_findFirstLine_45 : decode cX1_findFirstLine 45 = .ok (.invokevirtual 66, 3) := by decide +kernel
theorem dX1_findFirstLine_48 : decode cX1_findFirstLine 48 = .ok (.aload_n 0, 1) := by decide +kernel
theorem dX1_findFirstLine_49 : decode cX1_findFirstLine 49 = .ok (.getfield 25, 3) := by decide +kernel
theorem dX1_findFirstLine_52 : decode cX1_findFirstLine 52 = .ok (.if_icmp .gt 51, 3) := by decide +kernel
theorem dX1_findFirstLine_55 : decode cX1_findFirstLine 55 = .ok (.aload_n 0, 1) := by decide +kernel
theorem dX1_findFirstLine_56 : decode cX1_findFirstLine 56 = .ok (.iload_n 1, 1) := by decide +kernel
theorem dX1_findFirstLine_57 : decode cX1_findFirstLine 57 = .ok (.iload_n 2, 1) := by decide +kernel
theorem dX1_findFirstLine_58 : decode cX1_findFirstLine 58 = .ok (.invokevirtual 77, 3) := by decide +kernel
theorem dX1_findFirstLine_61 : decode cX1_findFirstLine 61 = .ok (.aload_n 0, 1) := by decide +kernel
theorem dX1_findFirstLine_62 : decode cX1_findFirstLine 62 = .ok (.getfield 40, 3) := by decide +kernel
theorem dX1_findFirstLine_65 : decode cX1_findFirstLine 65 = .ok (.iload_n 2, 1) := by decide +kernel
theorem dX1_findFirstLine_66 : decode cX1_findFirstLine 66 = .ok (.iconst 1, 1) := by decide +kernel
theorem dX1_findFirstLine_67 : decode cX1_findFirstLine 67 = .ok (.iadd, 1) := by decide +kernel
theorem dX1_findFirstLine_68 : decode cX1_findFirstLine 68 = .ok (.iaload, 1) := by decide +kernel
theorem dX1_findFirstLine_69 : decode cX1_findFirstLine 69 = .ok (.iadd, 1) := by decide +kernel
theorem dX1_findFirstLine_70 : decode cX1_findFirstLine 70 = .ok (.istore_n 3, 1) := by decide +kernel
theorem dX1_findFirstLine_71 : decode cX1_findFirstLine 71 = .ok (.iload_n 3, 1) := by decide +kernel
theorem dX1_findFirstLine_72 : decode cX1_findFirstLine 72 = .ok (.aload_n 0, 1) := by decide +kernel
theorem dX1_findFirstLine_73 : decode cX1_findFirstLine 73 = .ok (.getfield 40, 3) := by decide +kernel
theorem dX1_findFirstLine_76 : decode cX1_findFirstLine 76 = .ok (.iload_n 1, 1) := by decide +kernel
theorem dX1_findFirstLine_77 : decode cX1_findFirstLine 77 = .ok (.iaload, 1) := by decide +kernel
theorem dX1_findFirstLine_78 : decode cX1_findFirstLine 78 = .ok (.if_icmp .gt 19, 3) := by decide +kernel
theorem dX1_findFirstLine_81 : decode cX1_findFirstLine 81 = .ok (.aload_n 0, 1) := by decide +kernel
theorem dX1_findFirstLine_82 : decode cX1_findFirstLine 82 = .ok (.getfield 40, 3) := by decide +kernel
theorem dX1_findFirstLine_85 : decode cX1_findFirstLine 85 = .ok (.iload_n 1, 1) := by decide +kernel
theorem dX1_findFirstLine_86 : decode cX1_findFirstLine 86 = .ok (.iload_n 3, 1) := by decide +kernel
theorem dX1_findFirstLine_87 : decode cX1_findFirstLine 87 = .ok (.iastore, 1) := by decide +kernel
theorem dX1_findFirstLine_88 : decode cX1_findFirstLine 88 = .ok (.aload_n 0, 1) := by decide +kernel
theorem dX1_findFirstLine_89 : decode cX1_findFirstLine 89 = .ok (.getfield 43, 3) := by decide +kernel
theorem dX1_findFirstLine_92 : decode cX1_findFirstLine 92 = .ok (.iload_n 1, 1) := by decide +kernel
theorem dX1_findFirstLine_93 : decode cX1_findFirstLine 93 = .ok (.iload_n 2, 1) := by decide +kernel
theorem dX1_findFirstLine_94 : decode cX1_findFirstLine 94 = .ok (.iconst 1, 1) := by decide +kernel
theorem dX1_findFirstLine_95 : decode cX1_findFirstLine 95 = .ok (.iadd, 1) := by decide +kernel
theorem dX1_findFirstLine_96 : decode cX1_findFirstLine 96 = .ok (.iastore, 1) := by decide +kernel
theorem dX1_findFirstLine_97 : decode cX1_findFirstLine 97 = .ok (.iinc 2 1, 3) := by decide +kernel
theorem dX1_findFirstLine_100 : decode cX1_findFirstLine 100 = .ok (.goto (-66), 3) := by decide +kernel
theorem dX1_findFirstLine_103 : decode cX1_findFirstLine 103 = .ok (.return_, 1) := by decide +kernel
theorem dX1_badnessOf_0 : decode cX1_badnessOf 0 = .ok (.aload_n 0, 1) := by decide +kernel
theorem dX1_badnessOf_1 : decode cX1_badnessOf 1 = .ok (.getfield 25, 3) := by decide +kernel
theorem dX1_badnessOf_4 : decode cX1_badnessOf 4 = .ok (.aload_n 0, 1) := by decide +kernel
theorem dX1_badnessOf_5 : decode cX1_badnessOf 5 = .ok (.iload_n 1, 1) := by decide +kernel
theorem dX1_badnessOf_6 : decode cX1_badnessOf 6 = .ok (.iload_n 2, 1) := by decide +kernel
theorem dX1_badnessOf_7 : decode cX1_badnessOf 7 = .ok (.invokevirtual 66, 3) := by decide +kernel
theorem dX1_badnessOf_10 : decode cX1_badnessOf 10 = .ok (.isub, 1) := by decide +kernel
theorem dX1_badnessOf_11 : decode cX1_badnessOf 11 = .ok (.istore_n 3, 1) := by decide +kernel
theorem dX1_badnessOf_12 : decode cX1_badnessOf 12 = .ok (.iload_n 3, 1) := by decide +kernel
theorem dX1_badnessOf_13 : decode cX1_badnessOf 13 = .ok (.ifCond .ge 7, 3) := by decide +kernel
theorem dX1_badnessOf_16 : decode cX1_badnessOf 16 = .ok (.sipush 10000, 3) := by decide +kernel
theorem dX1_badnessOf_19 : decode cX1_badnessOf 19 = .ok (.ireturn, 1) := by decide +kernel
theorem dX1_badnessOf_20 : decode cX1_badnessOf 20 = .ok (.iload_n 2, 1) := by decide +kernel
theorem dX1_badnessOf_21 : decode cX1_badnessOf 21 = .ok (.aload_n 0, 1) := by decide +kernel
theorem dX1_badnessOf_22 : decode cX1_badnessOf 22 = .ok (.getfield 21, 3) := by decide +kernel
theorem dX1_badnessOf_25 : decode cX1_badnessOf 25 = .ok (.iconst 1, 1) := by decide +kernel
theorem dX1_badnessOf_26 : decode cX1_badnessOf 26 = .ok (.isub, 1) := by decide +kernel
theorem dX1_badnessOf_27 : decode cX1_badnessOf 27 = .ok (.if_icmp .ne 7, 3) := by decide +kernel
theorem dX1_badnessOf_30 : decode cX1_badnessOf 30 = .ok (.iconst 0, 1) := by decide +kernel
theorem dX1_badnessOf_31 : decode cX1_badnessOf 31 = .ok (.goto 6, 3) := by decide +kernel
theorem dX1_badnessOf_34 : decode cX1_badnessOf 34 = .ok (.iload_n 3, 1) := by decide +kernel
theorem dX1_badnessOf_35 : decode cX1_badnessOf 35 = .ok (.iload_n 3, 1) := by decide +kernel
theorem dX1_badnessOf_36 : decode cX1_badnessOf 36 = .ok (.imul, 1) := by decide +kernel
theorem dX1_badnessOf_37 : decode cX1_badnessOf 37 = .ok (.ireturn, 1) := by decide +kernel
theorem dX1_lineWith_0 : decode cX1_lineWith 0 = .ok (.iconst 0, 1) := by decide +kernel
theorem dX1_lineWith_1 : decode cX1_lineWith 1 = .ok (.istore_n 2, 1) := by decide +kernel
theorem dX1_lineWith_2 : decode cX1_lineWith 2 = .ok (.iconst 0, 1) := by decide +kernel
theorem dX1_lineWith_3 : decode cX1_lineWith 3 = .ok (.istore_n 3, 1) := by decide +kernel
theorem dX1_lineWith_4 : decode cX1_lineWith 4 = .ok (.iload_n 3, 1) := by decide +kernel
theorem dX1_lineWith_5 : decode cX1_lineWith 5 = .ok (.aload_n 0, 1) := by decide +kernel
theorem dX1_lineWith_6 : decode cX1_lineWith 6 = .ok (.getfield 37, 3) := by decide +kernel
theorem dX1_lineWith_9 : decode cX1_lineWith 9 = .ok (.if_icmp .ge 21, 3) := by decide +kernel
theorem dX1_lineWith_12 : decode cX1_lineWith 12 = .ok (.aload_n 0, 1) := by decide +kernel
theorem dX1_lineWith_13 : decode cX1_lineWith 13 = .ok (.getfield 34, 3) := by decide +kernel
theorem dX1_lineWith_16 : decode cX1_lineWith 16 = .ok (.iload_n 3, 1) := by decide +kernel
theorem dX1_lineWith_17 : decode cX1_lineWith 17 = .ok (.iaload, 1) := by decide +kernel
theorem dX1_lineWith_18 : decode cX1_lineWith 18 = .ok (.iload_n 1, 1) := by decide +kernel
theorem dX1_lineWith_19 : decode cX1_lineWith 19 = .ok (.if_icmp .gt 5, 3) := by decide +kernel
theorem dX1_lineWith_22 : decode cX1_lineWith 22 = .ok (.iload_n 3, 1) := by decide +kernel
theorem dX1_lineWith_23 : decode cX1_lineWith 23 = .ok (.istore_n 2, 1) := by decide +kernel
theorem dX1_lineWith_24 : decode cX1_lineWith 24 = .ok (.iinc 3 1, 3) := by decide +kernel
theorem dX1_lineWith_27 : decode cX1_lineWith 27 = .ok (.goto (-23), 3) := by decide +kernel
theorem dX1_lineWith_30 : decode cX1_lineWith 30 = .ok (.iload_n 2, 1) := by decide +kernel
theorem dX1_lineWith_31 : decode cX1_lineWith 31 = .ok (.ireturn, 1) := by decide +kernel
theorem dX1_lastWord_0 : decode cX1_lastWord 0 = .ok (.aload_n 0, 1) := by decide +kernel
theorem dX1_lastWord_1 : decode cX1_lastWord 1 = .ok (.getfield 34, 3) := by decide +kernel
theorem dX1_lastWord_4 : decode cX1_lastWord 4 = .ok (.iload_n 1, 1) := by decide +kernel
theorem dX1_lastWord_5 : decode cX1_lastWord 5 = .ok (.iconst 1, 1) := by decide +kernel
theorem dX1_lastWord_6 : decode cX1_lastWord 6 = .ok (.iadd, 1) := by decide +kernel
theorem dX1_lastWord_7 : decode cX1_lastWord 7 = .ok (.iaload, 1) := by decide +kernel
theorem dX1_lastWord_8 : decode cX1_lastWord 8 = .ok (.iconst 1, 1) := by decide +kernel
theorem dX1_lastWord_9 : decode cX1_lastWord 9 = .ok (.isub, 1) := by decide +kernel
theorem dX1_lastWord_10 : decode cX1_lastWord 10 = .ok (.ireturn, 1) := by decide +kernel
theorem dX1_bodyOfLine_0 : decode cX1_bodyOfLine 0 = .ok (.aload_n 0, 1) := by decide +kernel
theorem dX1_bodyOfLine_1 : decode cX1_bodyOfLine 1 = .ok (.aload_n 0, 1) := by decide +kernel
theorem dX1_bodyOfLine_2 : decode cX1_bodyOfLine 2 = .ok (.getfield 34, 3) := by decide +kernel
theorem dX1_bodyOfLine_5 : decode cX1_bodyOfLine 5 = .ok (.iload_n 1, 1) := by decide +kernel
theorem dX1_bodyOfLine_6 : decode cX1_bodyOfLine 6 = .ok (.iaload, 1) := by decide +kernel
theorem dX1_bodyOfLine_7 : decode cX1_bodyOfLine 7 = .ok (.aload_n 0, 1) := by decide +kernel
theorem dX1_bodyOfLine_8 : decode cX1_bodyOfLine 8 = .ok (.iload_n 1, 1) := by decide +kernel
theorem dX1_bodyOfLine_9 : decode cX1_bodyOfLine 9 = .ok (.invokevirtual 80, 3) := by decide +kernel
theorem dX1_bodyOfLine_12 : decode cX1_bodyOfLine 12 = .ok (.invokevirtual 66, 3) := by decide +kernel
theorem dX1_bodyOfLine_15 : decode cX1_bodyOfLine 15 = .ok (.ireturn, 1) := by decide +kernel
theorem dX1_fits_0 : decode cX1_fits 0 = .ok (.aload_n 0, 1) := by decide +kernel
theorem dX1_fits_1 : decode cX1_fits 1 = .ok (.iload_n 1, 1) := by decide +kernel
theorem dX1_fits_2 : decode cX1_fits 2 = .ok (.invokevirtual 83, 3) := by decide +kernel
theorem dX1_fits_5 : decode cX1_fits 5 = .ok (.aload_n 0, 1) := by decide +kernel
theorem dX1_fits_6 : decode cX1_fits 6 = .ok (.getfield 25, 3) := by decide +kernel
theorem dX1_fits_9 : decode cX1_fits 9 = .ok (.if_icmp .gt 7, 3) := by decide +kernel
theorem dX1_fits_12 : decode cX1_fits 12 = .ok (.iconst 1, 1) := by decide +kernel
theorem dX1_fits_13 : decode cX1_fits 13 = .ok (.goto 4, 3) := by decide +kernel
theorem dX1_fits_16 : decode cX1_fits 16 = .ok (.iconst 0, 1) := by decide +kernel
theorem dX1_fits_17 : decode cX1_fits 17 = .ok (.ireturn, 1) := by decide +kernel
theorem dX1_looksIndented_0 : decode cX1_looksIndented 0 = .ok (.aload_n 0, 1) := by decide +kernel
theorem dX1_looksIndented_1 : decode cX1_looksIndented 1 = .ok (.iload_n 1, 1) := by decide +kernel
theorem dX1_looksIndented_2 : decode cX1_looksIndented 2 = .ok (.invokevirtual 86, 3) := by decide +kernel
theorem dX1_looksIndented_5 : decode cX1_looksIndented 5 = .ok (.ifCond .eq 34, 3) := by decide +kernel
theorem dX1_looksIndented_8 : decode cX1_looksIndented 8 = .ok (.iload_n 1, 1) := by decide +kernel
theorem dX1_looksIndented_9 : decode cX1_looksIndented 9 = .ok (.aload_n 0, 1) := by decide +kernel
theorem dX1_looksIndented_10 : decode cX1_looksIndented 10 = .ok (.getfield 37, 3) := by decide +kernel
theorem dX1_looksIndented_13 : decode cX1_looksIndented 13 = .ok (.iconst 1, 1) := by decide +kernel
theorem dX1_looksIndented_14 : decode cX1_looksIndented 14 = .ok (.isub, 1) := by decide +kernel
theorem dX1_looksIndented_15 : decode cX1_looksIndented 15 = .ok (.if_icmp .ge 24, 3) := by decide +kernel
theorem dX1_looksIndented_18 : decode cX1_looksIndented 18 = .ok (.aload_n 0, 1) := by decide +kernel
theorem dX1_looksIndented_19 : decode cX1_looksIndented 19 = .ok (.getfield 25, 3) := by decide +kernel
theorem dX1_looksIndented_22 : decode cX1_looksIndented 22 = .ok (.aload_n 0, 1) := by decide +kernel
theorem dX1_looksIndented_23 : decode cX1_looksIndented 23 = .ok (.iload_n 1, 1) := by decide +kernel
theorem dX1_looksIndented_24 : decode cX1_looksIndented 24 = .ok (.invokevirtual 83, 3) := by decide +kernel
theorem dX1_looksIndented_27 : decode cX1_looksIndented 27 = .ok (.isub, 1) := by decide +kernel
theorem dX1_looksIndented_28 : decode cX1_looksIndented 28 = .ok (.aload_n 0, 1) := by decide +kernel
theorem dX1_looksIndented_29 : decode cX1_looksIndented 29 = .ok (.getfield 31, 3) := by decide +kernel
theorem dX1_looksIndented_32 : decode cX1_looksIndented 32 = .ok (.if_icmp .le 7, 3) := by decide +kernel
theorem dX1_looksIndented_35 : decode cX1_looksIndented 35 = .ok (.iconst 1, 1) := by decide +kernel
theorem dX1_looksIndented_36 : decode cX1_looksIndented 36 = .ok (.goto 4, 3) := by decide +kernel
theorem dX1_looksIndented_39 : decode cX1_looksIndented 39 = .ok (.iconst 0, 1) := by decide +kernel
theorem dX1_looksIndented_40 : decode cX1_looksIndented 40 = .ok (.ireturn, 1) := by decide +kernel
theorem dX1_tellLine_0 : decode cX1_tellLine 0 = .ok (.iload_n 2, 1) := by decide +kernel
theorem dX1_tellLine_1 : decode cX1_tellLine 1 = .ok (.tableswitch 154 0 7 #[47, 54, 70, 86, 98, 109, 115, 140], 47) := by decide +kernel
theorem dX1_tellLine_48 : decode cX1_tellLine 48 = .ok (.aload_n 0, 1) := by decide +kernel
theorem dX1_tellLine_49 : decode cX1_tellLine 49 = .ok (.getfield 34, 3) := by decide +kernel
theorem dX1_tellLine_52 : decode cX1_tellLine 52 = .ok (.iload_n 1, 1) := by decide +kernel
theorem dX1_tellLine_53 : decode cX1_tellLine 53 = .ok (.iaload, 1) := by decide +kernel
theorem dX1_tellLine_54 : decode cX1_tellLine 54 = .ok (.ireturn, 1) := by decide +kernel
theorem dX1_tellLine_55 : decode cX1_tellLine 55 = .ok (.aload_n 0, 1) := by decide +kernel
theorem dX1_tellLine_56 : decode cX1_tellLine 56 = .ok (.getfield 34, 3) := by decide +kernel
theorem dX1_tellLine_59 : decode cX1_tellLine 59 = .ok (.iload_n 1, 1) := by decide +kernel
theorem dX1_tellLine_60 : decode cX1_tellLine 60 = .ok (.iconst 1, 1) := by decide +kernel
theorem dX1_tellLine_61 : decode cX1_tellLine 61 = .ok (.iadd, 1) := by decide +kernel
theorem dX1_tellLine_62 : decode cX1_tellLine 62 = .ok (.iaload, 1) := by decide +kernel
theorem dX1_tellLine_63 : decode cX1_tellLine 63 = .ok (.aload_n 0, 1) := by decide +kernel
theorem dX1_tellLine_64 : decode cX1_tellLine 64 = .ok (.getfield 34, 3) := by decide +kernel
theorem dX1_tellLine_67 : decode cX1_tellLine 67 = .ok (.iload_n 1, 1) := by decide +kernel
theorem dX1_tellLine_68 : decode cX1_tellLine 68 = .ok (.iaload, 1) := by decide +kernel
theorem dX1_tellLine_69 : decode cX1_tellLine 69 = .ok (.isub, 1) := by decide +kernel
theorem dX1_tellLine_70 : decode cX1_tellLine 70 = .ok (.ireturn, 1) := by decide +kernel
theorem dX1_tellLine_71 : decode cX1_tellLine 71 = .ok (.aload_n 0, 1) := by decide +kernel
theorem dX1_tellLine_72 : decode cX1_tellLine 72 = .ok (.aload_n 0, 1) := by decide +kernel
theorem dX1_tellLine_73 : decode cX1_tellLine 73 = .ok (.getfield 34, 3) := by decide +kernel
theorem dX1_tellLine_76 : decode cX1_tellLine 76 = .ok (.iload_n 1, 1) := by decide +kernel
theorem dX1_tellLine_77 : decode cX1_tellLine 77 = .ok (.iaload, 1) := by decide +kernel
theorem dX1_tellLine_78 : decode cX1_tellLine 78 = .ok (.aload_n 0, 1) := by decide +kernel
theorem dX1_tellLine_79 : decode cX1_tellLine 79 = .ok (.iload_n 1, 1) := by decide +kernel
theorem dX1_tellLine_80 : decode cX1_tellLine 80 = .ok (.invokevirtual 80, 3) := by decide +kernel
theorem dX1_tellLine_83 : decode cX1_tellLine 83 = .ok (.invokevirtual 62, 3) := by decide +kernel
theorem dX1_tellLine_86 : decode cX1_tellLine 86 = .ok (.ireturn, 1) := by decide +kernel
theorem dX1_tellLine_87 : decode cX1_tellLine 87 = .ok (.aload_n 0, 1) := by decide +kernel
theorem dX1_tellLine_88 : decode cX1_tellLine 88 = .ok (.getfield 15, 3) := by decide +kernel
theorem dX1_tellLine_91 : decode cX1_tellLine 91 = .ok (.aload_n 0, 1) := by decide +kernel
theorem dX1_tellLine_92 : decode cX1_tellLine 92 = .ok (.getfield 34, 3) := by decide +kernel
theorem dX1_tellLine_95 : decode cX1_tellLine 95 = .ok (.iload_n 1, 1) := by decide +kernel
theorem dX1_tellLine_96 : decode cX1_tellLine 96 = .ok (.iaload, 1) := by decide +kernel
theorem dX1_tellLine_97 : decode cX1_tellLine 97 = .ok (.iaload, 1) := by decide +kernel
theorem dX1_tellLine_98 : decode cX1_tellLine 98 = .ok (.ireturn, 1) := by decide +kernel
theorem dX1_tellLine_99 : decode cX1_tellLine 99 = .ok (.aload_n 0, 1) := by decide +kernel
theorem dX1_tellLine_100 : decode cX1_tellLine 100 = .ok (.getfield 18, 3) := by decide +kernel
theorem dX1_tellLine_103 : decode cX1_tellLine 103 = .ok (.aload_n 0, 1) := by decide +kernel
theorem dX1_tellLine_104 : decode cX1_tellLine 104 = .ok (.iload_n 1, 1) := by decide +kernel
theorem dX1_tellLine_105 : decode cX1_tellLine 105 = .ok (.invokevirtual 80, 3) := by decide +kernel
theorem dX1_tellLine_108 : decode cX1_tellLine 108 = .ok (.iaload, 1) := by decide +kernel
theorem dX1_tellLine_109 : decode cX1_tellLine 109 = .ok (.ireturn, 1) := by decide +kernel
theorem dX1_tellLine_110 : decode cX1_tellLine 110 = .ok (.aload_n 0, 1) := by decide +kernel
theorem dX1_tellLine_111 : decode cX1_tellLine 111 = .ok (.iload_n 1, 1) := by decide +kernel
theorem dX1_tellLine_112 : decode cX1_tellLine 112 = .ok (.invokevirtual 83, 3) := by decide +kernel
theorem dX1_tellLine_115 : decode cX1_tellLine 115 = .ok (.ireturn, 1) := by decide +kernel
theorem dX1_tellLine_116 : decode cX1_tellLine 116 = .ok (.aload_n 0, 1) := by decide +kernel
theorem dX1_tellLine_117 : decode cX1_tellLine 117 = .ok (.iload_n 1, 1) := by decide +kernel
theorem dX1_tellLine_118 : decode cX1_tellLine 118 = .ok (.invokevirtual 86, 3) := by decide +kernel
theorem dX1_tellLine_121 : decode cX1_tellLine 121 = .ok (.ifCond .eq 16, 3) := by decide +kernel
theorem dX1_tellLine_124 : decode cX1_tellLine 124 = .ok (.aload_n 0, 1) := by decide +kernel
theorem dX1_tellLine_125 : decode cX1_tellLine 125 = .ok (.getfield 25, 3) := by decide +kernel
theorem dX1_tellLine_128 : decode cX1_tellLine 128 = .ok (.aload_n 0, 1) := by decide +kernel
theorem dX1_tellLine_129 : decode cX1_tellLine 129 = .ok (.iload_n 1, 1) := by decide +kernel
theorem dX1_tellLine_130 : decode cX1_tellLine 130 = .ok (.invokevirtual 83, 3) := by decide +kernel
theorem dX1_tellLine_133 : decode cX1_tellLine 133 = .ok (.isub, 1) := by decide +kernel
theorem dX1_tellLine_134 : decode cX1_tellLine 134 = .ok (.goto 6, 3) := by decide +kernel
theorem dX1_tellLine_137 : decode cX1_tellLine 137 = .ok (.sipush (-1006), 3) := by decide +kernel
theorem dX1_tellLine_140 : decode cX1_tellLine 140 = .ok (.ireturn, 1) := by decide +kernel
theorem dX1_tellLine_141 : decode cX1_tellLine 141 = .ok (.aload_n 0, 1) := by decide +kernel
theorem dX1_tellLine_142 : decode cX1_tellLine 142 = .ok (.iload_n 1, 1) := by decide +kernel
theorem dX1_tellLine_143 : decode cX1_tellLine 143 = .ok (.invokevirtual 86, 3) := by decide +kernel
theorem dX1_tellLine_146 : decode cX1_tellLine 146 = .ok (.ifCond .eq 7, 3) := by decide +kernel
theorem dX1_tellLine_149 : decode cX1_tellLine 149 = .ok (.iconst 1, 1) := by decide +kernel
theorem dX1_tellLine_150 : decode cX1_tellLine 150 = .ok (.goto 4, 3) := by decide +kernel
theorem dX1_tellLine_153 : decode cX1_tellLine 153 = .ok (.iconst 0, 1) := by decide +kernel
theorem dX1_tellLine_154 : decode cX1_tellLine 154 = .ok (.ireturn, 1) := by decide +kernel
theorem dX1_tellLine_155 : decode cX1_tellLine 155 = .ok (.aload_n 0, 1) := by decide +kernel
theorem dX1_tellLine_156 : decode cX1_tellLine 156 = .ok (.iload_n 1, 1) := by decide +kernel
theorem dX1_tellLine_157 : decode cX1_tellLine 157 = .ok (.invokevirtual 90, 3) := by decide +kernel
theorem dX1_tellLine_160 : decode cX1_tellLine 160 = .ok (.ifCond .eq 7, 3) := by decide +kernel
theorem dX1_tellLine_163 : decode cX1_tellLine 163 = .ok (.iconst 1, 1) := by decide +kernel
theorem dX1_tellLine_164 : decode cX1_tellLine 164 = .ok (.goto 4, 3) := by decide +kernel
theorem dX1_tellLine_167 : decode cX1_tellLine 167 = .ok (.iconst 0, 1) := by decide +kernel
theorem dX1_tellLine_168 : decode cX1_tellLine 168 = .ok (.ireturn, 1) := by decide +kernel
theorem dX1_badness_0 : decode cX1_badness 0 = .ok (.iconst 0, 1) := by decide +kernel
theorem dX1_badness_1 : decode cX1_badness 1 = .ok (.istore_n 1, 1) := by decide +kernel
theorem dX1_badness_2 : decode cX1_badness 2 = .ok (.iconst 0, 1) := by decide +kernel
theorem dX1_badness_3 : decode cX1_badness 3 = .ok (.istore_n 2, 1) := by decide +kernel
theorem dX1_badness_4 : decode cX1_badness 4 = .ok (.iload_n 2, 1) := by decide +kernel
theorem dX1_badness_5 : decode cX1_badness 5 = .ok (.aload_n 0, 1) := by decide +kernel
theorem dX1_badness_6 : decode cX1_badness 6 = .ok (.getfield 37, 3) := by decide +kernel
theorem dX1_badness_9 : decode cX1_badness 9 = .ok (.if_icmp .ge 27, 3) := by decide +kernel
theorem dX1_badness_12 : decode cX1_badness 12 = .ok (.iload_n 1, 1) := by decide +kernel
theorem dX1_badness_13 : decode cX1_badness 13 = .ok (.aload_n 0, 1) := by decide +kernel
theorem dX1_badness_14 : decode cX1_badness 14 = .ok (.aload_n 0, 1) := by decide +kernel
theorem dX1_badness_15 : decode cX1_badness 15 = .ok (.getfield 34, 3) := by decide +kernel
theorem dX1_badness_18 : decode cX1_badness 18 = .ok (.iload_n 2, 1) := by decide +kernel
theorem dX1_badness_19 : decode cX1_badness 19 = .ok (.iaload, 1) := by decide +kernel
theorem dX1_badness_20 : decode cX1_badness 20 = .ok (.aload_n 0, 1) := by decide +kernel
theorem dX1_badness_21 : decode cX1_badness 21 = .ok (.iload_n 2, 1) := by decide +kernel
theorem dX1_badness_22 : decode cX1_badness 22 = .ok (.invokevirtual 80, 3) := by decide +kernel
theorem dX1_badness_25 : decode cX1_badness 25 = .ok (.invokevirtual 77, 3) := by decide +kernel
theorem dX1_badness_28 : decode cX1_badness 28 = .ok (.iadd, 1) := by decide +kernel
theorem dX1_badness_29 : decode cX1_badness 29 = .ok (.istore_n 1, 1) := by decide +kernel
theorem dX1_badness_30 : decode cX1_badness 30 = .ok (.iinc 2 1, 3) := by decide +kernel
theorem dX1_badness_33 : decode cX1_badness 33 = .ok (.goto (-29), 3) := by decide +kernel
theorem dX1_badness_36 : decode cX1_badness 36 = .ok (.iload_n 1, 1) := by decide +kernel
theorem dX1_badness_37 : decode cX1_badness 37 = .ok (.ireturn, 1) := by decide +kernel
theorem dX1_countIndented_0 : decode cX1_countIndented 0 = .ok (.iconst 0, 1) := by decide +kernel
theorem dX1_countIndented_1 : decode cX1_countIndented 1 = .ok (.istore_n 1, 1) := by decide +kernel
theorem dX1_countIndented_2 : decode cX1_countIndented 2 = .ok (.iconst 0, 1) := by decide +kernel
theorem dX1_countIndented_3 : decode cX1_countIndented 3 = .ok (.istore_n 2, 1) := by decide +kernel
theorem dX1_countIndented_4 : decode cX1_countIndented 4 = .ok (.iload_n 2, 1) := by decide +kernel
theorem dX1_countIndented_5 : decode cX1_countIndented 5 = .ok (.aload_n 0, 1) := by decide +kernel
theorem dX1_countIndented_6 : decode cX1_countIndented 6 = .ok (.getfield 37, 3) := by decide +kernel
theorem dX1_countIndented_9 : decode cX1_countIndented 9 = .ok (.if_icmp .ge 20, 3) := by decide +kernel
theorem dX1_countIndented_12 : decode cX1_countIndented 12 = .ok (.aload_n 0, 1) := by decide +kernel
theorem dX1_countIndented_13 : decode cX1_countIndented 13 = .ok (.iload_n 2, 1) := by decide +kernel
theorem dX1_countIndented_14 : decode cX1_countIndented 14 = .ok (.invokevirtual 90, 3) := by decide +kernel
theorem dX1_countIndented_17 : decode cX1_countIndented 17 = .ok (.ifCond .eq 6, 3) := by decide +kernel
theorem dX1_countIndented_20 : decode cX1_countIndented 20 = .ok (.iinc 1 1, 3) := by decide +kernel
theorem dX1_countIndented_23 : decode cX1_countIndented 23 = .ok (.iinc 2 1, 3) := by decide +kernel
theorem dX1_countIndented_26 : decode cX1_countIndented 26 = .ok (.goto (-22), 3) := by decide +kernel
theorem dX1_countIndented_29 : decode cX1_countIndented 29 = .ok (.iload_n 1, 1) := by decide +kernel
theorem dX1_countIndented_30 : decode cX1_countIndented 30 = .ok (.ireturn, 1) := by decide +kernel
theorem dX1_countUnfit_0 : decode cX1_countUnfit 0 = .ok (.iconst 0, 1) := by decide +kernel
theorem dX1_countUnfit_1 : decode cX1_countUnfit 1 = .ok (.istore_n 1, 1) := by decide +kernel
theorem dX1_countUnfit_2 : decode cX1_countUnfit 2 = .ok (.iconst 0, 1) := by decide +kernel
theorem dX1_countUnfit_3 : decode cX1_countUnfit 3 = .ok (.istore_n 2, 1) := by decide +kernel
theorem dX1_countUnfit_4 : decode cX1_countUnfit 4 = .ok (.iload_n 2, 1) := by decide +kernel
theorem dX1_countUnfit_5 : decode cX1_countUnfit 5 = .ok (.aload_n 0, 1) := by decide +kernel
theorem dX1_countUnfit_6 : decode cX1_countUnfit 6 = .ok (.getfield 37, 3) := by decide +kernel
theorem dX1_countUnfit_9 : decode cX1_countUnfit 9 = .ok (.if_icmp .ge 20, 3) := by decide +kernel
theorem dX1_countUnfit_12 : decode cX1_countUnfit 12 = .ok (.aload_n 0, 1) := by decide +kernel
theorem dX1_countUnfit_13 : decode cX1_countUnfit 13 = .ok (.iload_n 2, 1) := by decide +kernel
theorem dX1_countUnfit_14 : decode cX1_countUnfit 14 = .ok (.invokevirtual 86, 3) := by decide +kernel
theorem dX1_countUnfit_17 : decode cX1_countUnfit 17 = .ok (.ifCond .ne 6, 3) := by decide +kernel
theorem dX1_countUnfit_20 : decode cX1_countUnfit 20 = .ok (.iinc 1 1, 3) := by decide +kernel
theorem dX1_countUnfit_23 : decode cX1_countUnfit 23 = .ok (.iinc 2 1, 3) := by decide +kernel
theorem dX1_countUnfit_26 : decode cX1_countUnfit 26 = .ok (.goto (-22), 3) := by decide +kernel
theorem dX1_countUnfit_29 : decode cX1_countUnfit 29 = .ok (.iload_n 1, 1) := by decide +kernel
theorem dX1_countUnfit_30 : decode cX1_countUnfit 30 = .ok (.ireturn, 1) := by decide +kernel
theorem dX1_greatestBody_0 : decode cX1_greatestBody 0 = .ok (.aload_n 0, 1) := by decide +kernel
theorem dX1_greatestBody_1 : decode cX1_greatestBody 1 = .ok (.getfield 37, 3) := by decide +kernel
theorem dX1_greatestBody_4 : decode cX1_greatestBody 4 = .ok (.ifCond .ne 7, 3) := by decide +kernel
theorem dX1_greatestBody_7 : decode cX1_greatestBody 7 = .ok (.sipush (-1006), 3) := by decide +kernel
theorem dX1_greatestBody_10 : decode cX1_greatestBody 10 = .ok (.ireturn, 1) := by decide +kernel
theorem dX1_greatestBody_11 : decode cX1_greatestBody 11 = .ok (.aload_n 0, 1) := by decide +kernel
theorem dX1_greatestBody_12 : decode cX1_greatestBody 12 = .ok (.iconst 0, 1) := by decide +kernel
theorem dX1_greatestBody_13 : decode cX1_greatestBody 13 = .ok (.invokevirtual 83, 3) := by decide +kernel
theorem dX1_greatestBody_16 : decode cX1_greatestBody 16 = .ok (.istore_n 1, 1) := by decide +kernel
theorem dX1_greatestBody_17 : decode cX1_greatestBody 17 = .ok (.iconst 1, 1) := by decide +kernel
theorem dX1_greatestBody_18 : decode cX1_greatestBody 18 = .ok (.istore_n 2, 1) := by decide +kernel
theorem dX1_greatestBody_19 : decode cX1_greatestBody 19 = .ok (.iload_n 2, 1) := by decide +kernel
theorem dX1_greatestBody_20 : decode cX1_greatestBody 20 = .ok (.aload_n 0, 1) := by decide +kernel
theorem dX1_greatestBody_21 : decode cX1_greatestBody 21 = .ok (.getfield 37, 3) := by decide +kernel
theorem dX1_greatestBody_24 : decode cX1_greatestBody 24 = .ok (.if_icmp .ge 19, 3) := by decide +kernel
theorem dX1_greatestBody_27 : decode cX1_greatestBody 27 = .ok (.iload_n 1, 1) := by decide +kernel
theorem dX1_greatestBody_28 : decode cX1_greatestBody 28 = .ok (.aload_n 0, 1) := by decide +kernel
theorem dX1_greatestBody_29 : decode cX1_greatestBody 29 = .ok (.iload_n 2, 1) := by decide +kernel
theorem dX1_greatestBody_30 : decode cX1_greatestBody 30 = .ok (.invokevirtual 83, 3) := by decide +kernel
theorem dX1_greatestBody_33 : decode cX1_greatestBody 33 = .ok (.invokestatic 93, 3) := by decide +kernel
theorem dX1_greatestBody_36 : decode cX1_greatestBody 36 = .ok (.istore_n 1, 1) := by decide +kernel
theorem dX1_greatestBody_37 : decode cX1_greatestBody 37 = .ok (.iinc 2 1, 3) := by decide +kernel
theorem dX1_greatestBody_40 : decode cX1_greatestBody 40 = .ok (.goto (-21), 3) := by decide +kernel
theorem dX1_greatestBody_43 : decode cX1_greatestBody 43 = .ok (.iload_n 1, 1) := by decide +kernel
theorem dX1_greatestBody_44 : decode cX1_greatestBody 44 = .ok (.ireturn, 1) := by decide +kernel
theorem dX1_breaksLike_0 : decode cX1_breaksLike 0 = .ok (.aload_n 0, 1) := by decide +kernel
theorem dX1_breaksLike_1 : decode cX1_breaksLike 1 = .ok (.getfield 37, 3) := by decide +kernel
theorem dX1_breaksLike_4 : decode cX1_breaksLike 4 = .ok (.aload_n 1, 1) := by decide +kernel
theorem dX1_breaksLike_5 : decode cX1_breaksLike 5 = .ok (.getfield 37, 3) := by decide +kernel
theorem dX1_breaksLike_8 : decode cX1_breaksLike 8 = .ok (.if_icmp .eq 5, 3) := by decide +kernel
theorem dX1_breaksLike_11 : decode cX1_breaksLike 11 = .ok (.iconst 0, 1) := by decide +kernel
theorem dX1_breaksLike_12 : decode cX1_breaksLike 12 = .ok (.ireturn, 1) := by decide +kernel
theorem dX1_breaksLike_13 : decode cX1_breaksLike 13 = .ok (.iconst 0, 1) := by decide +kernel
theorem dX1_breaksLike_14 : decode cX1_breaksLike 14 = .ok (.istore_n 2, 1) := by decide +kernel
theorem dX1_breaksLike_15 : decode cX1_breaksLike 15 = .ok (.iload_n 2, 1) := by decide +kernel
theorem dX1_breaksLike_16 : decode cX1_breaksLike 16 = .ok (.aload_n 0, 1) := by decide +kernel
theorem dX1_breaksLike_17 : decode cX1_breaksLike 17 = .ok (.getfield 37, 3) := by decide +kernel
theorem dX1_breaksLike_20 : decode cX1_breaksLike 20 = .ok (.if_icmp .ge 26, 3) := by decide +kernel
theorem dX1_breaksLike_23 : decode cX1_breaksLike 23 = .ok (.aload_n 0, 1) := by decide +kernel
theorem dX1_breaksLike_24 : decode cX1_breaksLike 24 = .ok (.getfield 34, 3) := by decide +kernel
theorem dX1_breaksLike_27 : decode cX1_breaksLike 27 = .ok (.iload_n 2, 1) := by decide +kernel
theorem dX1_breaksLike_28 : decode cX1_breaksLike 28 = .ok (.iaload, 1) := by decide +kernel
theorem dX1_breaksLike_29 : decode cX1_breaksLike 29 = .ok (.aload_n 1, 1) := by decide +kernel
theorem dX1_breaksLike_30 : decode cX1_breaksLike 30 = .ok (.getfield 34, 3) := by decide +kernel
theorem dX1_breaksLike_33 : decode cX1_breaksLike 33 = .ok (.iload_n 2, 1) := by decide +kernel
theorem dX1_breaksLike_34 : decode cX1_breaksLike 34 = .ok (.iaload, 1) := by decide +kernel
theorem dX1_breaksLike_35 : decode cX1_breaksLike 35 = .ok (.if_icmp .eq 5, 3) := by decide +kernel
theorem dX1_breaksLike_38 : decode cX1_breaksLike 38 = .ok (.iconst 0, 1) := by decide +kernel
theorem dX1_breaksLike_39 : decode cX1_breaksLike 39 = .ok (.ireturn, 1) := by decide +kernel
theorem dX1_breaksLike_40 : decode cX1_breaksLike 40 = .ok (.iinc 2 1, 3) := by decide +kernel
theorem dX1_breaksLike_43 : decode cX1_breaksLike 43 = .ok (.goto (-28), 3) := by decide +kernel
theorem dX1_breaksLike_46 : decode cX1_breaksLike 46 = .ok (.iconst 1, 1) := by decide +kernel
theorem dX1_breaksLike_47 : decode cX1_breaksLike 47 = .ok (.ireturn, 1) := by decide +kernel
theorem dX2_init_0 : decode cX2_init 0 = .ok (.aload_n 0, 1) := by decide +kernel
theorem dX2_init_1 : decode cX2_init 1 = .ok (.invokespecial 3, 3) := by decide +kernel
theorem dX2_init_4 : decode cX2_init 4 = .ok (.aload_n 0, 1) := by decide +kernel
theorem dX2_init_5 : decode cX2_init 5 = .ok (.bipush 60, 2) := by decide +kernel
theorem dX2_init_7 : decode cX2_init 7 = .ok (.newarray .char, 2) := by decide +kernel
theorem dX2_init_9 : decode cX2_init 9 = .ok (.putfield 9, 3) := by decide +kernel
theorem dX2_init_12 : decode cX2_init 12 = .ok (.aload_n 0, 1) := by decide +kernel
theorem dX2_init_13 : decode cX2_init 13 = .ok (.iconst 0, 1) := by decide +kernel
theorem dX2_init_14 : decode cX2_init 14 = .ok (.putfield 15, 3) := by decide +kernel
theorem dX2_init_17 : decode cX2_init 17 = .ok (.return_, 1) := by decide +kernel
theorem dX2_lengthOf_0 : decode cX2_lengthOf 0 = .ok (.iconst 0, 1) := by decide +kernel
theorem dX2_lengthOf_1 : decode cX2_lengthOf 1 = .ok (.istore_n 2, 1) := by decide +kernel
theorem dX2_lengthOf_2 : decode cX2_lengthOf 2 = .ok (.lload_n 0, 1) := by decide +kernel
theorem dX2_lengthOf_3 : decode cX2_lengthOf 3 = .ok (.lstore_n 3, 1) := by decide +kernel
theorem dX2_lengthOf_4 : decode cX2_lengthOf 4 = .ok (.iconst 0, 1) := by decide +kernel
theorem dX2_lengthOf_5 : decode cX2_lengthOf 5 = .ok (.istore 5, 2) := by decide +kernel
theorem dX2_lengthOf_7 : decode cX2_lengthOf 7 = .ok (.iload 5, 2) := by decide +kernel
theorem dX2_lengthOf_9 : decode cX2_lengthOf 9 = .ok (.bipush 8, 2) := by decide +kernel
theorem dX2_lengthOf_11 : decode cX2_lengthOf 11 = .ok (.if_icmp .ge 47, 3) := by decide +kernel
theorem dX2_lengthOf_14 : decode cX2_lengthOf 14 = .ok (.lload_n 3, 1) := by decide +kernel
theorem dX2_lengthOf_15 : decode cX2_lengthOf 15 = .ok (.lconst 0, 1) := by decide +kernel
theorem dX2_lengthOf_16 : decode cX2_lengthOf 16 = .ok (.lcmp, 1) := by decide +kernel
theorem dX2_lengthOf_17 : decode cX2_lengthOf 17 = .ok (.ifCond .eq 41, 3) := by decide +kernel
theorem dX2_lengthOf_20 : decode cX2_lengthOf 20 = .ok (.lload_n 3, 1) := by decide +kernel
theorem dX2_lengthOf_21 : decode cX2_lengthOf 21 = .ok (.ldc2_w 19, 3) := by decide +kernel
theorem dX2_lengthOf_24 : decode cX2_lengthOf 24 = .ok (.land, 1) := by decide +kernel
theorem dX2_lengthOf_25 : decode cX2_lengthOf 25 = .ok (.l2i, 1) := by decide +kernel
theorem dX2_lengthOf_26 : decode cX2_lengthOf 26 = .ok (.istore 6, 2) := by decide +kernel
theorem dX2_lengthOf_28 : decode cX2_lengthOf 28 = .ok (.iload 6, 2) := by decide +kernel
theorem dX2_lengthOf_30 : decode cX2_lengthOf 30 = .ok (.bipush 33, 2) := by decide +kernel
theorem dX2_lengthOf_32 : decode cX2_lengthOf 32 = .ok (.if_icmp .lt 10, 3) := by decide +kernel
theorem dX2_lengthOf_35 : decode cX2_lengthOf 35 = .ok (.iload 6, 2) := by decide +kernel
theorem dX2_lengthOf_37 : decode cX2_lengthOf 37 = .ok (.bipush 126, 2) := by decide +kernel
theorem dX2_lengthOf_39 : decode cX2_lengthOf 39 = .ok (.if_icmp .le 5, 3) := by decide +kernel
theorem dX2_lengthOf_42 : decode cX2_lengthOf 42 = .ok (.iconst 0, 1) := by decide +kernel
theorem dX2_lengthOf_43 : decode cX2_lengthOf 43 = .ok (.ireturn, 1) := by decide +kernel
theorem dX2_lengthOf_44 : decode cX2_lengthOf 44 = .ok (.iinc 2 1, 3) := by decide +kernel
theorem dX2_lengthOf_47 : decode cX2_lengthOf 47 = .ok (.lload_n 3, 1) := by decide +kernel
theorem dX2_lengthOf_48 : decode cX2_lengthOf 48 = .ok (.bipush 8, 2) := by decide +kernel
theorem dX2_lengthOf_50 : decode cX2_lengthOf 50 = .ok (.lushr, 1) := by decide +kernel
theorem dX2_lengthOf_51 : decode cX2_lengthOf 51 = .ok (.lstore_n 3, 1) := by decide +kernel
theorem dX2_lengthOf_52 : decode cX2_lengthOf 52 = .ok (.iinc 5 1, 3) := by decide +kernel
theorem dX2_lengthOf_55 : decode cX2_lengthOf 55 = .ok (.goto (-48), 3) := by decide +kernel
theorem dX2_lengthOf_58 : decode cX2_lengthOf 58 = .ok (.iload_n 2, 1) := by decide +kernel
theorem dX2_lengthOf_59 : decode cX2_lengthOf 59 = .ok (.ireturn, 1) := by decide +kernel
theorem dX2_append_0 : decode cX2_append 0 = .ok (.iload_n 3, 1) := by decide +kernel
theorem dX2_append_1 : decode cX2_append 1 = .ok (.ifCond .lt 14, 3) := by decide +kernel
theorem dX2_append_4 : decode cX2_append 4 = .ok (.aload_n 0, 1) := by decide +kernel
theorem dX2_append_5 : decode cX2_append 5 = .ok (.getfield 15, 3) := by decide +kernel
theorem dX2_append_8 : decode cX2_append 8 = .ok (.iload_n 3, 1) := by decide +kernel
theorem dX2_append_9 : decode cX2_append 9 = .ok (.iadd, 1) := by decide +kernel
theorem dX2_append_10 : decode cX2_append 10 = .ok (.bipush 60, 2) := by decide +kernel
theorem dX2_append_12 : decode cX2_append 12 = .ok (.if_icmp .le 4, 3) := by decide +kernel
theorem dX2_append_15 : decode cX2_append 15 = .ok (.return_, 1) := by decide +kernel
theorem dX2_append_16 : decode cX2_append 16 = .ok (.iconst 0, 1) := by decide +kernel
theorem dX2_append_17 : decode cX2_append 17 = .ok (.istore 4, 2) := by decide +kernel
theorem dX2_append_19 : decode cX2_append 19 = .ok (.iload 4, 2) := by decide +kernel
theorem dX2_append_21 : decode cX2_append 21 = .ok (.iload_n 3, 1) := by decide +kernel
theorem dX2_append_22 : decode cX2_append 22 = .ok (.if_icmp .ge 38, 3) := by decide +kernel
theorem dX2_append_25 : decode cX2_append 25 = .ok (.aload_n 0, 1) := by decide +kernel
theorem dX2_append_26 : decode cX2_append 26 = .ok (.getfield 9, 3) := by decide +kernel
theorem dX2_append_29 : decode cX2_append 29 = .ok (.aload_n 0, 1) := by decide +kernel
theorem dX2_append_30 : decode cX2_append 30 = .ok (.getfield 15, 3) := by decide +kernel
theorem dX2_append_33 : decode cX2_append 33 = .ok (.iload_n 3, 1) := by decide +kernel
theorem dX2_append_34 : decode cX2_append 34 = .ok (.iadd, 1) := by decide +kernel
theorem dX2_append_35 : decode cX2_append 35 = .ok (.iconst 1, 1) := by decide +kernel
theorem dX2_append_36 : decode cX2_append 36 = .ok (.isub, 1) := by decide +kernel
theorem dX2_append_37 : decode cX2_append 37 = .ok (.iload 4, 2) := by decide +kernel
theorem dX2_append_39 : decode cX2_append 39 = .ok (.isub, 1) := by decide +kernel
theorem dX2_append_40 : decode cX2_append 40 = .ok (.lload_n 1, 1) := by decide +kernel
theorem dX2_append_41 : decode cX2_append 41 = .ok (.bipush 8, 2) := by decide +kernel
theorem dX2_append_43 : decode cX2_append 43 = .ok (.iload 4, 2) := by decide +kernel
theorem dX2_append_45 : decode cX2_append 45 = .ok (.imul, 1) := by decide +kernel
theorem dX2_append_46 : decode cX2_append 46 = .ok (.lushr, 1) := by decide +kernel
theorem dX2_append_47 : decode cX2_append 47 = .ok (.ldc2_w 19, 3) := by decide +kernel
theorem dX2_append_50 : decode cX2_append 50 = .ok (.land, 1) := by decide +kernel
theorem dX2_append_51 : decode cX2_append 51 = .ok (.l2i, 1) := by decide +kernel
theorem dX2_append_52 : decode cX2_append 52 = .ok (.i2c, 1) := by decide +kernel
theorem dX2_append_53 : decode cX2_append 53 = .ok (.castore, 1) := by decide +kernel
theorem dX2_append_54 : decode cX2_append 54 = .ok (.iinc 4 1, 3) := by decide +kernel
theorem dX2_append_57 : decode cX2_append 57 = .ok (.goto (-38), 3) := by decide +kernel
theorem dX2_append_60 : decode cX2_append 60 = .ok (.aload_n 0, 1) := by decide +kernel
theorem dX2_append_61 : decode cX2_append 61 = .ok (.dup, 1) := by decide +kernel
theorem dX2_append_62 : decode cX2_append 62 = .ok (.getfield 15, 3) := by decide +kernel
theorem dX2_append_65 : decode cX2_append 65 = .ok (.iload_n 3, 1) := by decide +kernel
theorem dX2_append_66 : decode cX2_append 66 = .ok (.iadd, 1) := by decide +kernel
theorem dX2_append_67 : decode cX2_append 67 = .ok (.putfield 15, 3) := by decide +kernel
theorem dX2_append_70 : decode cX2_append 70 = .ok (.return_, 1) := by decide +kernel
theorem dX2_firstFault_0 : decode cX2_firstFault 0 = .ok (.iconst 0, 1) := by decide +kernel
theorem dX2_firstFault_1 : decode cX2_firstFault 1 = .ok (.istore_n 1, 1) := by decide +kernel
theorem dX2_firstFault_2 : decode cX2_firstFault 2 = .ok (.iconst 0, 1) := by decide +kernel
theorem dX2_firstFault_3 : decode cX2_firstFault 3 = .ok (.istore_n 2, 1) := by decide +kernel
theorem dX2_firstFault_4 : decode cX2_firstFault 4 = .ok (.iload_n 2, 1) := by decide +kernel
theorem dX2_firstFault_5 : decode cX2_firstFault 5 = .ok (.aload_n 0, 1) := by decide +kernel
theorem dX2_firstFault_6 : decode cX2_firstFault 6 = .ok (.getfield 15, 3) := by decide +kernel
theorem dX2_firstFault_9 : decode cX2_firstFault 9 = .ok (.if_icmp .ge 54, 3) := by decide +kernel
theorem dX2_firstFault_12 : decode cX2_firstFault 12 = .ok (.aload_n 0, 1) := by decide +kernel
theorem dX2_firstFault_13 : decode cX2_firstFault 13 = .ok (.getfield 9, 3) := by decide +kernel
theorem dX2_firstFault_16 : decode cX2_firstFault 16 = .ok (.iload_n 2, 1) := by decide +kernel
theorem dX2_firstFault_17 : decode cX2_firstFault 17 = .ok (.caload, 1) := by decide +kernel
theorem dX2_firstFault_18 : decode cX2_firstFault 18 = .ok (.bipush 95, 2) := by decide +kernel
theorem dX2_firstFault_20 : decode cX2_firstFault 20 = .ok (.if_icmp .ne 14, 3) := by decide +kernel
theorem dX2_firstFault_23 : decode cX2_firstFault 23 = .ok (.iload_n 1, 1) := by decide +kernel
theorem dX2_firstFault_24 : decode cX2_firstFault 24 = .ok (.ifCond .ne 5, 3) := by decide +kernel
theorem dX2_firstFault_27 : decode cX2_firstFault 27 = .ok (.iload_n 2, 1) := by decide +kernel
theorem dX2_firstFault_28 : decode cX2_firstFault 28 = .ok (.ireturn, 1) := by decide +kernel
theorem dX2_firstFault_29 : decode cX2_firstFault 29 = .ok (.iconst 0, 1) := by decide +kernel
theorem dX2_firstFault_30 : decode cX2_firstFault 30 = .ok (.istore_n 1, 1) := by decide +kernel
theorem dX2_firstFault_31 : decode cX2_firstFault 31 = .ok (.goto 26, 3) := by decide +kernel
theorem dX2_firstFault_34 : decode cX2_firstFault 34 = .ok (.aload_n 0, 1) := by decide +kernel
theorem dX2_firstFault_35 : decode cX2_firstFault 35 = .ok (.getfield 9, 3) := by decide +kernel
theorem dX2_firstFault_38 : decode cX2_firstFault 38 = .ok (.iload_n 2, 1) := by decide +kernel
theorem dX2_firstFault_39 : decode cX2_firstFault 39 = .ok (.caload, 1) := by decide +kernel
theorem dX2_firstFault_40 : decode cX2_firstFault 40 = .ok (.invokestatic 21, 3) := by decide +kernel
theorem dX2_firstFault_43 : decode cX2_firstFault 43 = .ok (.ifCond .lt 9, 3) := by decide +kernel
theorem dX2_firstFault_46 : decode cX2_firstFault 46 = .ok (.iload_n 1, 1) := by decide +kernel
theorem dX2_firstFault_47 : decode cX2_firstFault 47 = .ok (.bipush 10, 2) := by decide +kernel
theorem dX2_firstFault_49 : decode cX2_firstFault 49 = .ok (.if_icmp .ne 5, 3) := by decide +kernel
theorem dX2_firstFault_52 : decode cX2_firstFault 52 = .ok (.iload_n 2, 1) := by decide +kernel
theorem dX2_firstFault_53 : decode cX2_firstFault 53 = .ok (.ireturn, 1) := by decide +kernel
theorem dX2_firstFault_54 : decode cX2_firstFault 54 = .ok (.iinc 1 1, 3) := by decide +kernel
theorem dX2_firstFault_57 : decode cX2_firstFault 57 = .ok (.iinc 2 1, 3) := by decide +kernel
theorem dX2_firstFault_60 : decode cX2_firstFault 60 = .ok (.goto (-56), 3) := by decide +kernel
theorem dX2_firstFault_63 : decode cX2_firstFault 63 = .ok (.iload_n 1, 1) := by decide +kernel
theorem dX2_firstFault_64 : decode cX2_firstFault 64 = .ok (.ifCond .ne 10, 3) := by decide +kernel
theorem dX2_firstFault_67 : decode cX2_firstFault 67 = .ok (.aload_n 0, 1) := by decide +kernel
theorem dX2_firstFault_68 : decode cX2_firstFault 68 = .ok (.getfield 15, 3) := by decide +kernel
theorem dX2_firstFault_71 : decode cX2_firstFault 71 = .ok (.goto 6, 3) := by decide +kernel
theorem dX2_firstFault_74 : decode cX2_firstFault 74 = .ok (.sipush (-1006), 3) := by decide +kernel
theorem dX2_firstFault_77 : decode cX2_firstFault 77 = .ok (.ireturn, 1) := by decide +kernel
theorem dX2_countWords_0 : decode cX2_countWords 0 = .ok (.iconst 1, 1) := by decide +kernel
theorem dX2_countWords_1 : decode cX2_countWords 1 = .ok (.istore_n 1, 1) := by decide +kernel
theorem dX2_countWords_2 : decode cX2_countWords 2 = .ok (.iconst 0, 1) := by decide +kernel
theorem dX2_countWords_3 : decode cX2_countWords 3 = .ok (.istore_n 2, 1) := by decide +kernel
theorem dX2_countWords_4 : decode cX2_countWords 4 = .ok (.iload_n 2, 1) := by decide +kernel
theorem dX2_countWords_5 : decode cX2_countWords 5 = .ok (.aload_n 0, 1) := by decide +kernel
theorem dX2_countWords_6 : decode cX2_countWords 6 = .ok (.getfield 15, 3) := by decide +kernel
theorem dX2_countWords_9 : decode cX2_countWords 9 = .ok (.if_icmp .ge 23, 3) := by decide +kernel
theorem dX2_countWords_12 : decode cX2_countWords 12 = .ok (.aload_n 0, 1) := by decide +kernel
theorem dX2_countWords_13 : decode cX2_countWords 13 = .ok (.getfield 9, 3) := by decide +kernel
theorem dX2_countWords_16 : decode cX2_countWords 16 = .ok (.iload_n 2, 1) := by decide +kernel
theorem dX2_countWords_17 : decode cX2_countWords 17 = .ok (.caload, 1) := by decide +kernel
theorem dX2_countWords_18 : decode cX2_countWords 18 = .ok (.bipush 95, 2) := by decide +kernel
theorem dX2_countWords_20 : decode cX2_countWords 20 = .ok (.if_icmp .ne 6, 3) := by decide +kernel
theorem dX2_countWords_23 : decode cX2_countWords 23 = .ok (.iinc 1 1, 3) := by decide +kernel
theorem dX2_countWords_26 : decode cX2_countWords 26 = .ok (.iinc 2 1, 3) := by decide +kernel
theorem dX2_countWords_29 : decode cX2_countWords 29 = .ok (.goto (-25), 3) := by decide +kernel
theorem dX2_countWords_32 : decode cX2_countWords 32 = .ok (.iload_n 1, 1) := by decide +kernel
theorem dX2_countWords_33 : decode cX2_countWords 33 = .ok (.ireturn, 1) := by decide +kernel
theorem dX2_addWordsTo_0 : decode cX2_addWordsTo 0 = .ok (.aload_n 1, 1) := by decide +kernel
theorem dX2_addWordsTo_1 : decode cX2_addWordsTo 1 = .ok (.invokevirtual 25, 3) := by decide +kernel
theorem dX2_addWordsTo_4 : decode cX2_addWordsTo 4 = .ok (.iconst 0, 1) := by decide +kernel
theorem dX2_addWordsTo_5 : decode cX2_addWordsTo 5 = .ok (.istore_n 2, 1) := by decide +kernel
theorem dX2_addWordsTo_6 : decode cX2_addWordsTo 6 = .ok (.iload_n 2, 1) := by decide +kernel
theorem dX2_addWordsTo_7 : decode cX2_addWordsTo 7 = .ok (.aload_n 0, 1) := by decide +kernel
theorem dX2_addWordsTo_8 : decode cX2_addWordsTo 8 = .ok (.getfield 15, 3) := by decide +kernel
theorem dX2_addWordsTo_11 : decode cX2_addWordsTo 11 = .ok (.if_icmp .ge 37, 3) := by decide +kernel
theorem dX2_addWordsTo_14 : decode cX2_addWordsTo 14 = .ok (.aload_n 0, 1) := by decide +kernel
theorem dX2_addWordsTo_15 : decode cX2_addWordsTo 15 = .ok (.getfield 9, 3) := by decide +kernel
theorem dX2_addWordsTo_18 : decode cX2_addWordsTo 18 = .ok (.iload_n 2, 1) := by decide +kernel
theorem dX2_addWordsTo_19 : decode cX2_addWordsTo 19 = .ok (.caload, 1) := by decide +kernel
theorem dX2_addWordsTo_20 : decode cX2_addWordsTo 20 = .ok (.bipush 95, 2) := by decide +kernel
theorem dX2_addWordsTo_22 : decode cX2_addWordsTo 22 = .ok (.if_icmp .ne 10, 3) := by decide +kernel
theorem dX2_addWordsTo_25 : decode cX2_addWordsTo 25 = .ok (.aload_n 1, 1) := by decide +kernel
theorem dX2_addWordsTo_26 : decode cX2_addWordsTo 26 = .ok (.invokevirtual 25, 3) := by decide +kernel
theorem dX2_addWordsTo_29 : decode cX2_addWordsTo 29 = .ok (.goto 13, 3) := by decide +kernel
theorem dX2_addWordsTo_32 : decode cX2_addWordsTo 32 = .ok (.aload_n 1, 1) := by decide +kernel
theorem dX2_addWordsTo_33 : decode cX2_addWordsTo 33 = .ok (.aload_n 0, 1) := by decide +kernel
theorem dX2_addWordsTo_34 : decode cX2_addWordsTo 34 = .ok (.getfield 9, 3) := by decide +kernel
theorem dX2_addWordsTo_37 : decode cX2_addWordsTo 37 = .ok (.iload_n 2, 1) := by decide +kernel
theorem dX2_addWordsTo_38 : decode cX2_addWordsTo 38 = .ok (.caload, 1) := by decide +kernel
theorem dX2_addWordsTo_39 : decode cX2_addWordsTo 39 = .ok (.invokevirtual 30, 3) := by decide +kernel
theorem dX2_addWordsTo_42 : decode cX2_addWordsTo 42 = .ok (.iinc 2 1, 3) := by decide +kernel
theorem dX2_addWordsTo_45 : decode cX2_addWordsTo 45 = .ok (.goto (-39), 3) := by decide +kernel
theorem dX2_addWordsTo_48 : decode cX2_addWordsTo 48 = .ok (.return_, 1) := by decide +kernel
theorem dX3_init_0 : decode cX3_init 0 = .ok (.aload_n 0, 1) := by decide +kernel
theorem dX3_init_1 : decode cX3_init 1 = .ok (.invokespecial 3, 3) := by decide +kernel
theorem dX3_init_4 : decode cX3_init 4 = .ok (.aload_n 0, 1) := by decide +kernel
theorem dX3_init_5 : decode cX3_init 5 = .ok (.iconst 4, 1) := by decide +kernel
theorem dX3_init_6 : decode cX3_init 6 = .ok (.newarray .int, 2) := by decide +kernel
theorem dX3_init_8 : decode cX3_init 8 = .ok (.dup, 1) := by decide +kernel
theorem dX3_init_9 : decode cX3_init 9 = .ok (.iconst 0, 1) := by decide +kernel
theorem dX3_init_10 : decode cX3_init 10 = .ok (.bipush 80, 2) := by decide +kernel
theorem dX3_init_12 : decode cX3_init 12 = .ok (.iastore, 1) := by decide +kernel
theorem dX3_init_13 : decode cX3_init 13 = .ok (.dup, 1) := by decide +kernel
theorem dX3_init_14 : decode cX3_init 14 = .ok (.iconst 1, 1) := by decide +kernel
theorem dX3_init_15 : decode cX3_init 15 = .ok (.bipush 6, 2) := by decide +kernel
theorem dX3_init_17 : decode cX3_init 17 = .ok (.iastore, 1) := by decide +kernel
theorem dX3_init_18 : decode cX3_init 18 = .ok (.dup, 1) := by decide +kernel
theorem dX3_init_19 : decode cX3_init 19 = .ok (.iconst 2, 1) := by decide +kernel
theorem dX3_init_20 : decode cX3_init 20 = .ok (.bipush 12, 2) := by decide +kernel
theorem dX3_init_22 : decode cX3_init 22 = .ok (.iastore, 1) := by decide +kernel
theorem dX3_init_23 : decode cX3_init 23 = .ok (.dup, 1) := by decide +kernel
theorem dX3_init_24 : decode cX3_init 24 = .ok (.iconst 3, 1) := by decide +kernel
theorem dX3_init_25 : decode cX3_init 25 = .ok (.iconst 1, 1) := by decide +kernel
theorem dX3_init_26 : decode cX3_init 26 = .ok (.iastore, 1) := by decide +kernel
theorem dX3_init_27 : decode cX3_init 27 = .ok (.putfield 9, 3) := by decide +kernel
theorem dX3_init_30 : decode cX3_init 30 = .ok (.aload_n 0, 1) := by decide +kernel
theorem dX3_init_31 : decode cX3_init 31 = .ok (.bipush 8, 2) := by decide +kernel
theorem dX3_init_33 : decode cX3_init 33 = .ok (.newarray .int, 2) := by decide +kernel
theorem dX3_init_35 : decode cX3_init 35 = .ok (.dup, 1) := by decide +kernel
theorem dX3_init_36 : decode cX3_init 36 = .ok (.iconst 0, 1) := by decide +kernel
theorem dX3_init_37 : decode cX3_init 37 = .ok (.bipush 8, 2) := by decide +kernel
theorem dX3_init_39 : decode cX3_init 39 = .ok (.iastore, 1) := by decide +kernel
theorem dX3_init_40 : decode cX3_init 40 = .ok (.dup, 1) := by decide +kernel
theorem dX3_init_41 : decode cX3_init 41 = .ok (.iconst 1, 1) := by decide +kernel
theorem dX3_init_42 : decode cX3_init 42 = .ok (.iconst 3, 1) := by decide +kernel
theorem dX3_init_43 : decode cX3_init 43 = .ok (.iastore, 1) := by decide +kernel
theorem dX3_init_44 : decode cX3_init 44 = .ok (.dup, 1) := by decide +kernel
theorem dX3_init_45 : decode cX3_init 45 = .ok (.iconst 2, 1) := by decide +kernel
theorem dX3_init_46 : decode cX3_init 46 = .ok (.iconst 3, 1) := by decide +kernel
theorem dX3_init_47 : decode cX3_init 47 = .ok (.iastore, 1) := by decide +kernel
theorem dX3_init_48 : decode cX3_init 48 = .ok (.dup, 1) := by decide +kernel
theorem dX3_init_49 : decode cX3_init 49 = .ok (.iconst 3, 1) := by decide +kernel
theorem dX3_init_50 : decode cX3_init 50 = .ok (.iconst 3, 1) := by decide +kernel
theorem dX3_init_51 : decode cX3_init 51 = .ok (.iastore, 1) := by decide +kernel
theorem dX3_init_52 : decode cX3_init 52 = .ok (.dup, 1) := by decide +kernel
theorem dX3_init_53 : decode cX3_init 53 = .ok (.iconst 4, 1) := by decide +kernel
theorem dX3_init_54 : decode cX3_init 54 = .ok (.iconst 3, 1) := by decide +kernel
theorem dX3_init_55 : decode cX3_init 55 = .ok (.iastore, 1) := by decide +kernel
theorem dX3_init_56 : decode cX3_init 56 = .ok (.dup, 1) := by decide +kernel
theorem dX3_init_57 : decode cX3_init 57 = .ok (.iconst 5, 1) := by decide +kernel
theorem dX3_init_58 : decode cX3_init 58 = .ok (.iconst 5, 1) := by decide +kernel
theorem dX3_init_59 : decode cX3_init 59 = .ok (.iastore, 1) := by decide +kernel
theorem dX3_init_60 : decode cX3_init 60 = .ok (.dup, 1) := by decide +kernel
theorem dX3_init_61 : decode cX3_init 61 = .ok (.bipush 6, 2) := by decide +kernel
theorem dX3_init_63 : decode cX3_init 63 = .ok (.iconst 3, 1) := by decide +kernel
theorem dX3_init_64 : decode cX3_init 64 = .ok (.iastore, 1) := by decide +kernel
theorem dX3_init_65 : decode cX3_init 65 = .ok (.dup, 1) := by decide +kernel
theorem dX3_init_66 : decode cX3_init 66 = .ok (.bipush 7, 2) := by decide +kernel
theorem dX3_init_68 : decode cX3_init 68 = .ok (.iconst 3, 1) := by decide +kernel
theorem dX3_init_69 : decode cX3_init 69 = .ok (.iastore, 1) := by decide +kernel
theorem dX3_init_70 : decode cX3_init 70 = .ok (.putfield 15, 3) := by decide +kernel
theorem dX3_init_73 : decode cX3_init 73 = .ok (.aload_n 0, 1) := by decide +kernel
theorem dX3_init_74 : decode cX3_init 74 = .ok (.bipush 8, 2) := by decide +kernel
theorem dX3_init_76 : decode cX3_init 76 = .ok (.newarray .int, 2) := by decide +kernel
theorem dX3_init_78 : decode cX3_init 78 = .ok (.dup, 1) := by decide +kernel
theorem dX3_init_79 : decode cX3_init 79 = .ok (.iconst 0, 1) := by decide +kernel
theorem dX3_init_80 : decode cX3_init 80 = .ok (.iconst 0, 1) := by decide +kernel
theorem dX3_init_81 : decode cX3_init 81 = .ok (.iastore, 1) := by decide +kernel
theorem dX3_init_82 : decode cX3_init 82 = .ok (.dup, 1) := by decide +kernel
theorem dX3_init_83 : decode cX3_init 83 = .ok (.iconst 1, 1) := by decide +kernel
theorem dX3_init_84 : decode cX3_init 84 = .ok (.iconst 0, 1) := by decide +kernel
theorem dX3_init_85 : decode cX3_init 85 = .ok (.iastore, 1) := by decide +kernel
theorem dX3_init_86 : decode cX3_init 86 = .ok (.dup, 1) := by decide +kernel
theorem dX3_init_87 : decode cX3_init 87 = .ok (.iconst 2, 1) := by decide +kernel
theorem dX3_init_88 : decode cX3_init 88 = .ok (.iconst 0, 1) := by decide +kernel
theorem dX3_init_89 : decode cX3_init 89 = .ok (.iastore, 1) := by decide +kernel
theorem dX3_init_90 : decode cX3_init 90 = .ok (.dup, 1) := by decide +kernel
theorem dX3_init_91 : decode cX3_init 91 = .ok (.iconst 3, 1) := by decide +kernel
theorem dX3_init_92 : decode cX3_init 92 = .ok (.iconst 0, 1) := by decide +kernel
theorem dX3_init_93 : decode cX3_init 93 = .ok (.iastore, 1) := by decide +kernel
theorem dX3_init_94 : decode cX3_init 94 = .ok (.dup, 1) := by decide +kernel
theorem dX3_init_95 : decode cX3_init 95 = .ok (.iconst 4, 1) := by decide +kernel
theorem dX3_init_96 : decode cX3_init 96 = .ok (.iconst 0, 1) := by decide +kernel
theorem dX3_init_97 : decode cX3_init 97 = .ok (.iastore, 1) := by decide +kernel
theorem dX3_init_98 : decode cX3_init 98 = .ok (.dup, 1) := by decide +kernel
theorem dX3_init_99 : decode cX3_init 99 = .ok (.iconst 5, 1) := by decide +kernel
theorem dX3_init_100 : decode cX3_init 100 = .ok (.iconst 0, 1) := by decide +kernel
theorem dX3_init_101 : decode cX3_init 101 = .ok (.iastore, 1) := by decide +kernel
theorem dX3_init_102 : decode cX3_init 102 = .ok (.dup, 1) := by decide +kernel
theorem dX3_init_103 : decode cX3_init 103 = .ok (.bipush 6, 2) := by decide +kernel
theorem dX3_init_105 : decode cX3_init 105 = .ok (.bipush 60, 2) := by decide +kernel
theorem dX3_init_107 : decode cX3_init 107 = .ok (.iastore, 1) := by decide +kernel
theorem dX3_init_108 : decode cX3_init 108 = .ok (.dup, 1) := by decide +kernel
theorem dX3_init_109 : decode cX3_init 109 = .ok (.bipush 7, 2) := by decide +kernel
theorem dX3_init_111 : decode cX3_init 111 = .ok (.iconst 0, 1) := by decide +kernel
theorem dX3_init_112 : decode cX3_init 112 = .ok (.iastore, 1) := by decide +kernel
theorem dX3_init_113 : decode cX3_init 113 = .ok (.putfield 18, 3) := by decide +kernel
theorem dX3_init_116 : decode cX3_init 116 = .ok (.aload_n 0, 1) := by decide +kernel
theorem dX3_init_117 : decode cX3_init 117 = .ok (.bipush 8, 2) := by decide +kernel
theorem dX3_init_119 : decode cX3_init 119 = .ok (.newarray .int, 2) := by decide +kernel
theorem dX3_init_121 : decode cX3_init 121 = .ok (.dup, 1) := by decide +kernel
theorem dX3_init_122 : decode cX3_init 122 = .ok (.iconst 0, 1) := by decide +kernel
theorem dX3_init_123 : decode cX3_init 123 = .ok (.iconst 0, 1) := by decide +kernel
theorem dX3_init_124 : decode cX3_init 124 = .ok (.iastore, 1) := by decide +kernel
theorem dX3_init_125 : decode cX3_init 125 = .ok (.dup, 1) := by decide +kernel
theorem dX3_init_126 : decode cX3_init 126 = .ok (.iconst 1, 1) := by decide +kernel
theorem dX3_init_127 : decode cX3_init 127 = .ok (.bipush 100, 2) := by decide +kernel
theorem dX3_init_129 : decode cX3_init 129 = .ok (.iastore, 1) := by decide +kernel
theorem dX3_init_130 : decode cX3_init 130 = .ok (.dup, 1) := by decide +kernel
theorem dX3_init_131 : decode cX3_init 131 = .ok (.iconst 2, 1) := by decide +kernel
theorem dX3_init_132 : decode cX3_init 132 = .ok (.bipush 100, 2) := by decide +kernel
theorem dX3_init_134 : decode cX3_init 134 = .ok (.iastore, 1) := by decide +kernel
theorem dX3_init_135 : decode cX3_init 135 = .ok (.dup, 1) := by decide +kernel
theorem dX3_init_136 : decode cX3_init 136 = .ok (.iconst 3, 1) := by decide +kernel
theorem dX3_init_137 : decode cX3_init 137 = .ok (.bipush 50, 2) := by decide +kernel
theorem dX3_init_139 : decode cX3_init 139 = .ok (.iastore, 1) := by decide +kernel
theorem dX3_init_140 : decode cX3_init 140 = .ok (.dup, 1) := by decide +kernel
theorem dX3_init_141 : decode cX3_init 141 = .ok (.iconst 4, 1) := by decide +kernel
theorem dX3_init_142 : decode cX3_init 142 = .ok (.bipush 50, 2) := by decide +kernel
theorem dX3_init_144 : decode cX3_init 144 = .ok (.iastore, 1) := by decide +kernel
theorem dX3_init_145 : decode cX3_init 145 = .ok (.dup, 1) := by decide +kernel
theorem dX3_init_146 : decode cX3_init 146 = .ok (.iconst 5, 1) := by decide +kernel
theorem dX3_init_147 : decode cX3_init 147 = .ok (.bipush 70, 2) := by decide +kernel
theorem dX3_init_149 : decode cX3_init 149 = .ok (.iastore, 1) := by decide +kernel
theorem dX3_init_150 : decode cX3_init 150 = .ok (.dup, 1) := by decide +kernel
theorem dX3_init_151 : decode cX3_init 151 = .ok (.bipush 6, 2) := by decide +kernel
theorem dX3_init_153 : decode cX3_init 153 = .ok (.bipush 60, 2) := by decide +kernel
theorem dX3_init_155 : decode cX3_init 155 = .ok (.iastore, 1) := by decide +kernel
theorem dX3_init_156 : decode cX3_init 156 = .ok (.dup, 1) := by decide +kernel
theorem dX3_init_157 : decode cX3_init 157 = .ok (.bipush 7, 2) := by decide +kernel
theorem dX3_init_159 : decode cX3_init 159 = .ok (.iconst 0, 1) := by decide +kernel
theorem dX3_init_160 : decode cX3_init 160 = .ok (.iastore, 1) := by decide +kernel
theorem dX3_init_161 : decode cX3_init 161 = .ok (.putfield 21, 3) := by decide +kernel
theorem dX3_init_164 : decode cX3_init 164 = .ok (.aload_n 0, 1) := by decide +kernel
theorem dX3_init_165 : decode cX3_init 165 = .ok (.sipush 240, 3) := by decide +kernel
theorem dX3_init_168 : decode cX3_init 168 = .ok (.newarray .char, 2) := by decide +kernel
theorem dX3_init_170 : decode cX3_init 170 = .ok (.putfield 24, 3) := by decide +kernel
theorem dX3_init_173 : decode cX3_init 173 = .ok (.aload_n 0, 1) := by decide +kernel
theorem dX3_init_174 : decode cX3_init 174 = .ok (.bipush 24, 2) := by decide +kernel
theorem dX3_init_176 : decode cX3_init 176 = .ok (.newarray .int, 2) := by decide +kernel
theorem dX3_init_178 : decode cX3_init 178 = .ok (.putfield 28, 3) := by decide +kernel
theorem dX3_init_181 : decode cX3_init 181 = .ok (.aload_n 0, 1) := by decide +kernel
theorem dX3_init_182 : decode cX3_init 182 = .ok (.iconst 0, 1) := by decide +kernel
theorem dX3_init_183 : decode cX3_init 183 = .ok (.putfield 31, 3) := by decide +kernel
theorem dX3_init_186 : decode cX3_init 186 = .ok (.return_, 1) := by decide +kernel
theorem dX3_copyFrom_0 : decode cX3_copyFrom 0 = .ok (.aload_n 1, 1) := by decide +kernel
theorem dX3_copyFrom_1 : decode cX3_copyFrom 1 = .ok (.getfield 9, 3) := by decide +kernel
theorem dX3_copyFrom_4 : decode cX3_copyFrom 4 = .ok (.iconst 0, 1) := by decide +kernel
theorem dX3_copyFrom_5 : decode cX3_copyFrom 5 = .ok (.aload_n 0, 1) := by decide +kernel
theorem dX3_copyFrom_6 : decode cX3_copyFrom 6 = .ok (.getfield 9, 3) := by decide +kernel
theorem dX3_copyFrom_9 : decode cX3_copyFrom 9 = .ok (.iconst 0, 1) := by decide +kernel
theorem dX3_copyFrom_10 : decode cX3_copyFrom 10 = .ok (.iconst 4, 1) := by decide +kernel
theorem dX3_copyFrom_11 : decode cX3_copyFrom 11 = .ok (.invokestatic 35, 3) := by decide +kernel
theorem dX3_copyFrom_14 : decode cX3_copyFrom 14 = .ok (.aload_n 1, 1) := by decide +kernel
theorem dX3_copyFrom_15 : decode cX3_copyFrom 15 = .ok (.getfield 15, 3) := by decide +kernel
theorem dX3_copyFrom_18 : decode cX3_copyFrom 18 = .ok (.iconst 0, 1) := by decide +kernel
theorem dX3_copyFrom_19 : decode cX3_copyFrom 19 = .ok (.aload_n 0, 1) := by decide +kernel
theorem dX3_copyFrom_20 : decode cX3_copyFrom 20 = .ok (.getfield 15, 3) := by decide +kernel
theorem dX3_copyFrom_23 : decode cX3_copyFrom 23 = .ok (.iconst 0, 1) := by decide +kernel
theorem dX3_copyFrom_24 : decode cX3_copyFrom 24 = .ok (.bipush 8, 2) := by decide +kernel
theorem dX3_copyFrom_26 : decode cX3_copyFrom 26 = .ok (.invokestatic 35, 3) := by decide +kernel
theorem dX3_copyFrom_29 : decode cX3_copyFrom 29 = .ok (.aload_n 1, 1) := by decide +kernel
theorem dX3_copyFrom_30 : decode cX3_copyFrom 30 = .ok (.getfield 18, 3) := by decide +kernel
theorem dX3_copyFrom_33 : decode cX3_copyFrom 33 = .ok (.iconst 0, 1) := by decide +kernel
theorem dX3_copyFrom_34 : decode cX3_copyFrom 34 = .ok (.aload_n 0, 1) := by decide +kernel
theorem dX3_copyFrom_35 : decode cX3_copyFrom 35 = .ok (.getfield 18, 3) := by decide +kernel
theorem dX3_copyFrom_38 : decode cX3_copyFrom 38 = .ok (.iconst 0, 1) := by decide +kernel
theorem dX3_copyFrom_39 : decode cX3_copyFrom 39 = .ok (.bipush 8, 2) := by decide +kernel
theorem dX3_copyFrom_41 : decode cX3_copyFrom 41 = .ok (.invokestatic 35, 3) := by decide +kernel
theorem dX3_copyFrom_44 : decode cX3_copyFrom 44 = .ok (.aload_n 1, 1) := by decide +kernel
theorem dX3_copyFrom_45 : decode cX3_copyFrom 45 = .ok (.getfield 21, 3) := by decide +kernel
theorem dX3_copyFrom_48 : decode cX3_copyFrom 48 = .ok (.iconst 0, 1) := by decide +kernel
theorem dX3_copyFrom_49 : decode cX3_copyFrom 49 = .ok (.aload_n 0, 1) := by decide +kernel
theorem dX3_copyFrom_50 : decode cX3_copyFrom 50 = .ok (.getfield 21, 3) := by decide +kernel
theorem dX3_copyFrom_53 : decode cX3_copyFrom 53 = .ok (.iconst 0, 1) := by decide +kernel
theorem dX3_copyFrom_54 : decode cX3_copyFrom 54 = .ok (.bipush 8, 2) := by decide +kernel
theorem dX3_copyFrom_56 : decode cX3_copyFrom 56 = .ok (.invokestatic 35, 3) := by decide +kernel
theorem dX3_copyFrom_59 : decode cX3_copyFrom 59 = .ok (.aload_n 1, 1) := by decide +kernel
theorem dX3_copyFrom_60 : decode cX3_copyFrom 60 = .ok (.getfield 24, 3) := by decide +kernel
theorem dX3_copyFrom_63 : decode cX3_copyFrom 63 = .ok (.iconst 0, 1) := by decide +kernel
theorem dX3_copyFrom_64 : decode cX3_copyFrom 64 = .ok (.aload_n 0, 1) := by decide +kernel
theorem dX3_copyFrom_65 : decode cX3_copyFrom 65 = .ok (.getfield 24, 3) := by decide +kernel
theorem dX3_copyFrom_68 : decode cX3_copyFrom 68 = .ok (.iconst 0, 1) := by decide +kernel
theorem dX3_copyFrom_69 : decode cX3_copyFrom 69 = .ok (.aload_n 1, 1) := by decide +kernel
theorem dX3_copyFrom_70 : decode cX3_copyFrom 70 = .ok (.getfield 31, 3) := by decide +kernel
theorem dX3_copyFrom_73 : decode cX3_copyFrom 73 = .ok (.bipush 10, 2) := by decide +kernel
theorem dX3_copyFrom_75 : decode cX3_copyFrom 75 = .ok (.imul, 1) := by decide +kernel
theorem dX3_copyFrom_76 : decode cX3_copyFrom 76 = .ok (.invokestatic 35, 3) := by decide +kernel
theorem dX3_copyFrom_79 : decode cX3_copyFrom 79 = .ok (.aload_n 1, 1) := by decide +kernel
theorem dX3_copyFrom_80 : decode cX3_copyFrom 80 = .ok (.getfield 28, 3) := by decide +kernel
theorem dX3_copyFrom_83 : decode cX3_copyFrom 83 = .ok (.iconst 0, 1) := by decide +kernel
theorem dX3_copyFrom_84 : decode cX3_copyFrom 84 = .ok (.aload_n 0, 1) := by decide +kernel
theorem dX3_copyFrom_85 : decode cX3_copyFrom 85 = .ok (.getfield 28, 3) := by decide +kernel
theorem dX3_copyFrom_88 : decode cX3_copyFrom 88 = .ok (.iconst 0, 1) := by decide +kernel
theorem dX3_copyFrom_89 : decode cX3_copyFrom 89 = .ok (.aload_n 1, 1) := by decide +kernel
theorem dX3_copyFrom_90 : decode cX3_copyFrom 90 = .ok (.getfield 31, 3) := by decide +kernel
theorem dX3_copyFrom_93 : decode cX3_copyFrom 93 = .ok (.invokestatic 35, 3) := by decide +kernel
theorem dX3_copyFrom_96 : decode cX3_copyFrom 96 = .ok (.aload_n 0, 1) := by decide +kernel
theorem dX3_copyFrom_97 : decode cX3_copyFrom 97 = .ok (.aload_n 1, 1) := by decide +kernel
theorem dX3_copyFrom_98 : decode cX3_copyFrom 98 = .ok (.getfield 31, 3) := by decide +kernel
theorem dX3_copyFrom_101 : decode cX3_copyFrom 101 = .ok (.putfield 31, 3) := by decide +kernel
theorem dX3_copyFrom_104 : decode cX3_copyFrom 104 = .ok (.return_, 1) := by decide +kernel
theorem dX3_beginWord_0 : decode cX3_beginWord 0 = .ok (.aload_n 0, 1) := by decide +kernel
theorem dX3_beginWord_1 : decode cX3_beginWord 1 = .ok (.getfield 31, 3) := by decide +kernel
theorem dX3_beginWord_4 : decode cX3_beginWord 4 = .ok (.bipush 24, 2) := by decide +kernel
theorem dX3_beginWord_6 : decode cX3_beginWord 6 = .ok (.if_icmp .lt 4, 3) := by decide +kernel
theorem dX3_beginWord_9 : decode cX3_beginWord 9 = .ok (.return_, 1) := by decide +kernel
theorem dX3_beginWord_10 : decode cX3_beginWord 10 = .ok (.aload_n 0, 1) := by decide +kernel
theorem dX3_beginWord_11 : decode cX3_beginWord 11 = .ok (.getfield 28, 3) := by decide +kernel
theorem dX3_beginWord_14 : decode cX3_beginWord 14 = .ok (.aload_n 0, 1) := by decide +kernel
theorem dX3_beginWord_15 : decode cX3_beginWord 15 = .ok (.getfield 31, 3) := by decide +kernel
theorem dX3_beginWord_18 : decode cX3_beginWord 18 = .ok (.iconst 0, 1) := by decide +kernel
theorem dX3_beginWord_19 : decode cX3_beginWord 19 = .ok (.iastore, 1) := by decide +kernel
theorem dX3_beginWord_20 : decode cX3_beginWord 20 = .ok (.aload_n 0, 1) := by decide +kernel
theorem dX3_beginWord_21 : decode cX3_beginWord 21 = .ok (.dup, 1) := by decide +kernel
theorem dX3_beginWord_22 : decode cX3_beginWord 22 = .ok (.getfield 31, 3) := by decide +kernel
theorem dX3_beginWord_25 : decode cX3_beginWord 25 = .ok (.iconst 1, 1) := by decide +kernel
theorem dX3_beginWord_26 : decode cX3_beginWord 26 = .ok (.iadd, 1) := by decide +kernel
theorem dX3_beginWord_27 : decode cX3_beginWord 27 = .ok (.putfield 31, 3) := by decide +kernel
theorem dX3_beginWord_30 : decode cX3_beginWord 30 = .ok (.return_, 1) := by decide +kernel
theorem dX3_addSign_0 : decode cX3_addSign 0 = .ok (.aload_n 0, 1) := by decide +kernel
theorem dX3_addSign_1 : decode cX3_addSign 1 = .ok (.getfield 31, 3) := by decide +kernel
theorem dX3_addSign_4 : decode cX3_addSign 4 = .ok (.iconst 1, 1) := by decide +kernel
theorem dX3_addSign_5 : decode cX3_addSign 5 = .ok (.isub, 1) := by decide +kernel
theorem dX3_addSign_6 : decode cX3_addSign 6 = .ok (.istore_n 2, 1) := by decide +kernel
theorem dX3_addSign_7 : decode cX3_addSign 7 = .ok (.iload_n 2, 1) := by decide +kernel
theorem dX3_addSign_8 : decode cX3_addSign 8 = .ok (.ifCond .lt 14, 3) := by decide +kernel
theorem dX3_addSign_11 : decode cX3_addSign 11 = .ok (.aload_n 0, 1) := by decide +kernel
theorem dX3_addSign_12 : decode cX3_addSign 12 = .ok (.getfield 28, 3) := by decide +kernel
theorem dX3_addSign_15 : decode cX3_addSign 15 = .ok (.iload_n 2, 1) := by decide +kernel
theorem dX3_addSign_16 : decode cX3_addSign 16 = .ok (.iaload, 1) := by decide +kernel
theorem dX3_addSign_17 : decode cX3_addSign 17 = .ok (.bipush 10, 2) := by decide +kernel
theorem dX3_addSign_19 : decode cX3_addSign 19 = .ok (.if_icmp .lt 4, 3) := by decide +kernel
theorem dX3_addSign_22 : decode cX3_addSign 22 = .ok (.return_, 1) := by decide +kernel
theorem dX3_addSign_23 : decode cX3_addSign 23 = .ok (.aload_n 0, 1) := by decide +kernel
theorem dX3_addSign_24 : decode cX3_addSign 24 = .ok (.getfield 24, 3) := by decide +kernel
theorem dX3_addSign_27 : decode cX3_addSign 27 = .ok (.iload_n 2, 1) := by decide +kernel
theorem dX3_addSign_28 : decode cX3_addSign 28 = .ok (.bipush 10, 2) := by decide +kernel
theorem dX3_addSign_30 : decode cX3_addSign 30 = .ok (.imul, 1) := by decide +kernel
theorem dX3_addSign_31 : decode cX3_addSign 31 = .ok (.aload_n 0, 1) := by decide +kernel
theorem dX3_addSign_32 : decode cX3_addSign 32 = .ok (.getfield 28, 3) := by decide +kernel
theorem dX3_addSign_35 : decode cX3_addSign 35 = .ok (.iload_n 2, 1) := by decide +kernel
theorem dX3_addSign_36 : decode cX3_addSign 36 = .ok (.iaload, 1) := by decide +kernel
theorem dX3_addSign_37 : decode cX3_addSign 37 = .ok (.iadd, 1) := by decide +kernel
theorem dX3_addSign_38 : decode cX3_addSign 38 = .ok (.iload_n 1, 1) := by decide +kernel
theorem dX3_addSign_39 : decode cX3_addSign 39 = .ok (.castore, 1) := by decide +kernel
theorem dX3_addSign_40 : decode cX3_addSign 40 = .ok (.aload_n 0, 1) := by decide +kernel
theorem dX3_addSign_41 : decode cX3_addSign 41 = .ok (.getfield 28, 3) := by decide +kernel
theorem dX3_addSign_44 : decode cX3_addSign 44 = .ok (.iload_n 2, 1) := by decide +kernel
theorem dX3_addSign_45 : decode cX3_addSign 45 = .ok (.dup2, 1) := by decide +kernel
theorem dX3_addSign_46 : decode cX3_addSign 46 = .ok (.iaload, 1) := by decide +kernel
theorem dX3_addSign_47 : decode cX3_addSign 47 = .ok (.iconst 1, 1) := by decide +kernel
theorem dX3_addSign_48 : decode cX3_addSign 48 = .ok (.iadd, 1) := by decide +kernel
theorem dX3_addSign_49 : decode cX3_addSign 49 = .ok (.iastore, 1) := by decide +kernel
theorem dX3_addSign_50 : decode cX3_addSign 50 = .ok (.return_, 1) := by decide +kernel
theorem dX3_takeOut_0 : decode cX3_takeOut 0 = .ok (.iload_n 1, 1) := by decide +kernel
theorem dX3_takeOut_1 : decode cX3_takeOut 1 = .ok (.iconst 1, 1) := by decide +kernel
theorem dX3_takeOut_2 : decode cX3_takeOut 2 = .ok (.iadd, 1) := by decide +kernel
theorem dX3_takeOut_3 : decode cX3_takeOut 3 = .ok (.istore_n 2, 1) := by decide +kernel
theorem dX3_takeOut_4 : decode cX3_takeOut 4 = .ok (.iload_n 2, 1) := by decide +kernel
theorem dX3_takeOut_5 : decode cX3_takeOut 5 = .ok (.aload_n 0, 1) := by decide +kernel
theorem dX3_takeOut_6 : decode cX3_takeOut 6 = .ok (.getfield 31, 3) := by decide +kernel
theorem dX3_takeOut_9 : decode cX3_takeOut 9 = .ok (.if_icmp .ge 46, 3) := by decide +kernel
theorem dX3_takeOut_12 : decode cX3_takeOut 12 = .ok (.aload_n 0, 1) := by decide +kernel
theorem dX3_takeOut_13 : decode cX3_takeOut 13 = .ok (.getfield 24, 3) := by decide +kernel
theorem dX3_takeOut_16 : decode cX3_takeOut 16 = .ok (.iload_n 2, 1) := by decide +kernel
theorem dX3_takeOut_17 : decode cX3_takeOut 17 = .ok (.bipush 10, 2) := by decide +kernel
theorem dX3_takeOut_19 : decode cX3_takeOut 19 = .ok (.imul, 1) := by decide +kernel
theorem dX3_takeOut_20 : decode cX3_takeOut 20 = .ok (.aload_n 0, 1) := by decide +kernel
theorem dX3_takeOut_21 : decode cX3_takeOut 21 = .ok (.getfield 24, 3) := by decide +kernel
theorem dX3_takeOut_24 : decode cX3_takeOut 24 = .ok (.iload_n 2, 1) := by decide +kernel
theorem dX3_takeOut_25 : decode cX3_takeOut 25 = .ok (.iconst 1, 1) := by decide +kernel
theorem dX3_takeOut_26 : decode cX3_takeOut 26 = .ok (.isub, 1) := by decide +kernel
theorem dX3_takeOut_27 : decode cX3_takeOut 27 = .ok (.bipush 10, 2) := by decide +kernel
theorem dX3_takeOut_29 : decode cX3_takeOut 29 = .ok (.imul, 1) := by decide +kernel
theorem dX3_takeOut_30 : decode cX3_takeOut 30 = .ok (.bipush 10, 2) := by decide +kernel
theorem dX3_takeOut_32 : decode cX3_takeOut 32 = .ok (.invokestatic 35, 3) := by decide +kernel
theorem dX3_takeOut_35 : decode cX3_takeOut 35 = .ok (.aload_n 0, 1) := by decide +kernel
theorem dX3_takeOut_36 : decode cX3_takeOut 36 = .ok (.getfield 28, 3) := by decide +kernel
theorem dX3_takeOut_39 : decode cX3_takeOut 39 = .ok (.iload_n 2, 1) := by decide +kernel
theorem dX3_takeOut_40 : decode cX3_takeOut 40 = .ok (.iconst 1, 1) := by decide +kernel
theorem dX3_takeOut_41 : decode cX3_takeOut 41 = .ok (.isub, 1) := by decide +kernel
theorem dX3_takeOut_42 : decode cX3_takeOut 42 = .ok (.aload_n 0, 1) := by decide +kernel
theorem dX3_takeOut_43 : decode cX3_takeOut 43 = .ok (.getfield 28, 3) := by decide +kernel
theorem dX3_takeOut_46 : decode cX3_takeOut 46 = .ok (.iload_n 2, 1) := by decide +kernel
theorem dX3_takeOut_47 : decode cX3_takeOut 47 = .ok (.iaload, 1) := by decide +kernel
theorem dX3_takeOut_48 : decode cX3_takeOut 48 = .ok (.iastore, 1) := by decide +kernel
theorem dX3_takeOut_49 : decode cX3_takeOut 49 = .ok (.iinc 2 1, 3) := by decide +kernel
theorem dX3_takeOut_52 : decode cX3_takeOut 52 = .ok (.goto (-48), 3) := by decide +kernel
theorem dX3_takeOut_55 : decode cX3_takeOut 55 = .ok (.aload_n 0, 1) := by decide +kernel
theorem dX3_takeOut_56 : decode cX3_takeOut 56 = .ok (.dup, 1) := by decide +kernel
theorem dX3_takeOut_57 : decode cX3_takeOut 57 = .ok (.getfield 31, 3) := by decide +kernel
theorem dX3_takeOut_60 : decode cX3_takeOut 60 = .ok (.iconst 1, 1) := by decide +kernel
theorem dX3_takeOut_61 : decode cX3_takeOut 61 = .ok (.isub, 1) := by decide +kernel
theorem dX3_takeOut_62 : decode cX3_takeOut 62 = .ok (.putfield 31, 3) := by decide +kernel
theorem dX3_takeOut_65 : decode cX3_takeOut 65 = .ok (.return_, 1) := by decide +kernel
theorem dX3_exchange_0 : decode cX3_exchange 0 = .ok (.iconst 0, 1) := by decide +kernel
theorem dX3_exchange_1 : decode cX3_exchange 1 = .ok (.istore_n 3, 1) := by decide +kernel
theorem dX3_exchange_2 : decode cX3_exchange 2 = .ok (.iload_n 3, 1) := by decide +kernel
theorem dX3_exchange_3 : decode cX3_exchange 3 = .ok (.bipush 10, 2) := by decide +kernel
theorem dX3_exchange_5 : decode cX3_exchange 5 = .ok (.if_icmp .ge 57, 3) := by decide +kernel
theorem dX3_exchange_8 : decode cX3_exchange 8 = .ok (.aload_n 0, 1) := by decide +kernel
theorem dX3_exchange_9 : decode cX3_exchange 9 = .ok (.getfield 24, 3) := by decide +kernel
theorem dX3_exchange_12 : decode cX3_exchange 12 = .ok (.iload_n 1, 1) := by decide +kernel
theorem dX3_exchange_13 : decode cX3_exchange 13 = .ok (.bipush 10, 2) := by decide +kernel
theorem dX3_exchange_15 : decode cX3_exchange 15 = .ok (.imul, 1) := by decide +kernel
theorem dX3_exchange_16 : decode cX3_exchange 16 = .ok (.iload_n 3, 1) := by decide +kernel
theorem dX3_exchange_17 : decode cX3_exchange 17 = .ok (.iadd, 1) := by decide +kernel
theorem dX3_exchange_18 : decode cX3_exchange 18 = .ok (.caload, 1) := by decide +kernel
theorem dX3_exchange_19 : decode cX3_exchange 19 = .ok (.istore 4, 2) := by decide +kernel
theorem dX3_exchange_21 : decode cX3_exchange 21 = .ok (.aload_n 0, 1) := by decide +kernel
theorem dX3_exchange_22 : decode cX3_exchange 22 = .ok (.getfield 24, 3) := by decide +kernel
theorem dX3_exchange_25 : decode cX3_exchange 25 = .ok (.iload_n 1, 1) := by decide +kernel
theorem dX3_exchange_26 : decode cX3_exchange 26 = .ok (.bipush 10, 2) := by decide +kernel
theorem dX3_exchange_28 : decode cX3_exchange 28 = .ok (.imul, 1) := by decide +kernel
theorem dX3_exchange_29 : decode cX3_exchange 29 = .ok (.iload_n 3, 1) := by decide +kernel
theorem dX3_exchange_30 : decode cX3_exchange 30 = .ok (.iadd, 1) := by decide +kernel
theorem dX3_exchange_31 : decode cX3_exchange 31 = .ok (.aload_n 0, 1) := by decide +kernel
theorem dX3_exchange_32 : decode cX3_exchange 32 = .ok (.getfield 24, 3) := by decide +kernel
theorem dX3_exchange_35 : decode cX3_exchange 35 = .ok (.iload_n 2, 1) := by decide +kernel
theorem dX3_exchange_36 : decode cX3_exchange 36 = .ok (.bipush 10, 2) := by decide +kernel
theorem dX3_exchange_38 : decode cX3_exchange 38 = .ok (.imul, 1) := by decide +kernel
theorem dX3_exchange_39 : decode cX3_exchange 39 = .ok (.iload_n 3, 1) := by decide +kernel
theorem dX3_exchange_40 : decode cX3_exchange 40 = .ok (.iadd, 1) := by decide +kernel
theorem dX3_exchange_41 : decode cX3_exchange 41 = .ok (.caload, 1) := by decide +kernel
theorem dX3_exchange_42 : decode cX3_exchange 42 = .ok (.castore, 1) := by decide +kernel
theorem dX3_exchange_43 : decode cX3_exchange 43 = .ok (.aload_n 0, 1) := by decide +kernel
theorem dX3_exchange_44 : decode cX3_exchange 44 = .ok (.getfield 24, 3) := by decide +kernel
theorem dX3_exchange_47 : decode cX3_exchange 47 = .ok (.iload_n 2, 1) := by decide +kernel
theorem dX3_exchange_48 : decode cX3_exchange 48 = .ok (.bipush 10, 2) := by decide +kernel
theorem dX3_exchange_50 : decode cX3_exchange 50 = .ok (.imul, 1) := by decide +kernel
theorem dX3_exchange_51 : decode cX3_exchange 51 = .ok (.iload_n 3, 1) := by decide +kernel
theorem dX3_exchange_52 : decode cX3_exchange 52 = .ok (.iadd, 1) := by decide +kernel
theorem dX3_exchange_53 : decode cX3_exchange 53 = .ok (.iload 4, 2) := by decide +kernel
theorem dX3_exchange_55 : decode cX3_exchange 55 = .ok (.castore, 1) := by decide +kernel
theorem dX3_exchange_56 : decode cX3_exchange 56 = .ok (.iinc 3 1, 3) := by decide +kernel
theorem dX3_exchange_59 : decode cX3_exchange 59 = .ok (.goto (-57), 3) := by decide +kernel
theorem dX3_exchange_62 : decode cX3_exchange 62 = .ok (.aload_n 0, 1) := by decide +kernel
theorem dX3_exchange_63 : decode cX3_exchange 63 = .ok (.getfield 28, 3) := by decide +kernel
theorem dX3_exchange_66 : decode cX3_exchange 66 = .ok (.iload_n 1, 1) := by decide +kernel
theorem dX3_exchange_67 : decode cX3_exchange 67 = .ok (.iaload, 1) := by decide +kernel
theorem dX3_exchange_68 : decode cX3_exchange 68 = .ok (.istore_n 3, 1) := by decide +kernel
theorem dX3_exchange_69 : decode cX3_exchange 69 = .ok (.aload_n 0, 1) := by decide +kernel
theorem dX3_exchange_70 : decode cX3_exchange 70 = .ok (.getfield 28, 3) := by decide +kernel
theorem dX3_exchange_73 : decode cX3_exchange 73 = .ok (.iload_n 1, 1) := by decide +kernel
theorem dX3_exchange_74 : decode cX3_exchange 74 = .ok (.aload_n 0, 1) := by decide +kernel
theorem dX3_exchange_75 : decode cX3_exchange 75 = .ok (.getfield 28, 3) := by decide +kernel
theorem dX3_exchange_78 : decode cX3_exchange 78 = .ok (.iload_n 2, 1) := by decide +kernel
theorem dX3_exchange_79 : decode cX3_exchange 79 = .ok (.iaload, 1) := by decide +kernel
theorem dX3_exchange_80 : decode cX3_exchange 80 = .ok (.iastore, 1) := by decide +kernel
theorem dX3_exchange_81 : decode cX3_exchange 81 = .ok (.aload_n 0, 1) := by decide +kernel
theorem dX3_exchange_82 : decode cX3_exchange 82 = .ok (.getfield 28, 3) := by decide +kernel
theorem dX3_exchange_85 : decode cX3_exchange 85 = .ok (.iload_n 2, 1) := by decide +kernel
theorem dX3_exchange_86 : decode cX3_exchange 86 = .ok (.iload_n 3, 1) := by decide +kernel
theorem dX3_exchange_87 : decode cX3_exchange 87 = .ok (.iastore, 1) := by decide +kernel
theorem dX3_exchange_88 : decode cX3_exchange 88 = .ok (.return_, 1) := by decide +kernel
theorem dX3_signAt_0 : decode cX3_signAt 0 = .ok (.aload_n 0, 1) := by decide +kernel
theorem dX3_signAt_1 : decode cX3_signAt 1 = .ok (.getfield 24, 3) := by decide +kernel
theorem dX3_signAt_4 : decode cX3_signAt 4 = .ok (.iload_n 1, 1) := by decide +kernel
theorem dX3_signAt_5 : decode cX3_signAt 5 = .ok (.bipush 10, 2) := by decide +kernel
theorem dX3_signAt_7 : decode cX3_signAt 7 = .ok (.imul, 1) := by decide +kernel
theorem dX3_signAt_8 : decode cX3_signAt 8 = .ok (.iload_n 2, 1) := by decide +kernel
theorem dX3_signAt_9 : decode cX3_signAt 9 = .ok (.iadd, 1) := by decide +kernel
theorem dX3_signAt_10 : decode cX3_signAt 10 = .ok (.caload, 1) := by decide +kernel
theorem dX3_signAt_11 : decode cX3_signAt 11 = .ok (.ireturn, 1) := by decide +kernel
theorem dX3_sortAt_0 : decode cX3_sortAt 0 = .ok (.aload_n 0, 1) := by decide +kernel
theorem dX3_sortAt_1 : decode cX3_sortAt 1 = .ok (.iload_n 1, 1) := by decide +kernel
theorem dX3_sortAt_2 : decode cX3_sortAt 2 = .ok (.iload_n 2, 1) := by decide +kernel
end
section
theorem dX3_sortAt_3 : decode cX3_sortAt 3 = .ok (.invokevirtual 41, 3) := by decide +kernel
theorem dX3_sortAt_6 : decode cX3_sortAt 6 = .ok (.invokestatic 45, 3) := by decide +kernel
theorem dX3_sortAt_9 : decode cX3_sortAt 9 = .ok (.iconst 0, 1) := by decide +kernel
theorem dX3_sortAt_10 : decode cX3_sortAt 10 = .ok (.invokestatic 49, 3) := by decide +kernel
theorem dX3_sortAt_13 : decode cX3_sortAt 13 = .ok (.ireturn, 1) := by decide +kernel
theorem dX3_widthOf_0 : decode cX3_widthOf 0 = .ok (.iconst 0, 1) := by decide +kernel
theorem dX3_widthOf_1 : decode cX3_widthOf 1 = .ok (.istore_n 2, 1) := by decide +kernel
theorem dX3_widthOf_2 : decode cX3_widthOf 2 = .ok (.iconst 0, 1) := by decide +kernel
theorem dX3_widthOf_3 : decode cX3_widthOf 3 = .ok (.istore_n 3, 1) := by decide +kernel
theorem dX3_widthOf_4 : decode cX3_widthOf 4 = .ok (.iload_n 3, 1) := by decide +kernel
theorem dX3_widthOf_5 : decode cX3_widthOf 5 = .ok (.aload_n 0, 1) := by decide +kernel
theorem dX3_widthOf_6 : decode cX3_widthOf 6 = .ok (.getfield 28, 3) := by decide +kernel
theorem dX3_widthOf_9 : decode cX3_widthOf 9 = .ok (.iload_n 1, 1) := by decide +kernel
theorem dX3_widthOf_10 : decode cX3_widthOf 10 = .ok (.iaload, 1) := by decide +kernel
theorem dX3_widthOf_11 : decode cX3_widthOf 11 = .ok (.if_icmp .ge 23, 3) := by decide +kernel
theorem dX3_widthOf_14 : decode cX3_widthOf 14 = .ok (.iload_n 2, 1) := by decide +kernel
theorem dX3_widthOf_15 : decode cX3_widthOf 15 = .ok (.aload_n 0, 1) := by decide +kernel
theorem dX3_widthOf_16 : decode cX3_widthOf 16 = .ok (.getfield 15, 3) := by decide +kernel
theorem dX3_widthOf_19 : decode cX3_widthOf 19 = .ok (.aload_n 0, 1) := by decide +kernel
theorem dX3_widthOf_20 : decode cX3_widthOf 20 = .ok (.iload_n 1, 1) := by decide +kernel
theorem dX3_widthOf_21 : decode cX3_widthOf 21 = .ok (.iload_n 3, 1) := by decide +kernel
theorem dX3_widthOf_22 : decode cX3_widthOf 22 = .ok (.invokevirtual 55, 3) := by decide +kernel
theorem dX3_widthOf_25 : decode cX3_widthOf 25 = .ok (.iaload, 1) := by decide +kernel
theorem dX3_widthOf_26 : decode cX3_widthOf 26 = .ok (.iadd, 1) := by decide +kernel
theorem dX3_widthOf_27 : decode cX3_widthOf 27 = .ok (.istore_n 2, 1) := by decide +kernel
theorem dX3_widthOf_28 : decode cX3_widthOf 28 = .ok (.iinc 3 1, 3) := by decide +kernel
theorem dX3_widthOf_31 : decode cX3_widthOf 31 = .ok (.goto (-27), 3) := by decide +kernel
theorem dX3_widthOf_34 : decode cX3_widthOf 34 = .ok (.iload_n 2, 1) := by decide +kernel
theorem dX3_widthOf_35 : decode cX3_widthOf 35 = .ok (.ireturn, 1) := by decide +kernel
theorem dX3_countSigns_0 : decode cX3_countSigns 0 = .ok (.iconst 0, 1) := by decide +kernel
theorem dX3_countSigns_1 : decode cX3_countSigns 1 = .ok (.istore_n 1, 1) := by decide +kernel
theorem dX3_countSigns_2 : decode cX3_countSigns 2 = .ok (.iconst 0, 1) := by decide +kernel
theorem dX3_countSigns_3 : decode cX3_countSigns 3 = .ok (.istore_n 2, 1) := by decide +kernel
theorem dX3_countSigns_4 : decode cX3_countSigns 4 = .ok (.iload_n 2, 1) := by decide +kernel
theorem dX3_countSigns_5 : decode cX3_countSigns 5 = .ok (.aload_n 0, 1) := by decide +kernel
theorem dX3_countSigns_6 : decode cX3_countSigns 6 = .ok (.getfield 31, 3) := by decide +kernel
theorem dX3_countSigns_9 : decode cX3_countSigns 9 = .ok (.if_icmp .ge 18, 3) := by decide +kernel
theorem dX3_countSigns_12 : decode cX3_countSigns 12 = .ok (.iload_n 1, 1) := by decide +kernel
theorem dX3_countSigns_13 : decode cX3_countSigns 13 = .ok (.aload_n 0, 1) := by decide +kernel
theorem dX3_countSigns_14 : decode cX3_countSigns 14 = .ok (.getfield 28, 3) := by decide +kernel
theorem dX3_countSigns_17 : decode cX3_countSigns 17 = .ok (.iload_n 2, 1) := by decide +kernel
theorem dX3_countSigns_18 : decode cX3_countSigns 18 = .ok (.iaload, 1) := by decide +kernel
theorem dX3_countSigns_19 : decode cX3_countSigns 19 = .ok (.iadd, 1) := by decide +kernel
theorem dX3_countSigns_20 : decode cX3_countSigns 20 = .ok (.istore_n 1, 1) := by decide +kernel
theorem dX3_countSigns_21 : decode cX3_countSigns 21 = .ok (.iinc 2 1, 3) := by decide +kernel
theorem dX3_countSigns_24 : decode cX3_countSigns 24 = .ok (.goto (-20), 3) := by decide +kernel
theorem dX3_countSigns_27 : decode cX3_countSigns 27 = .ok (.iload_n 1, 1) := by decide +kernel
theorem dX3_countSigns_28 : decode cX3_countSigns 28 = .ok (.ireturn, 1) := by decide +kernel
theorem dX3_countOf_0 : decode cX3_countOf 0 = .ok (.iconst 0, 1) := by decide +kernel
theorem dX3_countOf_1 : decode cX3_countOf 1 = .ok (.istore_n 2, 1) := by decide +kernel
theorem dX3_countOf_2 : decode cX3_countOf 2 = .ok (.iconst 0, 1) := by decide +kernel
theorem dX3_countOf_3 : decode cX3_countOf 3 = .ok (.istore_n 3, 1) := by decide +kernel
theorem dX3_countOf_4 : decode cX3_countOf 4 = .ok (.iload_n 3, 1) := by decide +kernel
theorem dX3_countOf_5 : decode cX3_countOf 5 = .ok (.aload_n 0, 1) := by decide +kernel
theorem dX3_countOf_6 : decode cX3_countOf 6 = .ok (.getfield 31, 3) := by decide +kernel
theorem dX3_countOf_9 : decode cX3_countOf 9 = .ok (.if_icmp .ge 43, 3) := by decide +kernel
theorem dX3_countOf_12 : decode cX3_countOf 12 = .ok (.iconst 0, 1) := by decide +kernel
theorem dX3_countOf_13 : decode cX3_countOf 13 = .ok (.istore 4, 2) := by decide +kernel
theorem dX3_countOf_15 : decode cX3_countOf 15 = .ok (.iload 4, 2) := by decide +kernel
theorem dX3_countOf_17 : decode cX3_countOf 17 = .ok (.aload_n 0, 1) := by decide +kernel
theorem dX3_countOf_18 : decode cX3_countOf 18 = .ok (.getfield 28, 3) := by decide +kernel
theorem dX3_countOf_21 : decode cX3_countOf 21 = .ok (.iload_n 3, 1) := by decide +kernel
theorem dX3_countOf_22 : decode cX3_countOf 22 = .ok (.iaload, 1) := by decide +kernel
theorem dX3_countOf_23 : decode cX3_countOf 23 = .ok (.if_icmp .ge 23, 3) := by decide +kernel
theorem dX3_countOf_26 : decode cX3_countOf 26 = .ok (.aload_n 0, 1) := by decide +kernel
theorem dX3_countOf_27 : decode cX3_countOf 27 = .ok (.iload_n 3, 1) := by decide +kernel
theorem dX3_countOf_28 : decode cX3_countOf 28 = .ok (.iload 4, 2) := by decide +kernel
theorem dX3_countOf_30 : decode cX3_countOf 30 = .ok (.invokevirtual 55, 3) := by decide +kernel
theorem dX3_countOf_33 : decode cX3_countOf 33 = .ok (.iload_n 1, 1) := by decide +kernel
theorem dX3_countOf_34 : decode cX3_countOf 34 = .ok (.if_icmp .ne 6, 3) := by decide +kernel
theorem dX3_countOf_37 : decode cX3_countOf 37 = .ok (.iinc 2 1, 3) := by decide +kernel
theorem dX3_countOf_40 : decode cX3_countOf 40 = .ok (.iinc 4 1, 3) := by decide +kernel
theorem dX3_countOf_43 : decode cX3_countOf 43 = .ok (.goto (-28), 3) := by decide +kernel
theorem dX3_countOf_46 : decode cX3_countOf 46 = .ok (.iinc 3 1, 3) := by decide +kernel
theorem dX3_countOf_49 : decode cX3_countOf 49 = .ok (.goto (-45), 3) := by decide +kernel
theorem dX3_countOf_52 : decode cX3_countOf 52 = .ok (.iload_n 2, 1) := by decide +kernel
theorem dX3_countOf_53 : decode cX3_countOf 53 = .ok (.ireturn, 1) := by decide +kernel
theorem dX3_hangAtLeft_0 : decode cX3_hangAtLeft 0 = .ok (.aload_n 0, 1) := by decide +kernel
theorem dX3_hangAtLeft_1 : decode cX3_hangAtLeft 1 = .ok (.getfield 9, 3) := by decide +kernel
theorem dX3_hangAtLeft_4 : decode cX3_hangAtLeft 4 = .ok (.iconst 3, 1) := by decide +kernel
theorem dX3_hangAtLeft_5 : decode cX3_hangAtLeft 5 = .ok (.iaload, 1) := by decide +kernel
theorem dX3_hangAtLeft_6 : decode cX3_hangAtLeft 6 = .ok (.ifCond .ne 7, 3) := by decide +kernel
theorem dX3_hangAtLeft_9 : decode cX3_hangAtLeft 9 = .ok (.iconst 0, 1) := by decide +kernel
theorem dX3_hangAtLeft_10 : decode cX3_hangAtLeft 10 = .ok (.goto 19, 3) := by decide +kernel
theorem dX3_hangAtLeft_13 : decode cX3_hangAtLeft 13 = .ok (.aload_n 0, 1) := by decide +kernel
theorem dX3_hangAtLeft_14 : decode cX3_hangAtLeft 14 = .ok (.getfield 15, 3) := by decide +kernel
theorem dX3_hangAtLeft_17 : decode cX3_hangAtLeft 17 = .ok (.iload_n 1, 1) := by decide +kernel
theorem dX3_hangAtLeft_18 : decode cX3_hangAtLeft 18 = .ok (.iaload, 1) := by decide +kernel
theorem dX3_hangAtLeft_19 : decode cX3_hangAtLeft 19 = .ok (.aload_n 0, 1) := by decide +kernel
theorem dX3_hangAtLeft_20 : decode cX3_hangAtLeft 20 = .ok (.getfield 18, 3) := by decide +kernel
theorem dX3_hangAtLeft_23 : decode cX3_hangAtLeft 23 = .ok (.iload_n 1, 1) := by decide +kernel
theorem dX3_hangAtLeft_24 : decode cX3_hangAtLeft 24 = .ok (.iaload, 1) := by decide +kernel
theorem dX3_hangAtLeft_25 : decode cX3_hangAtLeft 25 = .ok (.imul, 1) := by decide +kernel
theorem dX3_hangAtLeft_26 : decode cX3_hangAtLeft 26 = .ok (.bipush 100, 2) := by decide +kernel
theorem dX3_hangAtLeft_28 : decode cX3_hangAtLeft 28 = .ok (.idiv, 1) := by decide +kernel
theorem dX3_hangAtLeft_29 : decode cX3_hangAtLeft 29 = .ok (.ireturn, 1) := by decide +kernel
theorem dX3_hangAtRight_0 : decode cX3_hangAtRight 0 = .ok (.aload_n 0, 1) := by decide +kernel
theorem dX3_hangAtRight_1 : decode cX3_hangAtRight 1 = .ok (.getfield 9, 3) := by decide +kernel
theorem dX3_hangAtRight_4 : decode cX3_hangAtRight 4 = .ok (.iconst 3, 1) := by decide +kernel
theorem dX3_hangAtRight_5 : decode cX3_hangAtRight 5 = .ok (.iaload, 1) := by decide +kernel
theorem dX3_hangAtRight_6 : decode cX3_hangAtRight 6 = .ok (.ifCond .ne 7, 3) := by decide +kernel
theorem dX3_hangAtRight_9 : decode cX3_hangAtRight 9 = .ok (.iconst 0, 1) := by decide +kernel
theorem dX3_hangAtRight_10 : decode cX3_hangAtRight 10 = .ok (.goto 19, 3) := by decide +kernel
theorem dX3_hangAtRight_13 : decode cX3_hangAtRight 13 = .ok (.aload_n 0, 1) := by decide +kernel
theorem dX3_hangAtRight_14 : decode cX3_hangAtRight 14 = .ok (.getfield 15, 3) := by decide +kernel
theorem dX3_hangAtRight_17 : decode cX3_hangAtRight 17 = .ok (.iload_n 1, 1) := by decide +kernel
theorem dX3_hangAtRight_18 : decode cX3_hangAtRight 18 = .ok (.iaload, 1) := by decide +kernel
theorem dX3_hangAtRight_19 : decode cX3_hangAtRight 19 = .ok (.aload_n 0, 1) := by decide +kernel
theorem dX3_hangAtRight_20 : decode cX3_hangAtRight 20 = .ok (.getfield 21, 3) := by decide +kernel
theorem dX3_hangAtRight_23 : decode cX3_hangAtRight 23 = .ok (.iload_n 1, 1) := by decide +kernel
theorem dX3_hangAtRight_24 : decode cX3_hangAtRight 24 = .ok (.iaload, 1) := by decide +kernel
theorem dX3_hangAtRight_25 : decode cX3_hangAtRight 25 = .ok (.imul, 1) := by decide +kernel
theorem dX3_hangAtRight_26 : decode cX3_hangAtRight 26 = .ok (.bipush 100, 2) := by decide +kernel
theorem dX3_hangAtRight_28 : decode cX3_hangAtRight 28 = .ok (.idiv, 1) := by decide +kernel
theorem dX3_hangAtRight_29 : decode cX3_hangAtRight 29 = .ok (.ireturn, 1) := by decide +kernel
theorem dX3_leftHangOf_0 : decode cX3_leftHangOf 0 = .ok (.aload_n 0, 1) := by decide +kernel
theorem dX3_leftHangOf_1 : decode cX3_leftHangOf 1 = .ok (.aload_n 0, 1) := by decide +kernel
theorem dX3_leftHangOf_2 : decode cX3_leftHangOf 2 = .ok (.iload_n 1, 1) := by decide +kernel
theorem dX3_leftHangOf_3 : decode cX3_leftHangOf 3 = .ok (.iconst 0, 1) := by decide +kernel
theorem dX3_leftHangOf_4 : decode cX3_leftHangOf 4 = .ok (.invokevirtual 55, 3) := by decide +kernel
theorem dX3_leftHangOf_7 : decode cX3_leftHangOf 7 = .ok (.invokevirtual 58, 3) := by decide +kernel
theorem dX3_leftHangOf_10 : decode cX3_leftHangOf 10 = .ok (.ireturn, 1) := by decide +kernel
theorem dX3_rightHangOf_0 : decode cX3_rightHangOf 0 = .ok (.aload_n 0, 1) := by decide +kernel
theorem dX3_rightHangOf_1 : decode cX3_rightHangOf 1 = .ok (.aload_n 0, 1) := by decide +kernel
theorem dX3_rightHangOf_2 : decode cX3_rightHangOf 2 = .ok (.iload_n 1, 1) := by decide +kernel
theorem dX3_rightHangOf_3 : decode cX3_rightHangOf 3 = .ok (.aload_n 0, 1) := by decide +kernel
theorem dX3_rightHangOf_4 : decode cX3_rightHangOf 4 = .ok (.getfield 28, 3) := by decide +kernel
theorem dX3_rightHangOf_7 : decode cX3_rightHangOf 7 = .ok (.iload_n 1, 1) := by decide +kernel
theorem dX3_rightHangOf_8 : decode cX3_rightHangOf 8 = .ok (.iaload, 1) := by decide +kernel
theorem dX3_rightHangOf_9 : decode cX3_rightHangOf 9 = .ok (.iconst 1, 1) := by decide +kernel
theorem dX3_rightHangOf_10 : decode cX3_rightHangOf 10 = .ok (.isub, 1) := by decide +kernel
theorem dX3_rightHangOf_11 : decode cX3_rightHangOf 11 = .ok (.iconst 0, 1) := by decide +kernel
theorem dX3_rightHangOf_12 : decode cX3_rightHangOf 12 = .ok (.invokestatic 49, 3) := by decide +kernel
theorem dX3_rightHangOf_15 : decode cX3_rightHangOf 15 = .ok (.invokevirtual 55, 3) := by decide +kernel
theorem dX3_rightHangOf_18 : decode cX3_rightHangOf 18 = .ok (.invokevirtual 61, 3) := by decide +kernel
theorem dX3_rightHangOf_21 : decode cX3_rightHangOf 21 = .ok (.ireturn, 1) := by decide +kernel
theorem dX4_init_0 : decode cX4_init 0 = .ok (.aload_n 0, 1) := by decide +kernel
theorem dX4_init_1 : decode cX4_init 1 = .ok (.invokespecial 1, 3) := by decide +kernel
theorem dX4_init_4 : decode cX4_init 4 = .ok (.aload_n 0, 1) := by decide +kernel
theorem dX4_init_5 : decode cX4_init 5 = .ok (.new 7, 3) := by decide +kernel
theorem dX4_init_8 : decode cX4_init 8 = .ok (.dup, 1) := by decide +kernel
theorem dX4_init_9 : decode cX4_init 9 = .ok (.invokespecial 9, 3) := by decide +kernel
theorem dX4_init_12 : decode cX4_init 12 = .ok (.putfield 10, 3) := by decide +kernel
theorem dX4_init_15 : decode cX4_init 15 = .ok (.aload_n 0, 1) := by decide +kernel
theorem dX4_init_16 : decode cX4_init 16 = .ok (.new 7, 3) := by decide +kernel
theorem dX4_init_19 : decode cX4_init 19 = .ok (.dup, 1) := by decide +kernel
theorem dX4_init_20 : decode cX4_init 20 = .ok (.invokespecial 9, 3) := by decide +kernel
theorem dX4_init_23 : decode cX4_init 23 = .ok (.putfield 16, 3) := by decide +kernel
theorem dX4_init_26 : decode cX4_init 26 = .ok (.aload_n 0, 1) := by decide +kernel
theorem dX4_init_27 : decode cX4_init 27 = .ok (.new 19, 3) := by decide +kernel
theorem dX4_init_30 : decode cX4_init 30 = .ok (.dup, 1) := by decide +kernel
theorem dX4_init_31 : decode cX4_init 31 = .ok (.invokespecial 21, 3) := by decide +kernel
theorem dX4_init_34 : decode cX4_init 34 = .ok (.putfield 22, 3) := by decide +kernel
theorem dX4_init_37 : decode cX4_init 37 = .ok (.aload_n 0, 1) := by decide +kernel
theorem dX4_init_38 : decode cX4_init 38 = .ok (.new 19, 3) := by decide +kernel
theorem dX4_init_41 : decode cX4_init 41 = .ok (.dup, 1) := by decide +kernel
theorem dX4_init_42 : decode cX4_init 42 = .ok (.invokespecial 21, 3) := by decide +kernel
theorem dX4_init_45 : decode cX4_init 45 = .ok (.putfield 26, 3) := by decide +kernel
theorem dX4_init_48 : decode cX4_init 48 = .ok (.aload_n 0, 1) := by decide +kernel
theorem dX4_init_49 : decode cX4_init 49 = .ok (.new 29, 3) := by decide +kernel
theorem dX4_init_52 : decode cX4_init 52 = .ok (.dup, 1) := by decide +kernel
theorem dX4_init_53 : decode cX4_init 53 = .ok (.invokespecial 31, 3) := by decide +kernel
theorem dX4_init_56 : decode cX4_init 56 = .ok (.putfield 32, 3) := by decide +kernel
theorem dX4_init_59 : decode cX4_init 59 = .ok (.aload_n 0, 1) := by decide +kernel
theorem dX4_init_60 : decode cX4_init 60 = .ok (.new 36, 3) := by decide +kernel
theorem dX4_init_63 : decode cX4_init 63 = .ok (.dup, 1) := by decide +kernel
theorem dX4_init_64 : decode cX4_init 64 = .ok (.invokespecial 38, 3) := by decide +kernel
theorem dX4_init_67 : decode cX4_init 67 = .ok (.putfield 39, 3) := by decide +kernel
theorem dX4_init_70 : decode cX4_init 70 = .ok (.aload_n 0, 1) := by decide +kernel
theorem dX4_init_71 : decode cX4_init 71 = .ok (.iconst 2, 1) := by decide +kernel
theorem dX4_init_72 : decode cX4_init 72 = .ok (.anewarray 7, 3) := by decide +kernel
theorem dX4_init_75 : decode cX4_init 75 = .ok (.dup, 1) := by decide +kernel
theorem dX4_init_76 : decode cX4_init 76 = .ok (.iconst 0, 1) := by decide +kernel
theorem dX4_init_77 : decode cX4_init 77 = .ok (.new 7, 3) := by decide +kernel
theorem dX4_init_80 : decode cX4_init 80 = .ok (.dup, 1) := by decide +kernel
theorem dX4_init_81 : decode cX4_init 81 = .ok (.invokespecial 9, 3) := by decide +kernel
theorem dX4_init_84 : decode cX4_init 84 = .ok (.aastore, 1) := by decide +kernel
theorem dX4_init_85 : decode cX4_init 85 = .ok (.dup, 1) := by decide +kernel
theorem dX4_init_86 : decode cX4_init 86 = .ok (.iconst 1, 1) := by decide +kernel
theorem dX4_init_87 : decode cX4_init 87 = .ok (.new 7, 3) := by decide +kernel
theorem dX4_init_90 : decode cX4_init 90 = .ok (.dup, 1) := by decide +kernel
theorem dX4_init_91 : decode cX4_init 91 = .ok (.invokespecial 9, 3) := by decide +kernel
theorem dX4_init_94 : decode cX4_init 94 = .ok (.aastore, 1) := by decide +kernel
theorem dX4_init_95 : decode cX4_init 95 = .ok (.putfield 43, 3) := by decide +kernel
theorem dX4_init_98 : decode cX4_init 98 = .ok (.aload_n 0, 1) := by decide +kernel
theorem dX4_init_99 : decode cX4_init 99 = .ok (.iconst 2, 1) := by decide +kernel
theorem dX4_init_100 : decode cX4_init 100 = .ok (.newarray .boolean, 2) := by decide +kernel
theorem dX4_init_102 : decode cX4_init 102 = .ok (.putfield 47, 3) := by decide +kernel
theorem dX4_init_105 : decode cX4_init 105 = .ok (.return_, 1) := by decide +kernel
theorem dX4_set_0 : decode cX4_set 0 = .ok (.iload_n 1, 1) := by decide +kernel
theorem dX4_set_1 : decode cX4_set 1 = .ok (.ifCond .lt 8, 3) := by decide +kernel
theorem dX4_set_4 : decode cX4_set 4 = .ok (.iload_n 1, 1) := by decide +kernel
theorem dX4_set_5 : decode cX4_set 5 = .ok (.iconst 4, 1) := by decide +kernel
theorem dX4_set_6 : decode cX4_set 6 = .ok (.if_icmp .lt 7, 3) := by decide +kernel
theorem dX4_set_9 : decode cX4_set 9 = .ok (.sipush (-1002), 3) := by decide +kernel
theorem dX4_set_12 : decode cX4_set 12 = .ok (.ireturn, 1) := by decide +kernel
theorem dX4_set_13 : decode cX4_set 13 = .ok (.iload_n 2, 1) := by decide +kernel
theorem dX4_set_14 : decode cX4_set 14 = .ok (.getstatic 51, 3) := by decide +kernel
theorem dX4_set_17 : decode cX4_set 17 = .ok (.iload_n 1, 1) := by decide +kernel
theorem dX4_set_18 : decode cX4_set 18 = .ok (.iaload, 1) := by decide +kernel
theorem dX4_set_19 : decode cX4_set 19 = .ok (.if_icmp .lt 12, 3) := by decide +kernel
theorem dX4_set_22 : decode cX4_set 22 = .ok (.iload_n 2, 1) := by decide +kernel
theorem dX4_set_23 : decode cX4_set 23 = .ok (.getstatic 55, 3) := by decide +kernel
theorem dX4_set_26 : decode cX4_set 26 = .ok (.iload_n 1, 1) := by decide +kernel
theorem dX4_set_27 : decode cX4_set 27 = .ok (.iaload, 1) := by decide +kernel
theorem dX4_set_28 : decode cX4_set 28 = .ok (.if_icmp .le 7, 3) := by decide +kernel
theorem dX4_set_31 : decode cX4_set 31 = .ok (.sipush (-1002), 3) := by decide +kernel
theorem dX4_set_34 : decode cX4_set 34 = .ok (.ireturn, 1) := by decide +kernel
theorem dX4_set_35 : decode cX4_set 35 = .ok (.aload_n 0, 1) := by decide +kernel
theorem dX4_set_36 : decode cX4_set 36 = .ok (.getfield 39, 3) := by decide +kernel
theorem dX4_set_39 : decode cX4_set 39 = .ok (.aload_n 0, 1) := by decide +kernel
theorem dX4_set_40 : decode cX4_set 40 = .ok (.getfield 10, 3) := by decide +kernel
theorem dX4_set_43 : decode cX4_set 43 = .ok (.invokevirtual 58, 3) := by decide +kernel
theorem dX4_set_46 : decode cX4_set 46 = .ok (.aload_n 0, 1) := by decide +kernel
theorem dX4_set_47 : decode cX4_set 47 = .ok (.getfield 10, 3) := by decide +kernel
theorem dX4_set_50 : decode cX4_set 50 = .ok (.getfield 62, 3) := by decide +kernel
theorem dX4_set_53 : decode cX4_set 53 = .ok (.iload_n 1, 1) := by decide +kernel
theorem dX4_set_54 : decode cX4_set 54 = .ok (.iaload, 1) := by decide +kernel
theorem dX4_set_55 : decode cX4_set 55 = .ok (.istore_n 3, 1) := by decide +kernel
theorem dX4_set_56 : decode cX4_set 56 = .ok (.aload_n 0, 1) := by decide +kernel
theorem dX4_set_57 : decode cX4_set 57 = .ok (.getfield 10, 3) := by decide +kernel
theorem dX4_set_60 : decode cX4_set 60 = .ok (.getfield 62, 3) := by decide +kernel
theorem dX4_set_63 : decode cX4_set 63 = .ok (.iload_n 1, 1) := by decide +kernel
theorem dX4_set_64 : decode cX4_set 64 = .ok (.iload_n 2, 1) := by decide +kernel
theorem dX4_set_65 : decode cX4_set 65 = .ok (.iastore, 1) := by decide +kernel
theorem dX4_set_66 : decode cX4_set 66 = .ok (.iload_n 3, 1) := by decide +kernel
theorem dX4_set_67 : decode cX4_set 67 = .ok (.ireturn, 1) := by decide +kernel
theorem dX4_sort_0 : decode cX4_sort 0 = .ok (.iload_n 1, 1) := by decide +kernel
theorem dX4_sort_1 : decode cX4_sort 1 = .ok (.invokestatic 65, 3) := by decide +kernel
theorem dX4_sort_4 : decode cX4_sort 4 = .ok (.ifCond .ne 7, 3) := by decide +kernel
theorem dX4_sort_7 : decode cX4_sort 7 = .ok (.sipush (-1001), 3) := by decide +kernel
theorem dX4_sort_10 : decode cX4_sort 10 = .ok (.ireturn, 1) := by decide +kernel
theorem dX4_sort_11 : decode cX4_sort 11 = .ok (.iload_n 2, 1) := by decide +kernel
theorem dX4_sort_12 : decode cX4_sort 12 = .ok (.iconst 1, 1) := by decide +kernel
theorem dX4_sort_13 : decode cX4_sort 13 = .ok (.if_icmp .lt 24, 3) := by decide +kernel
theorem dX4_sort_16 : decode cX4_sort 16 = .ok (.iload_n 2, 1) := by decide +kernel
theorem dX4_sort_17 : decode cX4_sort 17 = .ok (.bipush 20, 2) := by decide +kernel
theorem dX4_sort_19 : decode cX4_sort 19 = .ok (.if_icmp .gt 18, 3) := by decide +kernel
theorem dX4_sort_22 : decode cX4_sort 22 = .ok (.iload_n 3, 1) := by decide +kernel
theorem dX4_sort_23 : decode cX4_sort 23 = .ok (.invokestatic 69, 3) := by decide +kernel
theorem dX4_sort_26 : decode cX4_sort 26 = .ok (.ifCond .eq 11, 3) := by decide +kernel
theorem dX4_sort_29 : decode cX4_sort 29 = .ok (.iload 4, 2) := by decide +kernel
theorem dX4_sort_31 : decode cX4_sort 31 = .ok (.invokestatic 69, 3) := by decide +kernel
theorem dX4_sort_34 : decode cX4_sort 34 = .ok (.ifCond .ne 7, 3) := by decide +kernel
theorem dX4_sort_37 : decode cX4_sort 37 = .ok (.sipush (-1002), 3) := by decide +kernel
theorem dX4_sort_40 : decode cX4_sort 40 = .ok (.ireturn, 1) := by decide +kernel
theorem dX4_sort_41 : decode cX4_sort 41 = .ok (.aload_n 0, 1) := by decide +kernel
theorem dX4_sort_42 : decode cX4_sort 42 = .ok (.getfield 39, 3) := by decide +kernel
theorem dX4_sort_45 : decode cX4_sort 45 = .ok (.aload_n 0, 1) := by decide +kernel
theorem dX4_sort_46 : decode cX4_sort 46 = .ok (.getfield 10, 3) := by decide +kernel
theorem dX4_sort_49 : decode cX4_sort 49 = .ok (.invokevirtual 58, 3) := by decide +kernel
theorem dX4_sort_52 : decode cX4_sort 52 = .ok (.aload_n 0, 1) := by decide +kernel
theorem dX4_sort_53 : decode cX4_sort 53 = .ok (.getfield 10, 3) := by decide +kernel
theorem dX4_sort_56 : decode cX4_sort 56 = .ok (.getfield 72, 3) := by decide +kernel
theorem dX4_sort_59 : decode cX4_sort 59 = .ok (.iload_n 1, 1) := by decide +kernel
theorem dX4_sort_60 : decode cX4_sort 60 = .ok (.iaload, 1) := by decide +kernel
theorem dX4_sort_61 : decode cX4_sort 61 = .ok (.istore 5, 2) := by decide +kernel
theorem dX4_sort_63 : decode cX4_sort 63 = .ok (.aload_n 0, 1) := by decide +kernel
theorem dX4_sort_64 : decode cX4_sort 64 = .ok (.getfield 10, 3) := by decide +kernel
theorem dX4_sort_67 : decode cX4_sort 67 = .ok (.getfield 72, 3) := by decide +kernel
theorem dX4_sort_70 : decode cX4_sort 70 = .ok (.iload_n 1, 1) := by decide +kernel
theorem dX4_sort_71 : decode cX4_sort 71 = .ok (.iload_n 2, 1) := by decide +kernel
theorem dX4_sort_72 : decode cX4_sort 72 = .ok (.iastore, 1) := by decide +kernel
theorem dX4_sort_73 : decode cX4_sort 73 = .ok (.aload_n 0, 1) := by decide +kernel
theorem dX4_sort_74 : decode cX4_sort 74 = .ok (.getfield 10, 3) := by decide +kernel
theorem dX4_sort_77 : decode cX4_sort 77 = .ok (.getfield 75, 3) := by decide +kernel
theorem dX4_sort_80 : decode cX4_sort 80 = .ok (.iload_n 1, 1) := by decide +kernel
theorem dX4_sort_81 : decode cX4_sort 81 = .ok (.iload_n 3, 1) := by decide +kernel
theorem dX4_sort_82 : decode cX4_sort 82 = .ok (.iastore, 1) := by decide +kernel
theorem dX4_sort_83 : decode cX4_sort 83 = .ok (.aload_n 0, 1) := by decide +kernel
theorem dX4_sort_84 : decode cX4_sort 84 = .ok (.getfield 10, 3) := by decide +kernel
theorem dX4_sort_87 : decode cX4_sort 87 = .ok (.getfield 78, 3) := by decide +kernel
theorem dX4_sort_90 : decode cX4_sort 90 = .ok (.iload_n 1, 1) := by decide +kernel
theorem dX4_sort_91 : decode cX4_sort 91 = .ok (.iload 4, 2) := by decide +kernel
theorem dX4_sort_93 : decode cX4_sort 93 = .ok (.iastore, 1) := by decide +kernel
theorem dX4_sort_94 : decode cX4_sort 94 = .ok (.iload 5, 2) := by decide +kernel
theorem dX4_sort_96 : decode cX4_sort 96 = .ok (.ireturn, 1) := by decide +kernel
theorem dX4_read_0 : decode cX4_read 0 = .ok (.aload_n 0, 1) := by decide +kernel
theorem dX4_read_1 : decode cX4_read 1 = .ok (.getfield 32, 3) := by decide +kernel
theorem dX4_read_4 : decode cX4_read 4 = .ok (.invokevirtual 81, 3) := by decide +kernel
theorem dX4_read_7 : decode cX4_read 7 = .ok (.sipush (-1006), 3) := by decide +kernel
theorem dX4_read_10 : decode cX4_read 10 = .ok (.if_icmp .eq 7, 3) := by decide +kernel
theorem dX4_read_13 : decode cX4_read 13 = .ok (.sipush (-1003), 3) := by decide +kernel
theorem dX4_read_16 : decode cX4_read 16 = .ok (.ireturn, 1) := by decide +kernel
theorem dX4_read_17 : decode cX4_read 17 = .ok (.aload_n 0, 1) := by decide +kernel
theorem dX4_read_18 : decode cX4_read 18 = .ok (.getfield 10, 3) := by decide +kernel
theorem dX4_read_21 : decode cX4_read 21 = .ok (.getfield 85, 3) := by decide +kernel
theorem dX4_read_24 : decode cX4_read 24 = .ok (.aload_n 0, 1) := by decide +kernel
theorem dX4_read_25 : decode cX4_read 25 = .ok (.getfield 32, 3) := by decide +kernel
theorem dX4_read_28 : decode cX4_read 28 = .ok (.invokevirtual 89, 3) := by decide +kernel
theorem dX4_read_31 : decode cX4_read 31 = .ok (.iadd, 1) := by decide +kernel
theorem dX4_read_32 : decode cX4_read 32 = .ok (.bipush 24, 2) := by decide +kernel
theorem dX4_read_34 : decode cX4_read 34 = .ok (.if_icmp .le 7, 3) := by decide +kernel
theorem dX4_read_37 : decode cX4_read 37 = .ok (.sipush (-1004), 3) := by decide +kernel
theorem dX4_read_40 : decode cX4_read 40 = .ok (.ireturn, 1) := by decide +kernel
theorem dX4_read_41 : decode cX4_read 41 = .ok (.aload_n 0, 1) := by decide +kernel
theorem dX4_read_42 : decode cX4_read 42 = .ok (.getfield 39, 3) := by decide +kernel
theorem dX4_read_45 : decode cX4_read 45 = .ok (.aload_n 0, 1) := by decide +kernel
theorem dX4_read_46 : decode cX4_read 46 = .ok (.getfield 10, 3) := by decide +kernel
theorem dX4_read_49 : decode cX4_read 49 = .ok (.invokevirtual 58, 3) := by decide +kernel
theorem dX4_read_52 : decode cX4_read 52 = .ok (.aload_n 0, 1) := by decide +kernel
theorem dX4_read_53 : decode cX4_read 53 = .ok (.getfield 32, 3) := by decide +kernel
theorem dX4_read_56 : decode cX4_read 56 = .ok (.aload_n 0, 1) := by decide +kernel
theorem dX4_read_57 : decode cX4_read 57 = .ok (.getfield 10, 3) := by decide +kernel
theorem dX4_read_60 : decode cX4_read 60 = .ok (.invokevirtual 92, 3) := by decide +kernel
theorem dX4_read_63 : decode cX4_read 63 = .ok (.aload_n 0, 1) := by decide +kernel
theorem dX4_read_64 : decode cX4_read 64 = .ok (.getfield 32, 3) := by decide +kernel
theorem dX4_read_67 : decode cX4_read 67 = .ok (.iconst 0, 1) := by decide +kernel
theorem dX4_read_68 : decode cX4_read 68 = .ok (.putfield 95, 3) := by decide +kernel
theorem dX4_read_71 : decode cX4_read 71 = .ok (.aload_n 0, 1) := by decide +kernel
theorem dX4_read_72 : decode cX4_read 72 = .ok (.getfield 10, 3) := by decide +kernel
theorem dX4_read_75 : decode cX4_read 75 = .ok (.getfield 85, 3) := by decide +kernel
theorem dX4_read_78 : decode cX4_read 78 = .ok (.ireturn, 1) := by decide +kernel
theorem dX4_drop_0 : decode cX4_drop 0 = .ok (.aload_n 0, 1) := by decide +kernel
theorem dX4_drop_1 : decode cX4_drop 1 = .ok (.iload_n 1, 1) := by decide +kernel
theorem dX4_drop_2 : decode cX4_drop 2 = .ok (.invokevirtual 98, 3) := by decide +kernel
theorem dX4_drop_5 : decode cX4_drop 5 = .ok (.ifCond .ne 7, 3) := by decide +kernel
theorem dX4_drop_8 : decode cX4_drop 8 = .ok (.sipush (-1001), 3) := by decide +kernel
theorem dX4_drop_11 : decode cX4_drop 11 = .ok (.ireturn, 1) := by decide +kernel
theorem dX4_drop_12 : decode cX4_drop 12 = .ok (.aload_n 0, 1) := by decide +kernel
theorem dX4_drop_13 : decode cX4_drop 13 = .ok (.getfield 39, 3) := by decide +kernel
theorem dX4_drop_16 : decode cX4_drop 16 = .ok (.aload_n 0, 1) := by decide +kernel
theorem dX4_drop_17 : decode cX4_drop 17 = .ok (.getfield 10, 3) := by decide +kernel
theorem dX4_drop_20 : decode cX4_drop 20 = .ok (.invokevirtual 58, 3) := by decide +kernel
theorem dX4_drop_23 : decode cX4_drop 23 = .ok (.aload_n 0, 1) := by decide +kernel
theorem dX4_drop_24 : decode cX4_drop 24 = .ok (.getfield 10, 3) := by decide +kernel
theorem dX4_drop_27 : decode cX4_drop 27 = .ok (.iload_n 1, 1) := by decide +kernel
theorem dX4_drop_28 : decode cX4_drop 28 = .ok (.invokevirtual 101, 3) := by decide +kernel
theorem dX4_drop_31 : decode cX4_drop 31 = .ok (.istore_n 2, 1) := by decide +kernel
theorem dX4_drop_32 : decode cX4_drop 32 = .ok (.aload_n 0, 1) := by decide +kernel
theorem dX4_drop_33 : decode cX4_drop 33 = .ok (.getfield 10, 3) := by decide +kernel
theorem dX4_drop_36 : decode cX4_drop 36 = .ok (.iload_n 1, 1) := by decide +kernel
theorem dX4_drop_37 : decode cX4_drop 37 = .ok (.invokevirtual 105, 3) := by decide +kernel
theorem dX4_drop_40 : decode cX4_drop 40 = .ok (.iload_n 2, 1) := by decide +kernel
theorem dX4_drop_41 : decode cX4_drop 41 = .ok (.ireturn, 1) := by decide +kernel
theorem dX4_swap_0 : decode cX4_swap 0 = .ok (.aload_n 0, 1) := by decide +kernel
theorem dX4_swap_1 : decode cX4_swap 1 = .ok (.iload_n 1, 1) := by decide +kernel
theorem dX4_swap_2 : decode cX4_swap 2 = .ok (.invokevirtual 98, 3) := by decide +kernel
theorem dX4_swap_5 : decode cX4_swap 5 = .ok (.ifCond .eq 11, 3) := by decide +kernel
theorem dX4_swap_8 : decode cX4_swap 8 = .ok (.aload_n 0, 1) := by decide +kernel
theorem dX4_swap_9 : decode cX4_swap 9 = .ok (.iload_n 2, 1) := by decide +kernel
theorem dX4_swap_10 : decode cX4_swap 10 = .ok (.invokevirtual 98, 3) := by decide +kernel
theorem dX4_swap_13 : decode cX4_swap 13 = .ok (.ifCond .ne 7, 3) := by decide +kernel
theorem dX4_swap_16 : decode cX4_swap 16 = .ok (.sipush (-1001), 3) := by decide +kernel
theorem dX4_swap_19 : decode cX4_swap 19 = .ok (.ireturn, 1) := by decide +kernel
theorem dX4_swap_20 : decode cX4_swap 20 = .ok (.iload_n 1, 1) := by decide +kernel
theorem dX4_swap_21 : decode cX4_swap 21 = .ok (.iload_n 2, 1) := by decide +kernel
theorem dX4_swap_22 : decode cX4_swap 22 = .ok (.if_icmp .ne 7, 3) := by decide +kernel
theorem dX4_swap_25 : decode cX4_swap 25 = .ok (.sipush (-1002), 3) := by decide +kernel
theorem dX4_swap_28 : decode cX4_swap 28 = .ok (.ireturn, 1) := by decide +kernel
theorem dX4_swap_29 : decode cX4_swap 29 = .ok (.aload_n 0, 1) := by decide +kernel
theorem dX4_swap_30 : decode cX4_swap 30 = .ok (.getfield 39, 3) := by decide +kernel
theorem dX4_swap_33 : decode cX4_swap 33 = .ok (.aload_n 0, 1) := by decide +kernel
theorem dX4_swap_34 : decode cX4_swap 34 = .ok (.getfield 10, 3) := by decide +kernel
theorem dX4_swap_37 : decode cX4_swap 37 = .ok (.invokevirtual 58, 3) := by decide +kernel
theorem dX4_swap_40 : decode cX4_swap 40 = .ok (.aload_n 0, 1) := by decide +kernel
theorem dX4_swap_41 : decode cX4_swap 41 = .ok (.getfield 10, 3) := by decide +kernel
theorem dX4_swap_44 : decode cX4_swap 44 = .ok (.iload_n 1, 1) := by decide +kernel
theorem dX4_swap_45 : decode cX4_swap 45 = .ok (.iload_n 2, 1) := by decide +kernel
theorem dX4_swap_46 : decode cX4_swap 46 = .ok (.invokevirtual 109, 3) := by decide +kernel
theorem dX4_swap_49 : decode cX4_swap 49 = .ok (.aload_n 0, 1) := by decide +kernel
theorem dX4_swap_50 : decode cX4_swap 50 = .ok (.iconst 0, 1) := by decide +kernel
theorem dX4_swap_51 : decode cX4_swap 51 = .ok (.invokevirtual 113, 3) := by decide +kernel
theorem dX4_swap_54 : decode cX4_swap 54 = .ok (.getfield 117, 3) := by decide +kernel
theorem dX4_swap_57 : decode cX4_swap 57 = .ok (.ireturn, 1) := by decide +kernel
theorem dX4_clear_0 : decode cX4_clear 0 = .ok (.aload_n 0, 1) := by decide +kernel
theorem dX4_clear_1 : decode cX4_clear 1 = .ok (.getfield 39, 3) := by decide +kernel
theorem dX4_clear_4 : decode cX4_clear 4 = .ok (.aload_n 0, 1) := by decide +kernel
theorem dX4_clear_5 : decode cX4_clear 5 = .ok (.getfield 10, 3) := by decide +kernel
theorem dX4_clear_8 : decode cX4_clear 8 = .ok (.invokevirtual 58, 3) := by decide +kernel
theorem dX4_clear_11 : decode cX4_clear 11 = .ok (.aload_n 0, 1) := by decide +kernel
theorem dX4_clear_12 : decode cX4_clear 12 = .ok (.getfield 10, 3) := by decide +kernel
theorem dX4_clear_15 : decode cX4_clear 15 = .ok (.getfield 85, 3) := by decide +kernel
theorem dX4_clear_18 : decode cX4_clear 18 = .ok (.istore_n 1, 1) := by decide +kernel
theorem dX4_clear_19 : decode cX4_clear 19 = .ok (.aload_n 0, 1) := by decide +kernel
theorem dX4_clear_20 : decode cX4_clear 20 = .ok (.getfield 10, 3) := by decide +kernel
theorem dX4_clear_23 : decode cX4_clear 23 = .ok (.iconst 0, 1) := by decide +kernel
theorem dX4_clear_24 : decode cX4_clear 24 = .ok (.putfield 85, 3) := by decide +kernel
theorem dX4_clear_27 : decode cX4_clear 27 = .ok (.iload_n 1, 1) := by decide +kernel
theorem dX4_clear_28 : decode cX4_clear 28 = .ok (.ireturn, 1) := by decide +kernel
theorem dX4_sortOf_0 : decode cX4_sortOf 0 = .ok (.iload_n 1, 1) := by decide +kernel
theorem dX4_sortOf_1 : decode cX4_sortOf 1 = .ok (.invokestatic 65, 3) := by decide +kernel
theorem dX4_sortOf_4 : decode cX4_sortOf 4 = .ok (.ifCond .ne 7, 3) := by decide +kernel
theorem dX4_sortOf_7 : decode cX4_sortOf 7 = .ok (.sipush (-1001), 3) := by decide +kernel
theorem dX4_sortOf_10 : decode cX4_sortOf 10 = .ok (.ireturn, 1) := by decide +kernel
theorem dX4_sortOf_11 : decode cX4_sortOf 11 = .ok (.iload_n 2, 1) := by decide +kernel
theorem dX4_sortOf_12 : decode cX4_sortOf 12 = .ok (.tableswitch 97 0 5 #[40, 50, 60, 70, 79, 88], 40) := by decide +kernel
theorem dX4_sortOf_52 : decode cX4_sortOf 52 = .ok (.aload_n 0, 1) := by decide +kernel
theorem dX4_sortOf_53 : decode cX4_sortOf 53 = .ok (.getfield 10, 3) := by decide +kernel
theorem dX4_sortOf_56 : decode cX4_sortOf 56 = .ok (.getfield 72, 3) := by decide +kernel
theorem dX4_sortOf_59 : decode cX4_sortOf 59 = .ok (.iload_n 1, 1) := by decide +kernel
theorem dX4_sortOf_60 : decode cX4_sortOf 60 = .ok (.iaload, 1) := by decide +kernel
theorem dX4_sortOf_61 : decode cX4_sortOf 61 = .ok (.ireturn, 1) := by decide +kernel
theorem dX4_sortOf_62 : decode cX4_sortOf 62 = .ok (.aload_n 0, 1) := by decide +kernel
theorem dX4_sortOf_63 : decode cX4_sortOf 63 = .ok (.getfield 10, 3) := by decide +kernel
theorem dX4_sortOf_66 : decode cX4_sortOf 66 = .ok (.getfield 75, 3) := by decide +kernel
theorem dX4_sortOf_69 : decode cX4_sortOf 69 = .ok (.iload_n 1, 1) := by decide +kernel
theorem dX4_sortOf_70 : decode cX4_sortOf 70 = .ok (.iaload, 1) := by decide +kernel
theorem dX4_sortOf_71 : decode cX4_sortOf 71 = .ok (.ireturn, 1) := by decide +kernel
theorem dX4_sortOf_72 : decode cX4_sortOf 72 = .ok (.aload_n 0, 1) := by decide +kernel
theorem dX4_sortOf_73 : decode cX4_sortOf 73 = .ok (.getfield 10, 3) := by decide +kernel
theorem dX4_sortOf_76 : decode cX4_sortOf 76 = .ok (.getfield 78, 3) := by decide +kernel
theorem dX4_sortOf_79 : decode cX4_sortOf 79 = .ok (.iload_n 1, 1) := by decide +kernel
theorem dX4_sortOf_80 : decode cX4_sortOf 80 = .ok (.iaload, 1) := by decide +kernel
theorem dX4_sortOf_81 : decode cX4_sortOf 81 = .ok (.ireturn, 1) := by decide +kernel
theorem dX4_sortOf_82 : decode cX4_sortOf 82 = .ok (.aload_n 0, 1) := by decide +kernel
theorem dX4_sortOf_83 : decode cX4_sortOf 83 = .ok (.getfield 10, 3) := by decide +kernel
theorem dX4_sortOf_86 : decode cX4_sortOf 86 = .ok (.iload_n 1, 1) := by decide +kernel
theorem dX4_sortOf_87 : decode cX4_sortOf 87 = .ok (.invokevirtual 120, 3) := by decide +kernel
theorem dX4_sortOf_90 : decode cX4_sortOf 90 = .ok (.ireturn, 1) := by decide +kernel
theorem dX4_sortOf_91 : decode cX4_sortOf 91 = .ok (.aload_n 0, 1) := by decide +kernel
theorem dX4_sortOf_92 : decode cX4_sortOf 92 = .ok (.getfield 10, 3) := by decide +kernel
theorem dX4_sortOf_95 : decode cX4_sortOf 95 = .ok (.iload_n 1, 1) := by decide +kernel
theorem dX4_sortOf_96 : decode cX4_sortOf 96 = .ok (.invokevirtual 123, 3) := by decide +kernel
theorem dX4_sortOf_99 : decode cX4_sortOf 99 = .ok (.ireturn, 1) := by decide +kernel
theorem dX4_sortOf_100 : decode cX4_sortOf 100 = .ok (.aload_n 0, 1) := by decide +kernel
theorem dX4_sortOf_101 : decode cX4_sortOf 101 = .ok (.getfield 10, 3) := by decide +kernel
theorem dX4_sortOf_104 : decode cX4_sortOf 104 = .ok (.iload_n 1, 1) := by decide +kernel
theorem dX4_sortOf_105 : decode cX4_sortOf 105 = .ok (.invokevirtual 126, 3) := by decide +kernel
theorem dX4_sortOf_108 : decode cX4_sortOf 108 = .ok (.ireturn, 1) := by decide +kernel
theorem dX4_sortOf_109 : decode cX4_sortOf 109 = .ok (.sipush (-1002), 3) := by decide +kernel
theorem dX4_sortOf_112 : decode cX4_sortOf 112 = .ok (.ireturn, 1) := by decide +kernel
theorem dX4_word_0 : decode cX4_word 0 = .ok (.aload_n 0, 1) := by decide +kernel
theorem dX4_word_1 : decode cX4_word 1 = .ok (.iload_n 1, 1) := by decide +kernel
theorem dX4_word_2 : decode cX4_word 2 = .ok (.invokevirtual 98, 3) := by decide +kernel
theorem dX4_word_5 : decode cX4_word 5 = .ok (.ifCond .ne 7, 3) := by decide +kernel
theorem dX4_word_8 : decode cX4_word 8 = .ok (.sipush (-1001), 3) := by decide +kernel
theorem dX4_word_11 : decode cX4_word 11 = .ok (.ireturn, 1) := by decide +kernel
theorem dX4_word_12 : decode cX4_word 12 = .ok (.iload_n 2, 1) := by decide +kernel
theorem dX4_word_13 : decode cX4_word 13 = .ok (.ifCond .ge 7, 3) := by decide +kernel
theorem dX4_word_16 : decode cX4_word 16 = .ok (.sipush (-1002), 3) := by decide +kernel
theorem dX4_word_19 : decode cX4_word 19 = .ok (.ireturn, 1) := by decide +kernel
theorem dX4_word_20 : decode cX4_word 20 = .ok (.iload_n 2, 1) := by decide +kernel
theorem dX4_word_21 : decode cX4_word 21 = .ok (.tableswitch 70 0 3 #[31, 41, 50, 60], 31) := by decide +kernel
theorem dX4_word_52 : decode cX4_word 52 = .ok (.aload_n 0, 1) := by decide +kernel
theorem dX4_word_53 : decode cX4_word 53 = .ok (.getfield 10, 3) := by decide +kernel
theorem dX4_word_56 : decode cX4_word 56 = .ok (.getfield 129, 3) := by decide +kernel
theorem dX4_word_59 : decode cX4_word 59 = .ok (.iload_n 1, 1) := by decide +kernel
theorem dX4_word_60 : decode cX4_word 60 = .ok (.iaload, 1) := by decide +kernel
theorem dX4_word_61 : decode cX4_word 61 = .ok (.ireturn, 1) := by decide +kernel
theorem dX4_word_62 : decode cX4_word 62 = .ok (.aload_n 0, 1) := by decide +kernel
theorem dX4_word_63 : decode cX4_word 63 = .ok (.getfield 10, 3) := by decide +kernel
theorem dX4_word_66 : decode cX4_word 66 = .ok (.iload_n 1, 1) := by decide +kernel
theorem dX4_word_67 : decode cX4_word 67 = .ok (.invokevirtual 101, 3) := by decide +kernel
theorem dX4_word_70 : decode cX4_word 70 = .ok (.ireturn, 1) := by decide +kernel
theorem dX4_word_71 : decode cX4_word 71 = .ok (.aload_n 0, 1) := by decide +kernel
theorem dX4_word_72 : decode cX4_word 72 = .ok (.iconst 0, 1) := by decide +kernel
theorem dX4_word_73 : decode cX4_word 73 = .ok (.invokevirtual 113, 3) := by decide +kernel
theorem dX4_word_76 : decode cX4_word 76 = .ok (.iload_n 1, 1) := by decide +kernel
theorem dX4_word_77 : decode cX4_word 77 = .ok (.invokevirtual 132, 3) := by decide +kernel
theorem dX4_word_80 : decode cX4_word 80 = .ok (.ireturn, 1) := by decide +kernel
theorem dX4_word_81 : decode cX4_word 81 = .ok (.aload_n 0, 1) := by decide +kernel
theorem dX4_word_82 : decode cX4_word 82 = .ok (.iconst 1, 1) := by decide +kernel
theorem dX4_word_83 : decode cX4_word 83 = .ok (.invokevirtual 113, 3) := by decide +kernel
theorem dX4_word_86 : decode cX4_word 86 = .ok (.iload_n 1, 1) := by decide +kernel
theorem dX4_word_87 : decode cX4_word 87 = .ok (.invokevirtual 132, 3) := by decide +kernel
theorem dX4_word_90 : decode cX4_word 90 = .ok (.ireturn, 1) := by decide +kernel
theorem dX4_word_91 : decode cX4_word 91 = .ok (.iload_n 2, 1) := by decide +kernel
theorem dX4_word_92 : decode cX4_word 92 = .ok (.iconst 4, 1) := by decide +kernel
theorem dX4_word_93 : decode cX4_word 93 = .ok (.isub, 1) := by decide +kernel
theorem dX4_word_94 : decode cX4_word 94 = .ok (.aload_n 0, 1) := by decide +kernel
theorem dX4_word_95 : decode cX4_word 95 = .ok (.getfield 10, 3) := by decide +kernel
theorem dX4_word_98 : decode cX4_word 98 = .ok (.getfield 129, 3) := by decide +kernel
theorem dX4_word_101 : decode cX4_word 101 = .ok (.iload_n 1, 1) := by decide +kernel
theorem dX4_word_102 : decode cX4_word 102 = .ok (.iaload, 1) := by decide +kernel
theorem dX4_word_103 : decode cX4_word 103 = .ok (.if_icmp .ge 17, 3) := by decide +kernel
theorem dX4_word_106 : decode cX4_word 106 = .ok (.aload_n 0, 1) := by decide +kernel
theorem dX4_word_107 : decode cX4_word 107 = .ok (.getfield 10, 3) := by decide +kernel
theorem dX4_word_110 : decode cX4_word 110 = .ok (.iload_n 1, 1) := by decide +kernel
theorem dX4_word_111 : decode cX4_word 111 = .ok (.iload_n 2, 1) := by decide +kernel
theorem dX4_word_112 : decode cX4_word 112 = .ok (.iconst 4, 1) := by decide +kernel
theorem dX4_word_113 : decode cX4_word 113 = .ok (.isub, 1) := by decide +kernel
theorem dX4_word_114 : decode cX4_word 114 = .ok (.invokevirtual 135, 3) := by decide +kernel
theorem dX4_word_117 : decode cX4_word 117 = .ok (.goto 6, 3) := by decide +kernel
theorem dX4_word_120 : decode cX4_word 120 = .ok (.sipush (-1006), 3) := by decide +kernel
theorem dX4_word_123 : decode cX4_word 123 = .ok (.ireturn, 1) := by decide +kernel
theorem dX4_line_0 : decode cX4_line 0 = .ok (.iload_n 1, 1) := by decide +kernel
theorem dX4_line_1 : decode cX4_line 1 = .ok (.invokestatic 139, 3) := by decide +kernel
theorem dX4_line_4 : decode cX4_line 4 = .ok (.ifCond .eq 13, 3) := by decide +kernel
theorem dX4_line_7 : decode cX4_line 7 = .ok (.iload_n 3, 1) := by decide +kernel
theorem dX4_line_8 : decode cX4_line 8 = .ok (.ifCond .lt 9, 3) := by decide +kernel
theorem dX4_line_11 : decode cX4_line 11 = .ok (.iload_n 3, 1) := by decide +kernel
theorem dX4_line_12 : decode cX4_line 12 = .ok (.bipush 8, 2) := by decide +kernel
theorem dX4_line_14 : decode cX4_line 14 = .ok (.if_icmp .le 7, 3) := by decide +kernel
theorem dX4_line_17 : decode cX4_line 17 = .ok (.sipush (-1002), 3) := by decide +kernel
theorem dX4_line_20 : decode cX4_line 20 = .ok (.ireturn, 1) := by decide +kernel
theorem dX4_line_21 : decode cX4_line 21 = .ok (.aload_n 0, 1) := by decide +kernel
theorem dX4_line_22 : decode cX4_line 22 = .ok (.iload_n 1, 1) := by decide +kernel
theorem dX4_line_23 : decode cX4_line 23 = .ok (.invokevirtual 113, 3) := by decide +kernel
theorem dX4_line_26 : decode cX4_line 26 = .ok (.astore 4, 2) := by decide +kernel
theorem dX4_line_28 : decode cX4_line 28 = .ok (.iload_n 2, 1) := by decide +kernel
theorem dX4_line_29 : decode cX4_line 29 = .ok (.ifCond .lt 12, 3) := by decide +kernel
theorem dX4_line_32 : decode cX4_line 32 = .ok (.iload_n 2, 1) := by decide +kernel
theorem dX4_line_33 : decode cX4_line 33 = .ok (.aload 4, 2) := by decide +kernel
theorem dX4_line_35 : decode cX4_line 35 = .ok (.getfield 117, 3) := by decide +kernel
theorem dX4_line_38 : decode cX4_line 38 = .ok (.if_icmp .lt 7, 3) := by decide +kernel
theorem dX4_line_41 : decode cX4_line 41 = .ok (.sipush (-1001), 3) := by decide +kernel
theorem dX4_line_44 : decode cX4_line 44 = .ok (.ireturn, 1) := by decide +kernel
theorem dX4_line_45 : decode cX4_line 45 = .ok (.aload 4, 2) := by decide +kernel
theorem dX4_line_47 : decode cX4_line 47 = .ok (.iload_n 2, 1) := by decide +kernel
theorem dX4_line_48 : decode cX4_line 48 = .ok (.iload_n 3, 1) := by decide +kernel
theorem dX4_line_49 : decode cX4_line 49 = .ok (.invokevirtual 142, 3) := by decide +kernel
theorem dX4_line_52 : decode cX4_line 52 = .ok (.ireturn, 1) := by decide +kernel
theorem dX4_lines_0 : decode cX4_lines 0 = .ok (.iload_n 1, 1) := by decide +kernel
theorem dX4_lines_1 : decode cX4_lines 1 = .ok (.invokestatic 139, 3) := by decide +kernel
theorem dX4_lines_4 : decode cX4_lines 4 = .ok (.ifCond .ne 7, 3) := by decide +kernel
theorem dX4_lines_7 : decode cX4_lines 7 = .ok (.sipush (-1002), 3) := by decide +kernel
theorem dX4_lines_10 : decode cX4_lines 10 = .ok (.ireturn, 1) := by decide +kernel
theorem dX4_lines_11 : decode cX4_lines 11 = .ok (.iload_n 2, 1) := by decide +kernel
theorem dX4_lines_12 : decode cX4_lines 12 = .ok (.tableswitch 81 0 4 #[36, 45, 54, 63, 72], 36) := by decide +kernel
theorem dX4_lines_48 : decode cX4_lines 48 = .ok (.aload_n 0, 1) := by decide +kernel
theorem dX4_lines_49 : decode cX4_lines 49 = .ok (.iload_n 1, 1) := by decide +kernel
theorem dX4_lines_50 : decode cX4_lines 50 = .ok (.invokevirtual 113, 3) := by decide +kernel
theorem dX4_lines_53 : decode cX4_lines 53 = .ok (.getfield 117, 3) := by decide +kernel
theorem dX4_lines_56 : decode cX4_lines 56 = .ok (.ireturn, 1) := by decide +kernel
theorem dX4_lines_57 : decode cX4_lines 57 = .ok (.aload_n 0, 1) := by decide +kernel
theorem dX4_lines_58 : decode cX4_lines 58 = .ok (.iload_n 1, 1) := by decide +kernel
theorem dX4_lines_59 : decode cX4_lines 59 = .ok (.invokevirtual 113, 3) := by decide +kernel
theorem dX4_lines_62 : decode cX4_lines 62 = .ok (.invokevirtual 146, 3) := by decide +kernel
theorem dX4_lines_65 : decode cX4_lines 65 = .ok (.ireturn, 1) := by decide +kernel
theorem dX4_lines_66 : decode cX4_lines 66 = .ok (.aload_n 0, 1) := by decide +kernel
theorem dX4_lines_67 : decode cX4_lines 67 = .ok (.iload_n 1, 1) := by decide +kernel
theorem dX4_lines_68 : decode cX4_lines 68 = .ok (.invokevirtual 113, 3) := by decide +kernel
theorem dX4_lines_71 : decode cX4_lines 71 = .ok (.invokevirtual 149, 3) := by decide +kernel
theorem dX4_lines_74 : decode cX4_lines 74 = .ok (.ireturn, 1) := by decide +kernel
theorem dX4_lines_75 : decode cX4_lines 75 = .ok (.aload_n 0, 1) := by decide +kernel
theorem dX4_lines_76 : decode cX4_lines 76 = .ok (.iload_n 1, 1) := by decide +kernel
theorem dX4_lines_77 : decode cX4_lines 77 = .ok (.invokevirtual 113, 3) := by decide +kernel
theorem dX4_lines_80 : decode cX4_lines 80 = .ok (.invokevirtual 152, 3) := by decide +kernel
theorem dX4_lines_83 : decode cX4_lines 83 = .ok (.ireturn, 1) := by decide +kernel
theorem dX4_lines_84 : decode cX4_lines 84 = .ok (.aload_n 0, 1) := by decide +kernel
theorem dX4_lines_85 : decode cX4_lines 85 = .ok (.iload_n 1, 1) := by decide +kernel
theorem dX4_lines_86 : decode cX4_lines 86 = .ok (.invokevirtual 113, 3) := by decide +kernel
theorem dX4_lines_89 : decode cX4_lines 89 = .ok (.invokevirtual 155, 3) := by decide +kernel
theorem dX4_lines_92 : decode cX4_lines 92 = .ok (.ireturn, 1) := by decide +kernel
theorem dX4_lines_93 : decode cX4_lines 93 = .ok (.sipush (-1002), 3) := by decide +kernel
theorem dX4_lines_96 : decode cX4_lines 96 = .ok (.ireturn, 1) := by decide +kernel
theorem dX4_count_0 : decode cX4_count 0 = .ok (.iload_n 1, 1) := by decide +kernel
theorem dX4_count_1 : decode cX4_count 1 = .ok (.ifCond .lt 18, 3) := by decide +kernel
theorem dX4_count_4 : decode cX4_count 4 = .ok (.iload_n 1, 1) := by decide +kernel
theorem dX4_count_5 : decode cX4_count 5 = .ok (.iconst 4, 1) := by decide +kernel
theorem dX4_count_6 : decode cX4_count 6 = .ok (.if_icmp .ge 13, 3) := by decide +kernel
theorem dX4_count_9 : decode cX4_count 9 = .ok (.aload_n 0, 1) := by decide +kernel
theorem dX4_count_10 : decode cX4_count 10 = .ok (.getfield 10, 3) := by decide +kernel
theorem dX4_count_13 : decode cX4_count 13 = .ok (.getfield 62, 3) := by decide +kernel
theorem dX4_count_16 : decode cX4_count 16 = .ok (.iload_n 1, 1) := by decide +kernel
theorem dX4_count_17 : decode cX4_count 17 = .ok (.iaload, 1) := by decide +kernel
theorem dX4_count_18 : decode cX4_count 18 = .ok (.ireturn, 1) := by decide +kernel
theorem dX4_count_19 : decode cX4_count 19 = .ok (.iload_n 1, 1) := by decide +kernel
theorem dX4_count_20 : decode cX4_count 20 = .ok (.tableswitch 111 4 9 #[40, 48, 56, 73, 95, 103], 40) := by decide +kernel
theorem dX4_count_60 : decode cX4_count 60 = .ok (.aload_n 0, 1) := by decide +kernel
theorem dX4_count_61 : decode cX4_count 61 = .ok (.getfield 10, 3) := by decide +kernel
theorem dX4_count_64 : decode cX4_count 64 = .ok (.getfield 85, 3) := by decide +kernel
theorem dX4_count_67 : decode cX4_count 67 = .ok (.ireturn, 1) := by decide +kernel
theorem dX4_count_68 : decode cX4_count 68 = .ok (.aload_n 0, 1) := by decide +kernel
theorem dX4_count_69 : decode cX4_count 69 = .ok (.getfield 10, 3) := by decide +kernel
theorem dX4_count_72 : decode cX4_count 72 = .ok (.invokevirtual 158, 3) := by decide +kernel
theorem dX4_count_75 : decode cX4_count 75 = .ok (.ireturn, 1) := by decide +kernel
theorem dX4_count_76 : decode cX4_count 76 = .ok (.aload_n 0, 1) := by decide +kernel
theorem dX4_count_77 : decode cX4_count 77 = .ok (.getfield 10, 3) := by decide +kernel
theorem dX4_count_80 : decode cX4_count 80 = .ok (.invokevirtual 158, 3) := by decide +kernel
theorem dX4_count_83 : decode cX4_count 83 = .ok (.aload_n 0, 1) := by decide +kernel
theorem dX4_count_84 : decode cX4_count 84 = .ok (.getfield 10, 3) := by decide +kernel
theorem dX4_count_87 : decode cX4_count 87 = .ok (.iconst 0, 1) := by decide +kernel
theorem dX4_count_88 : decode cX4_count 88 = .ok (.invokevirtual 126, 3) := by decide +kernel
theorem dX4_count_91 : decode cX4_count 91 = .ok (.isub, 1) := by decide +kernel
theorem dX4_count_92 : decode cX4_count 92 = .ok (.ireturn, 1) := by decide +kernel
theorem dX4_count_93 : decode cX4_count 93 = .ok (.aload_n 0, 1) := by decide +kernel
theorem dX4_count_94 : decode cX4_count 94 = .ok (.iconst 0, 1) := by decide +kernel
theorem dX4_count_95 : decode cX4_count 95 = .ok (.invokevirtual 113, 3) := by decide +kernel
theorem dX4_count_98 : decode cX4_count 98 = .ok (.aload_n 0, 1) := by decide +kernel
theorem dX4_count_99 : decode cX4_count 99 = .ok (.iconst 1, 1) := by decide +kernel
theorem dX4_count_100 : decode cX4_count 100 = .ok (.invokevirtual 113, 3) := by decide +kernel
theorem dX4_count_103 : decode cX4_count 103 = .ok (.invokevirtual 161, 3) := by decide +kernel
theorem dX4_count_106 : decode cX4_count 106 = .ok (.ifCond .eq 7, 3) := by decide +kernel
theorem dX4_count_109 : decode cX4_count 109 = .ok (.iconst 1, 1) := by decide +kernel
theorem dX4_count_110 : decode cX4_count 110 = .ok (.goto 4, 3) := by decide +kernel
theorem dX4_count_113 : decode cX4_count 113 = .ok (.iconst 0, 1) := by decide +kernel
theorem dX4_count_114 : decode cX4_count 114 = .ok (.ireturn, 1) := by decide +kernel
theorem dX4_count_115 : decode cX4_count 115 = .ok (.aload_n 0, 1) := by decide +kernel
theorem dX4_count_116 : decode cX4_count 116 = .ok (.getfield 32, 3) := by decide +kernel
theorem dX4_count_119 : decode cX4_count 119 = .ok (.getfield 95, 3) := by decide +kernel
theorem dX4_count_122 : decode cX4_count 122 = .ok (.ireturn, 1) := by decide +kernel
theorem dX4_count_123 : decode cX4_count 123 = .ok (.aload_n 0, 1) := by decide +kernel
theorem dX4_count_124 : decode cX4_count 124 = .ok (.getfield 39, 3) := by decide +kernel
theorem dX4_count_127 : decode cX4_count 127 = .ok (.getfield 165, 3) := by decide +kernel
theorem dX4_count_130 : decode cX4_count 130 = .ok (.ireturn, 1) := by decide +kernel
theorem dX4_count_131 : decode cX4_count 131 = .ok (.sipush (-1002), 3) := by decide +kernel
theorem dX4_count_134 : decode cX4_count 134 = .ok (.ireturn, 1) := by decide +kernel
theorem dX4_body_0 : decode cX4_body 0 = .ok (.aload_n 0, 1) := by decide +kernel
theorem dX4_body_1 : decode cX4_body 1 = .ok (.iload_n 1, 1) := by decide +kernel
theorem dX4_body_2 : decode cX4_body 2 = .ok (.invokevirtual 98, 3) := by decide +kernel
theorem dX4_body_5 : decode cX4_body 5 = .ok (.ifCond .eq 16, 3) := by decide +kernel
theorem dX4_body_8 : decode cX4_body 8 = .ok (.aload_n 0, 1) := by decide +kernel
theorem dX4_body_9 : decode cX4_body 9 = .ok (.iload_n 2, 1) := by decide +kernel
theorem dX4_body_10 : decode cX4_body 10 = .ok (.invokevirtual 98, 3) := by decide +kernel
theorem dX4_body_13 : decode cX4_body 13 = .ok (.ifCond .eq 8, 3) := by decide +kernel
theorem dX4_body_16 : decode cX4_body 16 = .ok (.iload_n 2, 1) := by decide +kernel
theorem dX4_body_17 : decode cX4_body 17 = .ok (.iload_n 1, 1) := by decide +kernel
theorem dX4_body_18 : decode cX4_body 18 = .ok (.if_icmp .ge 7, 3) := by decide +kernel
theorem dX4_body_21 : decode cX4_body 21 = .ok (.sipush (-1001), 3) := by decide +kernel
theorem dX4_body_24 : decode cX4_body 24 = .ok (.ireturn, 1) := by decide +kernel
theorem dX4_body_25 : decode cX4_body 25 = .ok (.aload_n 0, 1) := by decide +kernel
theorem dX4_body_26 : decode cX4_body 26 = .ok (.getfield 22, 3) := by decide +kernel
theorem dX4_body_29 : decode cX4_body 29 = .ok (.aload_n 0, 1) := by decide +kernel
theorem dX4_body_30 : decode cX4_body 30 = .ok (.getfield 10, 3) := by decide +kernel
theorem dX4_body_33 : decode cX4_body 33 = .ok (.invokevirtual 168, 3) := by decide +kernel
theorem dX4_body_36 : decode cX4_body 36 = .ok (.aload_n 0, 1) := by decide +kernel
theorem dX4_body_37 : decode cX4_body 37 = .ok (.getfield 22, 3) := by decide +kernel
theorem dX4_body_40 : decode cX4_body 40 = .ok (.iload_n 1, 1) := by decide +kernel
theorem dX4_body_41 : decode cX4_body 41 = .ok (.iload_n 2, 1) := by decide +kernel
theorem dX4_body_42 : decode cX4_body 42 = .ok (.invokevirtual 171, 3) := by decide +kernel
theorem dX4_body_45 : decode cX4_body 45 = .ok (.ireturn, 1) := by decide +kernel
theorem dX4_leastMeasure_0 : decode cX4_leastMeasure 0 = .ok (.iload_n 1, 1) := by decide +kernel
theorem dX4_leastMeasure_1 : decode cX4_leastMeasure 1 = .ok (.iconst 1, 1) := by decide +kernel
theorem dX4_leastMeasure_2 : decode cX4_leastMeasure 2 = .ok (.if_icmp .lt 9, 3) := by decide +kernel
theorem dX4_leastMeasure_5 : decode cX4_leastMeasure 5 = .ok (.iload_n 1, 1) := by decide +kernel
theorem dX4_leastMeasure_6 : decode cX4_leastMeasure 6 = .ok (.bipush 24, 2) := by decide +kernel
theorem dX4_leastMeasure_8 : decode cX4_leastMeasure 8 = .ok (.if_icmp .le 7, 3) := by decide +kernel
theorem dX4_leastMeasure_11 : decode cX4_leastMeasure 11 = .ok (.sipush (-1002), 3) := by decide +kernel
theorem dX4_leastMeasure_14 : decode cX4_leastMeasure 14 = .ok (.ireturn, 1) := by decide +kernel
theorem dX4_leastMeasure_15 : decode cX4_leastMeasure 15 = .ok (.aload_n 0, 1) := by decide +kernel
theorem dX4_leastMeasure_16 : decode cX4_leastMeasure 16 = .ok (.getfield 22, 3) := by decide +kernel
theorem dX4_leastMeasure_19 : decode cX4_leastMeasure 19 = .ok (.aload_n 0, 1) := by decide +kernel
theorem dX4_leastMeasure_20 : decode cX4_leastMeasure 20 = .ok (.getfield 10, 3) := by decide +kernel
theorem dX4_leastMeasure_23 : decode cX4_leastMeasure 23 = .ok (.invokevirtual 168, 3) := by decide +kernel
theorem dX4_leastMeasure_26 : decode cX4_leastMeasure 26 = .ok (.getstatic 51, 3) := by decide +kernel
theorem dX4_leastMeasure_29 : decode cX4_leastMeasure 29 = .ok (.iconst 0, 1) := by decide +kernel
theorem dX4_leastMeasure_30 : decode cX4_leastMeasure 30 = .ok (.iaload, 1) := by decide +kernel
theorem dX4_leastMeasure_31 : decode cX4_leastMeasure 31 = .ok (.istore_n 2, 1) := by decide +kernel
theorem dX4_leastMeasure_32 : decode cX4_leastMeasure 32 = .ok (.iload_n 2, 1) := by decide +kernel
theorem dX4_leastMeasure_33 : decode cX4_leastMeasure 33 = .ok (.getstatic 55, 3) := by decide +kernel
theorem dX4_leastMeasure_36 : decode cX4_leastMeasure 36 = .ok (.iconst 0, 1) := by decide +kernel
theorem dX4_leastMeasure_37 : decode cX4_leastMeasure 37 = .ok (.iaload, 1) := by decide +kernel
theorem dX4_leastMeasure_38 : decode cX4_leastMeasure 38 = .ok (.if_icmp .gt 37, 3) := by decide +kernel
theorem dX4_leastMeasure_41 : decode cX4_leastMeasure 41 = .ok (.aload_n 0, 1) := by decide +kernel
theorem dX4_leastMeasure_42 : decode cX4_leastMeasure 42 = .ok (.getfield 22, 3) := by decide +kernel
theorem dX4_leastMeasure_45 : decode cX4_leastMeasure 45 = .ok (.iload_n 2, 1) := by decide +kernel
theorem dX4_leastMeasure_46 : decode cX4_leastMeasure 46 = .ok (.putfield 174, 3) := by decide +kernel
theorem dX4_leastMeasure_49 : decode cX4_leastMeasure 49 = .ok (.aload_n 0, 1) := by decide +kernel
theorem dX4_leastMeasure_50 : decode cX4_leastMeasure 50 = .ok (.getfield 22, 3) := by decide +kernel
theorem dX4_leastMeasure_53 : decode cX4_leastMeasure 53 = .ok (.invokevirtual 177, 3) := by decide +kernel
theorem dX4_leastMeasure_56 : decode cX4_leastMeasure 56 = .ok (.aload_n 0, 1) := by decide +kernel
theorem dX4_leastMeasure_57 : decode cX4_leastMeasure 57 = .ok (.getfield 22, 3) := by decide +kernel
theorem dX4_leastMeasure_60 : decode cX4_leastMeasure 60 = .ok (.getfield 117, 3) := by decide +kernel
theorem dX4_leastMeasure_63 : decode cX4_leastMeasure 63 = .ok (.iload_n 1, 1) := by decide +kernel
theorem dX4_leastMeasure_64 : decode cX4_leastMeasure 64 = .ok (.if_icmp .gt 5, 3) := by decide +kernel
theorem dX4_leastMeasure_67 : decode cX4_leastMeasure 67 = .ok (.iload_n 2, 1) := by decide +kernel
theorem dX4_leastMeasure_68 : decode cX4_leastMeasure 68 = .ok (.ireturn, 1) := by decide +kernel
theorem dX4_leastMeasure_69 : decode cX4_leastMeasure 69 = .ok (.iinc 2 1, 3) := by decide +kernel
theorem dX4_leastMeasure_72 : decode cX4_leastMeasure 72 = .ok (.goto (-40), 3) := by decide +kernel
theorem dX4_leastMeasure_75 : decode cX4_leastMeasure 75 = .ok (.sipush (-1006), 3) := by decide +kernel
theorem dX4_leastMeasure_78 : decode cX4_leastMeasure 78 = .ok (.ireturn, 1) := by decide +kernel
theorem dX4_bestShare_0 : decode cX4_bestShare 0 = .ok (.iload_n 1, 1) := by decide +kernel
theorem dX4_bestShare_1 : decode cX4_bestShare 1 = .ok (.invokestatic 65, 3) := by decide +kernel
theorem dX4_bestShare_4 : decode cX4_bestShare 4 = .ok (.ifCond .ne 7, 3) := by decide +kernel
theorem dX4_bestShare_7 : decode cX4_bestShare 7 = .ok (.sipush (-1001), 3) := by decide +kernel
theorem dX4_bestShare_10 : decode cX4_bestShare 10 = .ok (.ireturn, 1) := by decide +kernel
theorem dX4_bestShare_11 : decode cX4_bestShare 11 = .ok (.aload_n 0, 1) := by decide +kernel
theorem dX4_bestShare_12 : decode cX4_bestShare 12 = .ok (.getfield 16, 3) := by decide +kernel
theorem dX4_bestShare_15 : decode cX4_bestShare 15 = .ok (.aload_n 0, 1) := by decide +kernel
theorem dX4_bestShare_16 : decode cX4_bestShare 16 = .ok (.getfield 10, 3) := by decide +kernel
theorem dX4_bestShare_19 : decode cX4_bestShare 19 = .ok (.invokevirtual 180, 3) := by decide +kernel
theorem dX4_bestShare_22 : decode cX4_bestShare 22 = .ok (.iconst 0, 1) := by decide +kernel
theorem dX4_bestShare_23 : decode cX4_bestShare 23 = .ok (.istore_n 2, 1) := by decide +kernel
theorem dX4_bestShare_24 : decode cX4_bestShare 24 = .ok (.iconst 0, 1) := by decide +kernel
theorem dX4_bestShare_25 : decode cX4_bestShare 25 = .ok (.istore_n 3, 1) := by decide +kernel
theorem dX4_bestShare_26 : decode cX4_bestShare 26 = .ok (.iconst (-1), 1) := by decide +kernel
theorem dX4_bestShare_27 : decode cX4_bestShare 27 = .ok (.istore 4, 2) := by decide +kernel
theorem dX4_bestShare_29 : decode cX4_bestShare 29 = .ok (.iconst 0, 1) := by decide +kernel
theorem dX4_bestShare_30 : decode cX4_bestShare 30 = .ok (.istore 5, 2) := by decide +kernel
theorem dX4_bestShare_32 : decode cX4_bestShare 32 = .ok (.iload 5, 2) := by decide +kernel
theorem dX4_bestShare_34 : decode cX4_bestShare 34 = .ok (.bipush 100, 2) := by decide +kernel
theorem dX4_bestShare_36 : decode cX4_bestShare 36 = .ok (.if_icmp .gt 71, 3) := by decide +kernel
theorem dX4_bestShare_39 : decode cX4_bestShare 39 = .ok (.aload_n 0, 1) := by decide +kernel
theorem dX4_bestShare_40 : decode cX4_bestShare 40 = .ok (.getfield 16, 3) := by decide +kernel
theorem dX4_bestShare_43 : decode cX4_bestShare 43 = .ok (.getfield 78, 3) := by decide +kernel
theorem dX4_bestShare_46 : decode cX4_bestShare 46 = .ok (.iload_n 1, 1) := by decide +kernel
theorem dX4_bestShare_47 : decode cX4_bestShare 47 = .ok (.iload 5, 2) := by decide +kernel
theorem dX4_bestShare_49 : decode cX4_bestShare 49 = .ok (.iastore, 1) := by decide +kernel
theorem dX4_bestShare_50 : decode cX4_bestShare 50 = .ok (.aload_n 0, 1) := by decide +kernel
theorem dX4_bestShare_51 : decode cX4_bestShare 51 = .ok (.getfield 16, 3) := by decide +kernel
theorem dX4_bestShare_54 : decode cX4_bestShare 54 = .ok (.iload_n 1, 1) := by decide +kernel
theorem dX4_bestShare_55 : decode cX4_bestShare 55 = .ok (.invokevirtual 123, 3) := by decide +kernel
theorem dX4_bestShare_58 : decode cX4_bestShare 58 = .ok (.istore 6, 2) := by decide +kernel
theorem dX4_bestShare_60 : decode cX4_bestShare 60 = .ok (.iload 6, 2) := by decide +kernel
theorem dX4_bestShare_62 : decode cX4_bestShare 62 = .ok (.iload 4, 2) := by decide +kernel
theorem dX4_bestShare_64 : decode cX4_bestShare 64 = .ok (.if_icmp .ne 6, 3) := by decide +kernel
theorem dX4_bestShare_67 : decode cX4_bestShare 67 = .ok (.goto 34, 3) := by decide +kernel
theorem dX4_bestShare_70 : decode cX4_bestShare 70 = .ok (.iload 6, 2) := by decide +kernel
theorem dX4_bestShare_72 : decode cX4_bestShare 72 = .ok (.istore 4, 2) := by decide +kernel
theorem dX4_bestShare_74 : decode cX4_bestShare 74 = .ok (.aload_n 0, 1) := by decide +kernel
theorem dX4_bestShare_75 : decode cX4_bestShare 75 = .ok (.aload_n 0, 1) := by decide +kernel
theorem dX4_bestShare_76 : decode cX4_bestShare 76 = .ok (.getfield 16, 3) := by decide +kernel
theorem dX4_bestShare_79 : decode cX4_bestShare 79 = .ok (.invokevirtual 183, 3) := by decide +kernel
theorem dX4_bestShare_82 : decode cX4_bestShare 82 = .ok (.istore 7, 2) := by decide +kernel
theorem dX4_bestShare_84 : decode cX4_bestShare 84 = .ok (.iload 5, 2) := by decide +kernel
theorem dX4_bestShare_86 : decode cX4_bestShare 86 = .ok (.ifCond .eq 9, 3) := by decide +kernel
theorem dX4_bestShare_89 : decode cX4_bestShare 89 = .ok (.iload 7, 2) := by decide +kernel
theorem dX4_bestShare_91 : decode cX4_bestShare 91 = .ok (.iload_n 3, 1) := by decide +kernel
theorem dX4_bestShare_92 : decode cX4_bestShare 92 = .ok (.if_icmp .ge 9, 3) := by decide +kernel
theorem dX4_bestShare_95 : decode cX4_bestShare 95 = .ok (.iload 5, 2) := by decide +kernel
theorem dX4_bestShare_97 : decode cX4_bestShare 97 = .ok (.istore_n 2, 1) := by decide +kernel
theorem dX4_bestShare_98 : decode cX4_bestShare 98 = .ok (.iload 7, 2) := by decide +kernel
theorem dX4_bestShare_100 : decode cX4_bestShare 100 = .ok (.istore_n 3, 1) := by decide +kernel
theorem dX4_bestShare_101 : decode cX4_bestShare 101 = .ok (.iinc 5 1, 3) := by decide +kernel
theorem dX4_bestShare_104 : decode cX4_bestShare 104 = .ok (.goto (-72), 3) := by decide +kernel
theorem dX4_bestShare_107 : decode cX4_bestShare 107 = .ok (.iload_n 2, 1) := by decide +kernel
theorem dX4_bestShare_108 : decode cX4_bestShare 108 = .ok (.ireturn, 1) := by decide +kernel
theorem dX4_worstWord_0 : decode cX4_worstWord 0 = .ok (.sipush (-1006), 3) := by decide +kernel
theorem dX4_worstWord_3 : decode cX4_worstWord 3 = .ok (.istore_n 1, 1) := by decide +kernel
theorem dX4_worstWord_4 : decode cX4_worstWord 4 = .ok (.iconst 0, 1) := by decide +kernel
theorem dX4_worstWord_5 : decode cX4_worstWord 5 = .ok (.istore_n 2, 1) := by decide +kernel
theorem dX4_worstWord_6 : decode cX4_worstWord 6 = .ok (.iconst 0, 1) := by decide +kernel
theorem dX4_worstWord_7 : decode cX4_worstWord 7 = .ok (.istore_n 3, 1) := by decide +kernel
theorem dX4_worstWord_8 : decode cX4_worstWord 8 = .ok (.iload_n 3, 1) := by decide +kernel
theorem dX4_worstWord_9 : decode cX4_worstWord 9 = .ok (.aload_n 0, 1) := by decide +kernel
theorem dX4_worstWord_10 : decode cX4_worstWord 10 = .ok (.getfield 10, 3) := by decide +kernel
theorem dX4_worstWord_13 : decode cX4_worstWord 13 = .ok (.getfield 85, 3) := by decide +kernel
theorem dX4_worstWord_16 : decode cX4_worstWord 16 = .ok (.if_icmp .ge 56, 3) := by decide +kernel
theorem dX4_worstWord_19 : decode cX4_worstWord 19 = .ok (.aload_n 0, 1) := by decide +kernel
theorem dX4_worstWord_20 : decode cX4_worstWord 20 = .ok (.getfield 16, 3) := by decide +kernel
theorem dX4_worstWord_23 : decode cX4_worstWord 23 = .ok (.aload_n 0, 1) := by decide +kernel
theorem dX4_worstWord_24 : decode cX4_worstWord 24 = .ok (.getfield 10, 3) := by decide +kernel
theorem dX4_worstWord_27 : decode cX4_worstWord 27 = .ok (.invokevirtual 180, 3) := by decide +kernel
theorem dX4_worstWord_30 : decode cX4_worstWord 30 = .ok (.aload_n 0, 1) := by decide +kernel
theorem dX4_worstWord_31 : decode cX4_worstWord 31 = .ok (.getfield 16, 3) := by decide +kernel
theorem dX4_worstWord_34 : decode cX4_worstWord 34 = .ok (.iload_n 3, 1) := by decide +kernel
theorem dX4_worstWord_35 : decode cX4_worstWord 35 = .ok (.invokevirtual 105, 3) := by decide +kernel
theorem dX4_worstWord_38 : decode cX4_worstWord 38 = .ok (.aload_n 0, 1) := by decide +kernel
theorem dX4_worstWord_39 : decode cX4_worstWord 39 = .ok (.aload_n 0, 1) := by decide +kernel
theorem dX4_worstWord_40 : decode cX4_worstWord 40 = .ok (.getfield 16, 3) := by decide +kernel
theorem dX4_worstWord_43 : decode cX4_worstWord 43 = .ok (.invokevirtual 183, 3) := by decide +kernel
theorem dX4_worstWord_46 : decode cX4_worstWord 46 = .ok (.istore 4, 2) := by decide +kernel
theorem dX4_worstWord_48 : decode cX4_worstWord 48 = .ok (.iload_n 1, 1) := by decide +kernel
theorem dX4_worstWord_49 : decode cX4_worstWord 49 = .ok (.sipush (-1006), 3) := by decide +kernel
theorem dX4_worstWord_52 : decode cX4_worstWord 52 = .ok (.if_icmp .eq 9, 3) := by decide +kernel
theorem dX4_worstWord_55 : decode cX4_worstWord 55 = .ok (.iload 4, 2) := by decide +kernel
theorem dX4_worstWord_57 : decode cX4_worstWord 57 = .ok (.iload_n 2, 1) := by decide +kernel
theorem dX4_worstWord_58 : decode cX4_worstWord 58 = .ok (.if_icmp .ge 8, 3) := by decide +kernel
theorem dX4_worstWord_61 : decode cX4_worstWord 61 = .ok (.iload_n 3, 1) := by decide +kernel
theorem dX4_worstWord_62 : decode cX4_worstWord 62 = .ok (.istore_n 1, 1) := by decide +kernel
theorem dX4_worstWord_63 : decode cX4_worstWord 63 = .ok (.iload 4, 2) := by decide +kernel
theorem dX4_worstWord_65 : decode cX4_worstWord 65 = .ok (.istore_n 2, 1) := by decide +kernel
theorem dX4_worstWord_66 : decode cX4_worstWord 66 = .ok (.iinc 3 1, 3) := by decide +kernel
theorem dX4_worstWord_69 : decode cX4_worstWord 69 = .ok (.goto (-61), 3) := by decide +kernel
theorem dX4_worstWord_72 : decode cX4_worstWord 72 = .ok (.iload_n 1, 1) := by decide +kernel
theorem dX4_worstWord_73 : decode cX4_worstWord 73 = .ok (.ireturn, 1) := by decide +kernel
theorem dX4_put_0 : decode cX4_put 0 = .ok (.lload_n 1, 1) := by decide +kernel
theorem dX4_put_1 : decode cX4_put 1 = .ok (.invokestatic 187, 3) := by decide +kernel
theorem dX4_put_4 : decode cX4_put 4 = .ok (.istore_n 3, 1) := by decide +kernel
theorem dX4_put_5 : decode cX4_put 5 = .ok (.iload_n 3, 1) := by decide +kernel
theorem dX4_put_6 : decode cX4_put 6 = .ok (.ifCond .ne 7, 3) := by decide +kernel
theorem dX4_put_9 : decode cX4_put 9 = .ok (.sipush (-1002), 3) := by decide +kernel
theorem dX4_put_12 : decode cX4_put 12 = .ok (.ireturn, 1) := by decide +kernel
theorem dX4_put_13 : decode cX4_put 13 = .ok (.aload_n 0, 1) := by decide +kernel
theorem dX4_put_14 : decode cX4_put 14 = .ok (.getfield 32, 3) := by decide +kernel
theorem dX4_put_17 : decode cX4_put 17 = .ok (.getfield 95, 3) := by decide +kernel
theorem dX4_put_20 : decode cX4_put 20 = .ok (.iload_n 3, 1) := by decide +kernel
theorem dX4_put_21 : decode cX4_put 21 = .ok (.iadd, 1) := by decide +kernel
theorem dX4_put_22 : decode cX4_put 22 = .ok (.bipush 60, 2) := by decide +kernel
theorem dX4_put_24 : decode cX4_put 24 = .ok (.if_icmp .le 7, 3) := by decide +kernel
theorem dX4_put_27 : decode cX4_put 27 = .ok (.sipush (-1004), 3) := by decide +kernel
theorem dX4_put_30 : decode cX4_put 30 = .ok (.ireturn, 1) := by decide +kernel
theorem dX4_put_31 : decode cX4_put 31 = .ok (.aload_n 0, 1) := by decide +kernel
theorem dX4_put_32 : decode cX4_put 32 = .ok (.getfield 32, 3) := by decide +kernel
theorem dX4_put_35 : decode cX4_put 35 = .ok (.lload_n 1, 1) := by decide +kernel
theorem dX4_put_36 : decode cX4_put 36 = .ok (.iload_n 3, 1) := by decide +kernel
theorem dX4_put_37 : decode cX4_put 37 = .ok (.invokevirtual 191, 3) := by decide +kernel
theorem dX4_put_40 : decode cX4_put 40 = .ok (.aload_n 0, 1) := by decide +kernel
theorem dX4_put_41 : decode cX4_put 41 = .ok (.getfield 32, 3) := by decide +kernel
theorem dX4_put_44 : decode cX4_put 44 = .ok (.getfield 95, 3) := by decide +kernel
theorem dX4_put_47 : decode cX4_put 47 = .ok (.ireturn, 1) := by decide +kernel
theorem dX4_wipe_0 : decode cX4_wipe 0 = .ok (.aload_n 0, 1) := by decide +kernel
theorem dX4_wipe_1 : decode cX4_wipe 1 = .ok (.getfield 32, 3) := by decide +kernel
theorem dX4_wipe_4 : decode cX4_wipe 4 = .ok (.getfield 95, 3) := by decide +kernel
theorem dX4_wipe_7 : decode cX4_wipe 7 = .ok (.istore_n 1, 1) := by decide +kernel
theorem dX4_wipe_8 : decode cX4_wipe 8 = .ok (.aload_n 0, 1) := by decide +kernel
theorem dX4_wipe_9 : decode cX4_wipe 9 = .ok (.getfield 32, 3) := by decide +kernel
theorem dX4_wipe_12 : decode cX4_wipe 12 = .ok (.iconst 0, 1) := by decide +kernel
theorem dX4_wipe_13 : decode cX4_wipe 13 = .ok (.putfield 95, 3) := by decide +kernel
theorem dX4_wipe_16 : decode cX4_wipe 16 = .ok (.iload_n 1, 1) := by decide +kernel
theorem dX4_wipe_17 : decode cX4_wipe 17 = .ok (.ireturn, 1) := by decide +kernel
theorem dX4_save_0 : decode cX4_save 0 = .ok (.iload_n 1, 1) := by decide +kernel
theorem dX4_save_1 : decode cX4_save 1 = .ok (.ifCond .lt 8, 3) := by decide +kernel
theorem dX4_save_4 : decode cX4_save 4 = .ok (.iload_n 1, 1) := by decide +kernel
theorem dX4_save_5 : decode cX4_save 5 = .ok (.iconst 2, 1) := by decide +kernel
theorem dX4_save_6 : decode cX4_save 6 = .ok (.if_icmp .lt 7, 3) := by decide +kernel
theorem dX4_save_9 : decode cX4_save 9 = .ok (.sipush (-1002), 3) := by decide +kernel
theorem dX4_save_12 : decode cX4_save 12 = .ok (.ireturn, 1) := by decide +kernel
theorem dX4_save_13 : decode cX4_save 13 = .ok (.aload_n 0, 1) := by decide +kernel
theorem dX4_save_14 : decode cX4_save 14 = .ok (.getfield 43, 3) := by decide +kernel
theorem dX4_save_17 : decode cX4_save 17 = .ok (.iload_n 1, 1) := by decide +kernel
theorem dX4_save_18 : decode cX4_save 18 = .ok (.aaload, 1) := by decide +kernel
theorem dX4_save_19 : decode cX4_save 19 = .ok (.aload_n 0, 1) := by decide +kernel
theorem dX4_save_20 : decode cX4_save 20 = .ok (.getfield 10, 3) := by decide +kernel
theorem dX4_save_23 : decode cX4_save 23 = .ok (.invokevirtual 180, 3) := by decide +kernel
theorem dX4_save_26 : decode cX4_save 26 = .ok (.aload_n 0, 1) := by decide +kernel
theorem dX4_save_27 : decode cX4_save 27 = .ok (.getfield 47, 3) := by decide +kernel
theorem dX4_save_30 : decode cX4_save 30 = .ok (.iload_n 1, 1) := by decide +kernel
theorem dX4_save_31 : decode cX4_save 31 = .ok (.iconst 1, 1) := by decide +kernel
theorem dX4_save_32 : decode cX4_save 32 = .ok (.bastore, 1) := by decide +kernel
theorem dX4_save_33 : decode cX4_save 33 = .ok (.aload_n 0, 1) := by decide +kernel
theorem dX4_save_34 : decode cX4_save 34 = .ok (.getfield 10, 3) := by decide +kernel
theorem dX4_save_37 : decode cX4_save 37 = .ok (.getfield 85, 3) := by decide +kernel
theorem dX4_save_40 : decode cX4_save 40 = .ok (.ireturn, 1) := by decide +kernel
theorem dX4_restore_0 : decode cX4_restore 0 = .ok (.iload_n 1, 1) := by decide +kernel
theorem dX4_restore_1 : decode cX4_restore 1 = .ok (.ifCond .lt 8, 3) := by decide +kernel
theorem dX4_restore_4 : decode cX4_restore 4 = .ok (.iload_n 1, 1) := by decide +kernel
theorem dX4_restore_5 : decode cX4_restore 5 = .ok (.iconst 2, 1) := by decide +kernel
theorem dX4_restore_6 : decode cX4_restore 6 = .ok (.if_icmp .lt 7, 3) := by decide +kernel
theorem dX4_restore_9 : decode cX4_restore 9 = .ok (.sipush (-1002), 3) := by decide +kernel
theorem dX4_restore_12 : decode cX4_restore 12 = .ok (.ireturn, 1) := by decide +kernel
theorem dX4_restore_13 : decode cX4_restore 13 = .ok (.aload_n 0, 1) := by decide +kernel
theorem dX4_restore_14 : decode cX4_restore 14 = .ok (.getfield 47, 3) := by decide +kernel
theorem dX4_restore_17 : decode cX4_restore 17 = .ok (.iload_n 1, 1) := by decide +kernel
theorem dX4_restore_18 : decode cX4_restore 18 = .ok (.baload, 1) := by decide +kernel
theorem dX4_restore_19 : decode cX4_restore 19 = .ok (.ifCond .ne 7, 3) := by decide +kernel
theorem dX4_restore_22 : decode cX4_restore 22 = .ok (.sipush (-1005), 3) := by decide +kernel
theorem dX4_restore_25 : decode cX4_restore 25 = .ok (.ireturn, 1) := by decide +kernel
theorem dX4_restore_26 : decode cX4_restore 26 = .ok (.aload_n 0, 1) := by decide +kernel
theorem dX4_restore_27 : decode cX4_restore 27 = .ok (.getfield 39, 3) := by decide +kernel
theorem dX4_restore_30 : decode cX4_restore 30 = .ok (.aload_n 0, 1) := by decide +kernel
theorem dX4_restore_31 : decode cX4_restore 31 = .ok (.getfield 10, 3) := by decide +kernel
theorem dX4_restore_34 : decode cX4_restore 34 = .ok (.invokevirtual 58, 3) := by decide +kernel
theorem dX4_restore_37 : decode cX4_restore 37 = .ok (.aload_n 0, 1) := by decide +kernel
theorem dX4_restore_38 : decode cX4_restore 38 = .ok (.getfield 10, 3) := by decide +kernel
theorem dX4_restore_41 : decode cX4_restore 41 = .ok (.aload_n 0, 1) := by decide +kernel
theorem dX4_restore_42 : decode cX4_restore 42 = .ok (.getfield 43, 3) := by decide +kernel
theorem dX4_restore_45 : decode cX4_restore 45 = .ok (.iload_n 1, 1) := by decide +kernel
theorem dX4_restore_46 : decode cX4_restore 46 = .ok (.aaload, 1) := by decide +kernel
theorem dX4_restore_47 : decode cX4_restore 47 = .ok (.invokevirtual 180, 3) := by decide +kernel
theorem dX4_restore_50 : decode cX4_restore 50 = .ok (.aload_n 0, 1) := by decide +kernel
theorem dX4_restore_51 : decode cX4_restore 51 = .ok (.getfield 10, 3) := by decide +kernel
theorem dX4_restore_54 : decode cX4_restore 54 = .ok (.getfield 85, 3) := by decide +kernel
theorem dX4_restore_57 : decode cX4_restore 57 = .ok (.ireturn, 1) := by decide +kernel
theorem dX4_isSort_0 : decode cX4_isSort 0 = .ok (.iload_n 0, 1) := by decide +kernel
theorem dX4_isSort_1 : decode cX4_isSort 1 = .ok (.ifCond .lt 13, 3) := by decide +kernel
theorem dX4_isSort_4 : decode cX4_isSort 4 = .ok (.iload_n 0, 1) := by decide +kernel
theorem dX4_isSort_5 : decode cX4_isSort 5 = .ok (.bipush 8, 2) := by decide +kernel
theorem dX4_isSort_7 : decode cX4_isSort 7 = .ok (.if_icmp .ge 7, 3) := by decide +kernel
theorem dX4_isSort_10 : decode cX4_isSort 10 = .ok (.iconst 1, 1) := by decide +kernel
theorem dX4_isSort_11 : decode cX4_isSort 11 = .ok (.goto 4, 3) := by decide +kernel
theorem dX4_isSort_14 : decode cX4_isSort 14 = .ok (.iconst 0, 1) := by decide +kernel
theorem dX4_isSort_15 : decode cX4_isSort 15 = .ok (.ireturn, 1) := by decide +kernel
theorem dX4_isShare_0 : decode cX4_isShare 0 = .ok (.iload_n 0, 1) := by decide +kernel
theorem dX4_isShare_1 : decode cX4_isShare 1 = .ok (.ifCond .lt 13, 3) := by decide +kernel
theorem dX4_isShare_4 : decode cX4_isShare 4 = .ok (.iload_n 0, 1) := by decide +kernel
theorem dX4_isShare_5 : decode cX4_isShare 5 = .ok (.bipush 100, 2) := by decide +kernel
theorem dX4_isShare_7 : decode cX4_isShare 7 = .ok (.if_icmp .gt 7, 3) := by decide +kernel
theorem dX4_isShare_10 : decode cX4_isShare 10 = .ok (.iconst 1, 1) := by decide +kernel
theorem dX4_isShare_11 : decode cX4_isShare 11 = .ok (.goto 4, 3) := by decide +kernel
theorem dX4_isShare_14 : decode cX4_isShare 14 = .ok (.iconst 0, 1) := by decide +kernel
theorem dX4_isShare_15 : decode cX4_isShare 15 = .ok (.ireturn, 1) := by decide +kernel
theorem dX4_isWay_0 : decode cX4_isWay 0 = .ok (.iload_n 0, 1) := by decide +kernel
theorem dX4_isWay_1 : decode cX4_isWay 1 = .ok (.ifCond .lt 12, 3) := by decide +kernel
theorem dX4_isWay_4 : decode cX4_isWay 4 = .ok (.iload_n 0, 1) := by decide +kernel
theorem dX4_isWay_5 : decode cX4_isWay 5 = .ok (.iconst 2, 1) := by decide +kernel
theorem dX4_isWay_6 : decode cX4_isWay 6 = .ok (.if_icmp .ge 7, 3) := by decide +kernel
theorem dX4_isWay_9 : decode cX4_isWay 9 = .ok (.iconst 1, 1) := by decide +kernel
theorem dX4_isWay_10 : decode cX4_isWay 10 = .ok (.goto 4, 3) := by decide +kernel
theorem dX4_isWay_13 : decode cX4_isWay 13 = .ok (.iconst 0, 1) := by decide +kernel
theorem dX4_isWay_14 : decode cX4_isWay 14 = .ok (.ireturn, 1) := by decide +kernel
theorem dX4_isWord_0 : decode cX4_isWord 0 = .ok (.iload_n 1, 1) := by decide +kernel
theorem dX4_isWord_1 : decode cX4_isWord 1 = .ok (.ifCond .lt 18, 3) := by decide +kernel
theorem dX4_isWord_4 : decode cX4_isWord 4 = .ok (.iload_n 1, 1) := by decide +kernel
theorem dX4_isWord_5 : decode cX4_isWord 5 = .ok (.aload_n 0, 1) := by decide +kernel
theorem dX4_isWord_6 : decode cX4_isWord 6 = .ok (.getfield 10, 3) := by decide +kernel
theorem dX4_isWord_9 : decode cX4_isWord 9 = .ok (.getfield 85, 3) := by decide +kernel
theorem dX4_isWord_12 : decode cX4_isWord 12 = .ok (.if_icmp .ge 7, 3) := by decide +kernel
theorem dX4_isWord_15 : decode cX4_isWord 15 = .ok (.iconst 1, 1) := by decide +kernel
theorem dX4_isWord_16 : decode cX4_isWord 16 = .ok (.goto 4, 3) := by decide +kernel
theorem dX4_isWord_19 : decode cX4_isWord 19 = .ok (.iconst 0, 1) := by decide +kernel
theorem dX4_isWord_20 : decode cX4_isWord 20 = .ok (.ireturn, 1) := by decide +kernel
theorem dX4_sortWith_0 : decode cX4_sortWith 0 = .ok (.iload_n 0, 1) := by decide +kernel
theorem dX4_sortWith_1 : decode cX4_sortWith 1 = .ok (.bipush 97, 2) := by decide +kernel
theorem dX4_sortWith_3 : decode cX4_sortWith 3 = .ok (.if_icmp .lt 11, 3) := by decide +kernel
theorem dX4_sortWith_6 : decode cX4_sortWith 6 = .ok (.iload_n 0, 1) := by decide +kernel
theorem dX4_sortWith_7 : decode cX4_sortWith 7 = .ok (.bipush 122, 2) := by decide +kernel
theorem dX4_sortWith_9 : decode cX4_sortWith 9 = .ok (.if_icmp .gt 5, 3) := by decide +kernel
theorem dX4_sortWith_12 : decode cX4_sortWith 12 = .ok (.iconst 0, 1) := by decide +kernel
theorem dX4_sortWith_13 : decode cX4_sortWith 13 = .ok (.ireturn, 1) := by decide +kernel
theorem dX4_sortWith_14 : decode cX4_sortWith 14 = .ok (.iload_n 0, 1) := by decide +kernel
theorem dX4_sortWith_15 : decode cX4_sortWith 15 = .ok (.lookupswitch 81 #[(33, 78), (39, 75), (44, 67), (45, 73), (46, 65), (58, 71), (59, 69)], 65) := by decide +kernel
theorem dX4_sortWith_80 : decode cX4_sortWith 80 = .ok (.iconst 1, 1) := by decide +kernel
theorem dX4_sortWith_81 : decode cX4_sortWith 81 = .ok (.ireturn, 1) := by decide +kernel
theorem dX4_sortWith_82 : decode cX4_sortWith 82 = .ok (.iconst 2, 1) := by decide +kernel
theorem dX4_sortWith_83 : decode cX4_sortWith 83 = .ok (.ireturn, 1) := by decide +kernel
theorem dX4_sortWith_84 : decode cX4_sortWith 84 = .ok (.iconst 3, 1) := by decide +kernel
theorem dX4_sortWith_85 : decode cX4_sortWith 85 = .ok (.ireturn, 1) := by decide +kernel
theorem dX4_sortWith_86 : decode cX4_sortWith 86 = .ok (.iconst 4, 1) := by decide +kernel
theorem dX4_sortWith_87 : decode cX4_sortWith 87 = .ok (.ireturn, 1) := by decide +kernel
theorem dX4_sortWith_88 : decode cX4_sortWith 88 = .ok (.iconst 5, 1) := by decide +kernel
theorem dX4_sortWith_89 : decode cX4_sortWith 89 = .ok (.ireturn, 1) := by decide +kernel
theorem dX4_sortWith_90 : decode cX4_sortWith 90 = .ok (.bipush 6, 2) := by decide +kernel
theorem dX4_sortWith_92 : decode cX4_sortWith 92 = .ok (.ireturn, 1) := by decide +kernel
theorem dX4_sortWith_93 : decode cX4_sortWith 93 = .ok (.bipush 7, 2) := by decide +kernel
theorem dX4_sortWith_95 : decode cX4_sortWith 95 = .ok (.ireturn, 1) := by decide +kernel
theorem dX4_sortWith_96 : decode cX4_sortWith 96 = .ok (.iconst (-1), 1) := by decide +kernel
theorem dX4_sortWith_97 : decode cX4_sortWith 97 = .ok (.ireturn, 1) := by decide +kernel
theorem dX4_broken_0 : decode cX4_broken 0 = .ok (.iload_n 1, 1) := by decide +kernel
theorem dX4_broken_1 : decode cX4_broken 1 = .ok (.ifCond .ne 10, 3) := by decide +kernel
theorem dX4_broken_4 : decode cX4_broken 4 = .ok (.aload_n 0, 1) := by decide +kernel
theorem dX4_broken_5 : decode cX4_broken 5 = .ok (.getfield 22, 3) := by decide +kernel
theorem dX4_broken_8 : decode cX4_broken 8 = .ok (.goto 7, 3) := by decide +kernel
theorem dX4_broken_11 : decode cX4_broken 11 = .ok (.aload_n 0, 1) := by decide +kernel
theorem dX4_broken_12 : decode cX4_broken 12 = .ok (.getfield 26, 3) := by decide +kernel
theorem dX4_broken_15 : decode cX4_broken 15 = .ok (.astore_n 2, 1) := by decide +kernel
theorem dX4_broken_16 : decode cX4_broken 16 = .ok (.aload_n 2, 1) := by decide +kernel
theorem dX4_broken_17 : decode cX4_broken 17 = .ok (.aload_n 0, 1) := by decide +kernel
theorem dX4_broken_18 : decode cX4_broken 18 = .ok (.getfield 10, 3) := by decide +kernel
theorem dX4_broken_21 : decode cX4_broken 21 = .ok (.invokevirtual 168, 3) := by decide +kernel
theorem dX4_broken_24 : decode cX4_broken 24 = .ok (.iload_n 1, 1) := by decide +kernel
theorem dX4_broken_25 : decode cX4_broken 25 = .ok (.ifCond .ne 10, 3) := by decide +kernel
theorem dX4_broken_28 : decode cX4_broken 28 = .ok (.aload_n 2, 1) := by decide +kernel
theorem dX4_broken_29 : decode cX4_broken 29 = .ok (.invokevirtual 177, 3) := by decide +kernel
theorem dX4_broken_32 : decode cX4_broken 32 = .ok (.goto 7, 3) := by decide +kernel
theorem dX4_broken_35 : decode cX4_broken 35 = .ok (.aload_n 2, 1) := by decide +kernel
theorem dX4_broken_36 : decode cX4_broken 36 = .ok (.invokevirtual 198, 3) := by decide +kernel
theorem dX4_broken_39 : decode cX4_broken 39 = .ok (.aload_n 2, 1) := by decide +kernel
theorem dX4_broken_40 : decode cX4_broken 40 = .ok (.areturn, 1) := by decide +kernel
theorem dX4_leastBadnessOf_0 : decode cX4_leastBadnessOf 0 = .ok (.aload_n 0, 1) := by decide +kernel
theorem dX4_leastBadnessOf_1 : decode cX4_leastBadnessOf 1 = .ok (.getfield 26, 3) := by decide +kernel
theorem dX4_leastBadnessOf_4 : decode cX4_leastBadnessOf 4 = .ok (.aload_n 1, 1) := by decide +kernel
theorem dX4_leastBadnessOf_5 : decode cX4_leastBadnessOf 5 = .ok (.invokevirtual 168, 3) := by decide +kernel
theorem dX4_leastBadnessOf_8 : decode cX4_leastBadnessOf 8 = .ok (.aload_n 0, 1) := by decide +kernel
theorem dX4_leastBadnessOf_9 : decode cX4_leastBadnessOf 9 = .ok (.getfield 26, 3) := by decide +kernel
theorem dX4_leastBadnessOf_12 : decode cX4_leastBadnessOf 12 = .ok (.invokevirtual 201, 3) := by decide +kernel
theorem dX4_leastBadnessOf_15 : decode cX4_leastBadnessOf 15 = .ok (.ireturn, 1) := by decide +kernel
theorem dL_cell_0 : decode cL_cell 0 = .ok (.iload_n 1, 1) := by decide +kernel
theorem dL_cell_1 : decode cL_cell 1 = .ok (.aload_n 0, 1) := by decide +kernel
theorem dL_cell_2 : decode cL_cell 2 = .ok (.arraylength, 1) := by decide +kernel
theorem dL_cell_3 : decode cL_cell 3 = .ok (.if_icmp .ge 9, 3) := by decide +kernel
theorem dL_cell_6 : decode cL_cell 6 = .ok (.aload_n 0, 1) := by decide +kernel
theorem dL_cell_7 : decode cL_cell 7 = .ok (.iload_n 1, 1) := by decide +kernel
theorem dL_cell_8 : decode cL_cell 8 = .ok (.iaload, 1) := by decide +kernel
theorem dL_cell_9 : decode cL_cell 9 = .ok (.goto 11, 3) := by decide +kernel
theorem dL_cell_12 : decode cL_cell 12 = .ok (.ldc 7, 2) := by decide +kernel
theorem dL_cell_14 : decode cL_cell 14 = .ok (.iload_n 1, 1) := by decide +kernel
theorem dL_cell_15 : decode cL_cell 15 = .ok (.sipush 1481, 3) := by decide +kernel
theorem dL_cell_18 : decode cL_cell 18 = .ok (.iadd, 1) := by decide +kernel
theorem dL_cell_19 : decode cL_cell 19 = .ok (.imul, 1) := by decide +kernel
theorem dL_cell_20 : decode cL_cell 20 = .ok (.ireturn, 1) := by decide +kernel
theorem dL_up_0 : decode cL_up 0 = .ok (.iload_n 0, 1) := by decide +kernel
theorem dL_up_1 : decode cL_up 1 = .ok (.ldc 8, 2) := by decide +kernel
theorem dL_up_3 : decode cL_up 3 = .ok (.iand, 1) := by decide +kernel
theorem dL_up_4 : decode cL_up 4 = .ok (.iload_n 1, 1) := by decide +kernel
theorem dL_up_5 : decode cL_up 5 = .ok (.irem, 1) := by decide +kernel
theorem dL_up_6 : decode cL_up 6 = .ok (.ireturn, 1) := by decide +kernel
theorem dL_there_0 : decode cL_there 0 = .ok (.iload_n 0, 1) := by decide +kernel
theorem dL_there_1 : decode cL_there 1 = .ok (.ifCond .eq 9, 3) := by decide +kernel
theorem dL_there_4 : decode cL_there 4 = .ok (.iload_n 0, 1) := by decide +kernel
theorem dL_there_5 : decode cL_there 5 = .ok (.bipush 7, 2) := by decide +kernel
theorem dL_there_7 : decode cL_there 7 = .ok (.if_icmp .ne 7, 3) := by decide +kernel
theorem dL_there_10 : decode cL_there 10 = .ok (.iload_n 0, 1) := by decide +kernel
theorem dL_there_11 : decode cL_there 11 = .ok (.goto 10, 3) := by decide +kernel
theorem dL_there_14 : decode cL_there 14 = .ok (.iload_n 0, 1) := by decide +kernel
theorem dL_there_15 : decode cL_there 15 = .ok (.iconst 1, 1) := by decide +kernel
theorem dL_there_16 : decode cL_there 16 = .ok (.isub, 1) := by decide +kernel
theorem dL_there_17 : decode cL_there 17 = .ok (.iconst 1, 1) := by decide +kernel
theorem dL_there_18 : decode cL_there 18 = .ok (.ixor, 1) := by decide +kernel
theorem dL_there_19 : decode cL_there 19 = .ok (.iconst 1, 1) := by decide +kernel
theorem dL_there_20 : decode cL_there 20 = .ok (.iadd, 1) := by decide +kernel
theorem dL_there_21 : decode cL_there 21 = .ok (.ireturn, 1) := by decide +kernel
theorem dL_code_0 : decode cL_code 0 = .ok (.iload_n 0, 1) := by decide +kernel
theorem dL_code_1 : decode cL_code 1 = .ok (.tableswitch 64 27 33 #[43, 46, 49, 52, 55, 58, 61], 43) := by decide +kernel
theorem dL_code_44 : decode cL_code 44 = .ok (.bipush 46, 2) := by decide +kernel
theorem dL_code_46 : decode cL_code 46 = .ok (.ireturn, 1) := by decide +kernel
theorem dL_code_47 : decode cL_code 47 = .ok (.bipush 44, 2) := by decide +kernel
theorem dL_code_49 : decode cL_code 49 = .ok (.ireturn, 1) := by decide +kernel
theorem dL_code_50 : decode cL_code 50 = .ok (.bipush 59, 2) := by decide +kernel
theorem dL_code_52 : decode cL_code 52 = .ok (.ireturn, 1) := by decide +kernel
theorem dL_code_53 : decode cL_code 53 = .ok (.bipush 58, 2) := by decide +kernel
theorem dL_code_55 : decode cL_code 55 = .ok (.ireturn, 1) := by decide +kernel
theorem dL_code_56 : decode cL_code 56 = .ok (.bipush 45, 2) := by decide +kernel
theorem dL_code_58 : decode cL_code 58 = .ok (.ireturn, 1) := by decide +kernel
theorem dL_code_59 : decode cL_code 59 = .ok (.bipush 39, 2) := by decide +kernel
theorem dL_code_61 : decode cL_code 61 = .ok (.ireturn, 1) := by decide +kernel
theorem dL_code_62 : decode cL_code 62 = .ok (.bipush 33, 2) := by decide +kernel
theorem dL_code_64 : decode cL_code 64 = .ok (.ireturn, 1) := by decide +kernel
theorem dL_code_65 : decode cL_code 65 = .ok (.bipush 97, 2) := by decide +kernel
theorem dL_code_67 : decode cL_code 67 = .ok (.iload_n 0, 1) := by decide +kernel
theorem dL_code_68 : decode cL_code 68 = .ok (.iconst 1, 1) := by decide +kernel
theorem dL_code_69 : decode cL_code 69 = .ok (.isub, 1) := by decide +kernel
theorem dL_code_70 : decode cL_code 70 = .ok (.bipush 26, 2) := by decide +kernel
theorem dL_code_72 : decode cL_code 72 = .ok (.irem, 1) := by decide +kernel
theorem dL_code_73 : decode cL_code 73 = .ok (.iadd, 1) := by decide +kernel
theorem dL_code_74 : decode cL_code 74 = .ok (.ireturn, 1) := by decide +kernel
theorem dL_other_0 : decode cL_other 0 = .ok (.iload_n 0, 1) := by decide +kernel
theorem dL_other_1 : decode cL_other 1 = .ok (.bipush 27, 2) := by decide +kernel
theorem dL_other_3 : decode cL_other 3 = .ok (.if_icmp .ge 12, 3) := by decide +kernel
theorem dL_other_6 : decode cL_other 6 = .ok (.iload_n 0, 1) := by decide +kernel
theorem dL_other_7 : decode cL_other 7 = .ok (.bipush 26, 2) := by decide +kernel
theorem dL_other_9 : decode cL_other 9 = .ok (.irem, 1) := by decide +kernel
theorem dL_other_10 : decode cL_other 10 = .ok (.iconst 1, 1) := by decide +kernel
theorem dL_other_11 : decode cL_other 11 = .ok (.iadd, 1) := by decide +kernel
theorem dL_other_12 : decode cL_other 12 = .ok (.goto 13, 3) := by decide +kernel
theorem dL_other_15 : decode cL_other 15 = .ok (.iload_n 0, 1) := by decide +kernel
theorem dL_other_16 : decode cL_other 16 = .ok (.bipush 26, 2) := by decide +kernel
theorem dL_other_18 : decode cL_other 18 = .ok (.isub, 1) := by decide +kernel
theorem dL_other_19 : decode cL_other 19 = .ok (.invokestatic 9, 3) := by decide +kernel
theorem dL_other_22 : decode cL_other 22 = .ok (.bipush 26, 2) := by decide +kernel
theorem dL_other_24 : decode cL_other 24 = .ok (.iadd, 1) := by decide +kernel
theorem dL_other_25 : decode cL_other 25 = .ok (.ireturn, 1) := by decide +kernel
theorem dL_signOf_0 : decode cL_signOf 0 = .ok (.iconst 0, 1) := by decide +kernel
theorem dL_signOf_1 : decode cL_signOf 1 = .ok (.istore_n 1, 1) := by decide +kernel
theorem dL_signOf_2 : decode cL_signOf 2 = .ok (.bipush 33, 2) := by decide +kernel
theorem dL_signOf_4 : decode cL_signOf 4 = .ok (.istore_n 2, 1) := by decide +kernel
theorem dL_signOf_5 : decode cL_signOf 5 = .ok (.iload_n 2, 1) := by decide +kernel
theorem dL_signOf_6 : decode cL_signOf 6 = .ok (.ifCond .le 23, 3) := by decide +kernel
theorem dL_signOf_9 : decode cL_signOf 9 = .ok (.iload_n 2, 1) := by decide +kernel
theorem dL_signOf_10 : decode cL_signOf 10 = .ok (.invokestatic 15, 3) := by decide +kernel
theorem dL_signOf_13 : decode cL_signOf 13 = .ok (.iload_n 0, 1) := by decide +kernel
theorem dL_signOf_14 : decode cL_signOf 14 = .ok (.if_icmp .ne 7, 3) := by decide +kernel
theorem dL_signOf_17 : decode cL_signOf 17 = .ok (.iload_n 2, 1) := by decide +kernel
theorem dL_signOf_18 : decode cL_signOf 18 = .ok (.goto 4, 3) := by decide +kernel
theorem dL_signOf_21 : decode cL_signOf 21 = .ok (.iload_n 1, 1) := by decide +kernel
theorem dL_signOf_22 : decode cL_signOf 22 = .ok (.istore_n 1, 1) := by decide +kernel
theorem dL_signOf_23 : decode cL_signOf 23 = .ok (.iinc 2 (-1), 3) := by decide +kernel
theorem dL_signOf_26 : decode cL_signOf 26 = .ok (.goto (-21), 3) := by decide +kernel
theorem dL_signOf_29 : decode cL_signOf 29 = .ok (.iload_n 1, 1) := by decide +kernel
theorem dL_signOf_30 : decode cL_signOf 30 = .ok (.ireturn, 1) := by decide +kernel
theorem dL_isRead_0 : decode cL_isRead 0 = .ok (.aload_n 0, 1) := by decide +kernel
theorem dL_isRead_1 : decode cL_isRead 1 = .ok (.invokevirtual 18, 3) := by decide +kernel
theorem dL_isRead_4 : decode cL_isRead 4 = .ok (.ifCond .lt 14, 3) := by decide +kernel
theorem dL_isRead_7 : decode cL_isRead 7 = .ok (.aload_n 1, 1) := by decide +kernel
theorem dL_isRead_8 : decode cL_isRead 8 = .ok (.invokevirtual 18, 3) := by decide +kernel
theorem dL_isRead_11 : decode cL_isRead 11 = .ok (.ifCond .lt 7, 3) := by decide +kernel
theorem dL_isRead_14 : decode cL_isRead 14 = .ok (.iconst 1, 1) := by decide +kernel
theorem dL_isRead_15 : decode cL_isRead 15 = .ok (.goto 4, 3) := by decide +kernel
theorem dL_isRead_18 : decode cL_isRead 18 = .ok (.iconst 0, 1) := by decide +kernel
theorem dL_isRead_19 : decode cL_isRead 19 = .ok (.istore 4, 2) := by decide +kernel
theorem dL_isRead_21 : decode cL_isRead 21 = .ok (.iconst 1, 1) := by decide +kernel
theorem dL_isRead_22 : decode cL_isRead 22 = .ok (.iload_n 2, 1) := by decide +kernel
theorem dL_isRead_23 : decode cL_isRead 23 = .ok (.iconst 5, 1) := by decide +kernel
theorem dL_isRead_24 : decode cL_isRead 24 = .ok (.invokestatic 24, 3) := by decide +kernel
theorem dL_isRead_27 : decode cL_isRead 27 = .ok (.iadd, 1) := by decide +kernel
theorem dL_isRead_28 : decode cL_isRead 28 = .ok (.istore 5, 2) := by decide +kernel
theorem dL_isRead_30 : decode cL_isRead 30 = .ok (.aload_n 0, 1) := by decide +kernel
theorem dL_isRead_31 : decode cL_isRead 31 = .ok (.iconst 4, 1) := by decide +kernel
theorem dL_isRead_32 : decode cL_isRead 32 = .ok (.invokevirtual 28, 3) := by decide +kernel
theorem dL_isRead_35 : decode cL_isRead 35 = .ok (.istore 6, 2) := by decide +kernel
theorem dL_isRead_37 : decode cL_isRead 37 = .ok (.iconst 0, 1) := by decide +kernel
theorem dL_isRead_38 : decode cL_isRead 38 = .ok (.istore 7, 2) := by decide +kernel
theorem dL_isRead_40 : decode cL_isRead 40 = .ok (.iload 7, 2) := by decide +kernel
theorem dL_isRead_42 : decode cL_isRead 42 = .ok (.iload 5, 2) := by decide +kernel
theorem dL_isRead_44 : decode cL_isRead 44 = .ok (.if_icmp .ge 208, 3) := by decide +kernel
theorem dL_isRead_47 : decode cL_isRead 47 = .ok (.iload_n 2, 1) := by decide +kernel
theorem dL_isRead_48 : decode cL_isRead 48 = .ok (.iconst 2, 1) := by decide +kernel
theorem dL_isRead_49 : decode cL_isRead 49 = .ok (.iload 7, 2) := by decide +kernel
theorem dL_isRead_51 : decode cL_isRead 51 = .ok (.imul, 1) := by decide +kernel
theorem dL_isRead_52 : decode cL_isRead 52 = .ok (.ishr, 1) := by decide +kernel
theorem dL_isRead_53 : decode cL_isRead 53 = .ok (.iload_n 3, 1) := by decide +kernel
theorem dL_isRead_54 : decode cL_isRead 54 = .ok (.iconst 3, 1) := by decide +kernel
theorem dL_isRead_55 : decode cL_isRead 55 = .ok (.iload 7, 2) := by decide +kernel
theorem dL_isRead_57 : decode cL_isRead 57 = .ok (.imul, 1) := by decide +kernel
theorem dL_isRead_58 : decode cL_isRead 58 = .ok (.ishr, 1) := by decide +kernel
theorem dL_isRead_59 : decode cL_isRead 59 = .ok (.ixor, 1) := by decide +kernel
theorem dL_isRead_60 : decode cL_isRead 60 = .ok (.istore 8, 2) := by decide +kernel
theorem dL_isRead_62 : decode cL_isRead 62 = .ok (.iconst 1, 1) := by decide +kernel
theorem dL_isRead_63 : decode cL_isRead 63 = .ok (.iload 8, 2) := by decide +kernel
theorem dL_isRead_65 : decode cL_isRead 65 = .ok (.iload 8, 2) := by decide +kernel
theorem dL_isRead_67 : decode cL_isRead 67 = .ok (.bipush 7, 2) := by decide +kernel
theorem dL_isRead_69 : decode cL_isRead 69 = .ok (.ishr, 1) := by decide +kernel
theorem dL_isRead_70 : decode cL_isRead 70 = .ok (.iconst 4, 1) := by decide +kernel
theorem dL_isRead_71 : decode cL_isRead 71 = .ok (.invokestatic 24, 3) := by decide +kernel
theorem dL_isRead_74 : decode cL_isRead 74 = .ok (.ifCond .ne 8, 3) := by decide +kernel
theorem dL_isRead_77 : decode cL_isRead 77 = .ok (.bipush 10, 2) := by decide +kernel
theorem dL_isRead_79 : decode cL_isRead 79 = .ok (.goto 4, 3) := by decide +kernel
theorem dL_isRead_82 : decode cL_isRead 82 = .ok (.iconst 5, 1) := by decide +kernel
theorem dL_isRead_83 : decode cL_isRead 83 = .ok (.invokestatic 24, 3) := by decide +kernel
theorem dL_isRead_86 : decode cL_isRead 86 = .ok (.iadd, 1) := by decide +kernel
theorem dL_isRead_87 : decode cL_isRead 87 = .ok (.istore 9, 2) := by decide +kernel
theorem dL_isRead_89 : decode cL_isRead 89 = .ok (.iload 4, 2) := by decide +kernel
theorem dL_isRead_91 : decode cL_isRead 91 = .ok (.ifCond .eq 32, 3) := by decide +kernel
theorem dL_isRead_94 : decode cL_isRead 94 = .ok (.iload 7, 2) := by decide +kernel
theorem dL_isRead_96 : decode cL_isRead 96 = .ok (.ifCond .eq 23, 3) := by decide +kernel
theorem dL_isRead_99 : decode cL_isRead 99 = .ok (.aload_n 0, 1) := by decide +kernel
theorem dL_isRead_100 : decode cL_isRead 100 = .ok (.ldc2_w 31, 3) := by decide +kernel
theorem dL_isRead_103 : decode cL_isRead 103 = .ok (.invokevirtual 33, 3) := by decide +kernel
theorem dL_isRead_106 : decode cL_isRead 106 = .ok (.ifCond .le 17, 3) := by decide +kernel
theorem dL_isRead_109 : decode cL_isRead 109 = .ok (.aload_n 1, 1) := by decide +kernel
theorem dL_isRead_110 : decode cL_isRead 110 = .ok (.ldc2_w 31, 3) := by decide +kernel
theorem dL_isRead_113 : decode cL_isRead 113 = .ok (.invokevirtual 33, 3) := by decide +kernel
theorem dL_isRead_116 : decode cL_isRead 116 = .ok (.ifCond .le 7, 3) := by decide +kernel
theorem dL_isRead_119 : decode cL_isRead 119 = .ok (.iconst 1, 1) := by decide +kernel
theorem dL_isRead_120 : decode cL_isRead 120 = .ok (.goto 4, 3) := by decide +kernel
theorem dL_isRead_123 : decode cL_isRead 123 = .ok (.iconst 0, 1) := by decide +kernel
theorem dL_isRead_124 : decode cL_isRead 124 = .ok (.istore 4, 2) := by decide +kernel
theorem dL_isRead_126 : decode cL_isRead 126 = .ok (.iconst 0, 1) := by decide +kernel
theorem dL_isRead_127 : decode cL_isRead 127 = .ok (.istore 10, 2) := by decide +kernel
theorem dL_isRead_129 : decode cL_isRead 129 = .ok (.iload 10, 2) := by decide +kernel
theorem dL_isRead_131 : decode cL_isRead 131 = .ok (.iload 9, 2) := by decide +kernel
theorem dL_isRead_133 : decode cL_isRead 133 = .ok (.if_icmp .ge 113, 3) := by decide +kernel
theorem dL_isRead_136 : decode cL_isRead 136 = .ok (.iload 8, 2) := by decide +kernel
theorem dL_isRead_138 : decode cL_isRead 138 = .ok (.iload 10, 2) := by decide +kernel
theorem dL_isRead_140 : decode cL_isRead 140 = .ok (.ishr, 1) := by decide +kernel
theorem dL_isRead_141 : decode cL_isRead 141 = .ok (.iload 10, 2) := by decide +kernel
theorem dL_isRead_143 : decode cL_isRead 143 = .ok (.ifCond .eq 12, 3) := by decide +kernel
theorem dL_isRead_146 : decode cL_isRead 146 = .ok (.iload 10, 2) := by decide +kernel
theorem dL_isRead_148 : decode cL_isRead 148 = .ok (.iload 9, 2) := by decide +kernel
theorem dL_isRead_150 : decode cL_isRead 150 = .ok (.iconst 1, 1) := by decide +kernel
theorem dL_isRead_151 : decode cL_isRead 151 = .ok (.isub, 1) := by decide +kernel
theorem dL_isRead_152 : decode cL_isRead 152 = .ok (.if_icmp .ne 7, 3) := by decide +kernel
theorem dL_isRead_155 : decode cL_isRead 155 = .ok (.iconst 2, 1) := by decide +kernel
theorem dL_isRead_156 : decode cL_isRead 156 = .ok (.goto 5, 3) := by decide +kernel
theorem dL_isRead_159 : decode cL_isRead 159 = .ok (.bipush 7, 2) := by decide +kernel
theorem dL_isRead_161 : decode cL_isRead 161 = .ok (.invokestatic 24, 3) := by decide +kernel
theorem dL_isRead_164 : decode cL_isRead 164 = .ok (.ifCond .ne 21, 3) := by decide +kernel
theorem dL_isRead_167 : decode cL_isRead 167 = .ok (.bipush 27, 2) := by decide +kernel
theorem dL_isRead_169 : decode cL_isRead 169 = .ok (.iload 8, 2) := by decide +kernel
theorem dL_isRead_171 : decode cL_isRead 171 = .ok (.iload 10, 2) := by decide +kernel
theorem dL_isRead_173 : decode cL_isRead 173 = .ok (.iconst 2, 1) := by decide +kernel
theorem dL_isRead_174 : decode cL_isRead 174 = .ok (.iadd, 1) := by decide +kernel
theorem dL_isRead_175 : decode cL_isRead 175 = .ok (.ishr, 1) := by decide +kernel
theorem dL_isRead_176 : decode cL_isRead 176 = .ok (.bipush 7, 2) := by decide +kernel
theorem dL_isRead_178 : decode cL_isRead 178 = .ok (.invokestatic 24, 3) := by decide +kernel
theorem dL_isRead_181 : decode cL_isRead 181 = .ok (.iadd, 1) := by decide +kernel
theorem dL_isRead_182 : decode cL_isRead 182 = .ok (.goto 15, 3) := by decide +kernel
theorem dL_isRead_185 : decode cL_isRead 185 = .ok (.iconst 1, 1) := by decide +kernel
theorem dL_isRead_186 : decode cL_isRead 186 = .ok (.iload 8, 2) := by decide +kernel
theorem dL_isRead_188 : decode cL_isRead 188 = .ok (.iload 10, 2) := by decide +kernel
theorem dL_isRead_190 : decode cL_isRead 190 = .ok (.ishr, 1) := by decide +kernel
theorem dL_isRead_191 : decode cL_isRead 191 = .ok (.bipush 26, 2) := by decide +kernel
theorem dL_isRead_193 : decode cL_isRead 193 = .ok (.invokestatic 24, 3) := by decide +kernel
theorem dL_isRead_196 : decode cL_isRead 196 = .ok (.iadd, 1) := by decide +kernel
theorem dL_isRead_197 : decode cL_isRead 197 = .ok (.istore 11, 2) := by decide +kernel
theorem dL_isRead_199 : decode cL_isRead 199 = .ok (.iload 4, 2) := by decide +kernel
theorem dL_isRead_201 : decode cL_isRead 201 = .ok (.ifCond .eq 36, 3) := by decide +kernel
theorem dL_isRead_204 : decode cL_isRead 204 = .ok (.aload_n 0, 1) := by decide +kernel
theorem dL_isRead_205 : decode cL_isRead 205 = .ok (.iload 11, 2) := by decide +kernel
theorem dL_isRead_207 : decode cL_isRead 207 = .ok (.invokestatic 15, 3) := by decide +kernel
theorem dL_isRead_210 : decode cL_isRead 210 = .ok (.i2l, 1) := by decide +kernel
theorem dL_isRead_211 : decode cL_isRead 211 = .ok (.invokevirtual 33, 3) := by decide +kernel
theorem dL_isRead_214 : decode cL_isRead 214 = .ok (.ifCond .le 23, 3) := by decide +kernel
theorem dL_isRead_217 : decode cL_isRead 217 = .ok (.aload_n 1, 1) := by decide +kernel
theorem dL_isRead_218 : decode cL_isRead 218 = .ok (.iload 11, 2) := by decide +kernel
theorem dL_isRead_220 : decode cL_isRead 220 = .ok (.invokestatic 37, 3) := by decide +kernel
theorem dL_isRead_223 : decode cL_isRead 223 = .ok (.invokestatic 15, 3) := by decide +kernel
theorem dL_isRead_226 : decode cL_isRead 226 = .ok (.i2l, 1) := by decide +kernel
theorem dL_isRead_227 : decode cL_isRead 227 = .ok (.invokevirtual 33, 3) := by decide +kernel
theorem dL_isRead_230 : decode cL_isRead 230 = .ok (.ifCond .le 7, 3) := by decide +kernel
theorem dL_isRead_233 : decode cL_isRead 233 = .ok (.iconst 1, 1) := by decide +kernel
theorem dL_isRead_234 : decode cL_isRead 234 = .ok (.goto 4, 3) := by decide +kernel
theorem dL_isRead_237 : decode cL_isRead 237 = .ok (.iconst 0, 1) := by decide +kernel
theorem dL_isRead_238 : decode cL_isRead 238 = .ok (.istore 4, 2) := by decide +kernel
theorem dL_isRead_240 : decode cL_isRead 240 = .ok (.iinc 10 1, 3) := by decide +kernel
theorem dL_isRead_243 : decode cL_isRead 243 = .ok (.goto (-114), 3) := by decide +kernel
theorem dL_isRead_246 : decode cL_isRead 246 = .ok (.iinc 7 1, 3) := by decide +kernel
theorem dL_isRead_249 : decode cL_isRead 249 = .ok (.goto (-209), 3) := by decide +kernel
theorem dL_isRead_252 : decode cL_isRead 252 = .ok (.aload_n 0, 1) := by decide +kernel
theorem dL_isRead_253 : decode cL_isRead 253 = .ok (.invokevirtual 40, 3) := by decide +kernel
theorem dL_isRead_256 : decode cL_isRead 256 = .ok (.istore 7, 2) := by decide +kernel
theorem dL_isRead_258 : decode cL_isRead 258 = .ok (.iload 4, 2) := by decide +kernel
theorem dL_isRead_260 : decode cL_isRead 260 = .ok (.ifCond .eq 42, 3) := by decide +kernel
theorem dL_isRead_263 : decode cL_isRead 263 = .ok (.iload 7, 2) := by decide +kernel
theorem dL_isRead_265 : decode cL_isRead 265 = .ok (.aload_n 1, 1) := by decide +kernel
theorem dL_isRead_266 : decode cL_isRead 266 = .ok (.invokevirtual 40, 3) := by decide +kernel
theorem dL_isRead_269 : decode cL_isRead 269 = .ok (.if_icmp .ne 33, 3) := by decide +kernel
theorem dL_isRead_272 : decode cL_isRead 272 = .ok (.iload 7, 2) := by decide +kernel
theorem dL_isRead_274 : decode cL_isRead 274 = .ok (.iload 6, 2) := by decide +kernel
theorem dL_isRead_276 : decode cL_isRead 276 = .ok (.iload 5, 2) := by decide +kernel
theorem dL_isRead_278 : decode cL_isRead 278 = .ok (.iadd, 1) := by decide +kernel
theorem dL_isRead_279 : decode cL_isRead 279 = .ok (.bipush 24, 2) := by decide +kernel
theorem dL_isRead_281 : decode cL_isRead 281 = .ok (.if_icmp .le 9, 3) := by decide +kernel
theorem dL_isRead_284 : decode cL_isRead 284 = .ok (.sipush (-1004), 3) := by decide +kernel
theorem dL_isRead_287 : decode cL_isRead 287 = .ok (.goto 8, 3) := by decide +kernel
theorem dL_isRead_290 : decode cL_isRead 290 = .ok (.iload 6, 2) := by decide +kernel
theorem dL_isRead_292 : decode cL_isRead 292 = .ok (.iload 5, 2) := by decide +kernel
theorem dL_isRead_294 : decode cL_isRead 294 = .ok (.iadd, 1) := by decide +kernel
theorem dL_isRead_295 : decode cL_isRead 295 = .ok (.if_icmp .ne 7, 3) := by decide +kernel
theorem dL_isRead_298 : decode cL_isRead 298 = .ok (.iconst 1, 1) := by decide +kernel
theorem dL_isRead_299 : decode cL_isRead 299 = .ok (.goto 4, 3) := by decide +kernel
theorem dL_isRead_302 : decode cL_isRead 302 = .ok (.iconst 0, 1) := by decide +kernel
theorem dL_isRead_303 : decode cL_isRead 303 = .ok (.ireturn, 1) := by decide +kernel
theorem dL_isStep_0 : decode cL_isStep 0 = .ok (.iload_n 2, 1) := by decide +kernel
theorem dL_isStep_1 : decode cL_isStep 1 = .ok (.iconst 4, 1) := by decide +kernel
theorem dL_isStep_2 : decode cL_isStep 2 = .ok (.ishr, 1) := by decide +kernel
theorem dL_isStep_3 : decode cL_isStep 3 = .ok (.istore 4, 2) := by decide +kernel
theorem dL_isStep_5 : decode cL_isStep 5 = .ok (.aload_n 0, 1) := by decide +kernel
theorem dL_isStep_6 : decode cL_isStep 6 = .ok (.iconst 4, 1) := by decide +kernel
theorem dL_isStep_7 : decode cL_isStep 7 = .ok (.invokevirtual 28, 3) := by decide +kernel
theorem dL_isStep_10 : decode cL_isStep 10 = .ok (.istore 5, 2) := by decide +kernel
theorem dL_isStep_12 : decode cL_isStep 12 = .ok (.iload_n 2, 1) := by decide +kernel
theorem dL_isStep_13 : decode cL_isStep 13 = .ok (.bipush 14, 2) := by decide +kernel
theorem dL_isStep_15 : decode cL_isStep 15 = .ok (.invokestatic 24, 3) := by decide +kernel
theorem dL_isStep_18 : decode cL_isStep 18 = .ok (.tableswitch 646 0 8 #[50, 50, 180, 180, 308, 392, 392, 538, 578], 50) := by decide +kernel
theorem dL_isStep_68 : decode cL_isStep 68 = .ok (.iload 4, 2) := by decide +kernel
theorem dL_isStep_70 : decode cL_isStep 70 = .ok (.iconst 4, 1) := by decide +kernel
theorem dL_isStep_71 : decode cL_isStep 71 = .ok (.invokestatic 24, 3) := by decide +kernel
theorem dL_isStep_74 : decode cL_isStep 74 = .ok (.istore 6, 2) := by decide +kernel
theorem dL_isStep_76 : decode cL_isStep 76 = .ok (.iload 6, 2) := by decide +kernel
theorem dL_isStep_78 : decode cL_isStep 78 = .ok (.ifCond .ne 30, 3) := by decide +kernel
theorem dL_isStep_81 : decode cL_isStep 81 = .ok (.bipush 20, 2) := by decide +kernel
theorem dL_isStep_83 : decode cL_isStep 83 = .ok (.iload_n 3, 1) := by decide +kernel
theorem dL_isStep_84 : decode cL_isStep 84 = .ok (.iload 4, 2) := by decide +kernel
theorem dL_isStep_86 : decode cL_isStep 86 = .ok (.iconst 3, 1) := by decide +kernel
theorem dL_isStep_87 : decode cL_isStep 87 = .ok (.invokestatic 24, 3) := by decide +kernel
theorem dL_isStep_90 : decode cL_isStep 90 = .ok (.ifCond .ne 9, 3) := by decide +kernel
theorem dL_isStep_93 : decode cL_isStep 93 = .ok (.sipush 181, 3) := by decide +kernel
end
section
theorem dL_isStep_96 : decode cL_isStep 96 = .ok (.goto 5, 3) := by decide +kernel
theorem dL_isStep_99 : decode cL_isStep 99 = .ok (.bipush 60, 2) := by decide +kernel
theorem dL_isStep_101 : decode cL_isStep 101 = .ok (.invokestatic 24, 3) := by decide +kernel
theorem dL_isStep_104 : decode cL_isStep 104 = .ok (.iadd, 1) := by decide +kernel
theorem dL_isStep_105 : decode cL_isStep 105 = .ok (.goto 40, 3) := by decide +kernel
theorem dL_isStep_108 : decode cL_isStep 108 = .ok (.iload 6, 2) := by decide +kernel
theorem dL_isStep_110 : decode cL_isStep 110 = .ok (.iconst 1, 1) := by decide +kernel
theorem dL_isStep_111 : decode cL_isStep 111 = .ok (.if_icmp .ne 14, 3) := by decide +kernel
theorem dL_isStep_114 : decode cL_isStep 114 = .ok (.iconst 1, 1) := by decide +kernel
theorem dL_isStep_115 : decode cL_isStep 115 = .ok (.iload_n 3, 1) := by decide +kernel
theorem dL_isStep_116 : decode cL_isStep 116 = .ok (.bipush 20, 2) := by decide +kernel
theorem dL_isStep_118 : decode cL_isStep 118 = .ok (.invokestatic 24, 3) := by decide +kernel
theorem dL_isStep_121 : decode cL_isStep 121 = .ok (.iadd, 1) := by decide +kernel
theorem dL_isStep_122 : decode cL_isStep 122 = .ok (.goto 23, 3) := by decide +kernel
theorem dL_isStep_125 : decode cL_isStep 125 = .ok (.iload 6, 2) := by decide +kernel
theorem dL_isStep_127 : decode cL_isStep 127 = .ok (.iconst 2, 1) := by decide +kernel
theorem dL_isStep_128 : decode cL_isStep 128 = .ok (.if_icmp .ne 12, 3) := by decide +kernel
theorem dL_isStep_131 : decode cL_isStep 131 = .ok (.iload_n 3, 1) := by decide +kernel
theorem dL_isStep_132 : decode cL_isStep 132 = .ok (.bipush 41, 2) := by decide +kernel
theorem dL_isStep_134 : decode cL_isStep 134 = .ok (.invokestatic 24, 3) := by decide +kernel
theorem dL_isStep_137 : decode cL_isStep 137 = .ok (.goto 8, 3) := by decide +kernel
theorem dL_isStep_140 : decode cL_isStep 140 = .ok (.iload_n 3, 1) := by decide +kernel
theorem dL_isStep_141 : decode cL_isStep 141 = .ok (.iconst 2, 1) := by decide +kernel
theorem dL_isStep_142 : decode cL_isStep 142 = .ok (.invokestatic 24, 3) := by decide +kernel
theorem dL_isStep_145 : decode cL_isStep 145 = .ok (.istore 7, 2) := by decide +kernel
theorem dL_isStep_147 : decode cL_isStep 147 = .ok (.aload_n 0, 1) := by decide +kernel
theorem dL_isStep_148 : decode cL_isStep 148 = .ok (.iload 6, 2) := by decide +kernel
theorem dL_isStep_150 : decode cL_isStep 150 = .ok (.invokevirtual 28, 3) := by decide +kernel
theorem dL_isStep_153 : decode cL_isStep 153 = .ok (.istore 8, 2) := by decide +kernel
theorem dL_isStep_155 : decode cL_isStep 155 = .ok (.aload_n 0, 1) := by decide +kernel
theorem dL_isStep_156 : decode cL_isStep 156 = .ok (.iload 6, 2) := by decide +kernel
theorem dL_isStep_158 : decode cL_isStep 158 = .ok (.iload 7, 2) := by decide +kernel
theorem dL_isStep_160 : decode cL_isStep 160 = .ok (.invokevirtual 43, 3) := by decide +kernel
theorem dL_isStep_163 : decode cL_isStep 163 = .ok (.iload 8, 2) := by decide +kernel
theorem dL_isStep_165 : decode cL_isStep 165 = .ok (.if_icmp .ne 31, 3) := by decide +kernel
theorem dL_isStep_168 : decode cL_isStep 168 = .ok (.aload_n 1, 1) := by decide +kernel
theorem dL_isStep_169 : decode cL_isStep 169 = .ok (.iload 6, 2) := by decide +kernel
theorem dL_isStep_171 : decode cL_isStep 171 = .ok (.iload 7, 2) := by decide +kernel
theorem dL_isStep_173 : decode cL_isStep 173 = .ok (.invokevirtual 43, 3) := by decide +kernel
theorem dL_isStep_176 : decode cL_isStep 176 = .ok (.iload 8, 2) := by decide +kernel
theorem dL_isStep_178 : decode cL_isStep 178 = .ok (.if_icmp .ne 18, 3) := by decide +kernel
theorem dL_isStep_181 : decode cL_isStep 181 = .ok (.aload_n 0, 1) := by decide +kernel
theorem dL_isStep_182 : decode cL_isStep 182 = .ok (.iload 6, 2) := by decide +kernel
theorem dL_isStep_184 : decode cL_isStep 184 = .ok (.invokevirtual 28, 3) := by decide +kernel
theorem dL_isStep_187 : decode cL_isStep 187 = .ok (.iload 7, 2) := by decide +kernel
theorem dL_isStep_189 : decode cL_isStep 189 = .ok (.if_icmp .ne 7, 3) := by decide +kernel
theorem dL_isStep_192 : decode cL_isStep 192 = .ok (.iconst 1, 1) := by decide +kernel
theorem dL_isStep_193 : decode cL_isStep 193 = .ok (.goto 4, 3) := by decide +kernel
theorem dL_isStep_196 : decode cL_isStep 196 = .ok (.iconst 0, 1) := by decide +kernel
theorem dL_isStep_197 : decode cL_isStep 197 = .ok (.ireturn, 1) := by decide +kernel
theorem dL_isStep_198 : decode cL_isStep 198 = .ok (.iload 4, 2) := by decide +kernel
theorem dL_isStep_200 : decode cL_isStep 200 = .ok (.bipush 8, 2) := by decide +kernel
theorem dL_isStep_202 : decode cL_isStep 202 = .ok (.invokestatic 24, 3) := by decide +kernel
theorem dL_isStep_205 : decode cL_isStep 205 = .ok (.istore 6, 2) := by decide +kernel
theorem dL_isStep_207 : decode cL_isStep 207 = .ok (.aload_n 0, 1) := by decide +kernel
theorem dL_isStep_208 : decode cL_isStep 208 = .ok (.iload 6, 2) := by decide +kernel
theorem dL_isStep_210 : decode cL_isStep 210 = .ok (.iconst 0, 1) := by decide +kernel
theorem dL_isStep_211 : decode cL_isStep 211 = .ok (.invokevirtual 46, 3) := by decide +kernel
theorem dL_isStep_214 : decode cL_isStep 214 = .ok (.istore 7, 2) := by decide +kernel
theorem dL_isStep_216 : decode cL_isStep 216 = .ok (.iconst 1, 1) := by decide +kernel
theorem dL_isStep_217 : decode cL_isStep 217 = .ok (.iload_n 3, 1) := by decide +kernel
theorem dL_isStep_218 : decode cL_isStep 218 = .ok (.bipush 20, 2) := by decide +kernel
theorem dL_isStep_220 : decode cL_isStep 220 = .ok (.invokestatic 24, 3) := by decide +kernel
theorem dL_isStep_223 : decode cL_isStep 223 = .ok (.iadd, 1) := by decide +kernel
theorem dL_isStep_224 : decode cL_isStep 224 = .ok (.istore 8, 2) := by decide +kernel
theorem dL_isStep_226 : decode cL_isStep 226 = .ok (.iload_n 3, 1) := by decide +kernel
theorem dL_isStep_227 : decode cL_isStep 227 = .ok (.iconst 3, 1) := by decide +kernel
theorem dL_isStep_228 : decode cL_isStep 228 = .ok (.ishr, 1) := by decide +kernel
theorem dL_isStep_229 : decode cL_isStep 229 = .ok (.bipush 101, 2) := by decide +kernel
theorem dL_isStep_231 : decode cL_isStep 231 = .ok (.invokestatic 24, 3) := by decide +kernel
theorem dL_isStep_234 : decode cL_isStep 234 = .ok (.istore 9, 2) := by decide +kernel
theorem dL_isStep_236 : decode cL_isStep 236 = .ok (.iload_n 3, 1) := by decide +kernel
theorem dL_isStep_237 : decode cL_isStep 237 = .ok (.bipush 6, 2) := by decide +kernel
theorem dL_isStep_239 : decode cL_isStep 239 = .ok (.ishr, 1) := by decide +kernel
theorem dL_isStep_240 : decode cL_isStep 240 = .ok (.bipush 101, 2) := by decide +kernel
theorem dL_isStep_242 : decode cL_isStep 242 = .ok (.invokestatic 24, 3) := by decide +kernel
theorem dL_isStep_245 : decode cL_isStep 245 = .ok (.istore 10, 2) := by decide +kernel
theorem dL_isStep_247 : decode cL_isStep 247 = .ok (.aload_n 0, 1) := by decide +kernel
theorem dL_isStep_248 : decode cL_isStep 248 = .ok (.iload 6, 2) := by decide +kernel
theorem dL_isStep_250 : decode cL_isStep 250 = .ok (.iload 8, 2) := by decide +kernel
theorem dL_isStep_252 : decode cL_isStep 252 = .ok (.iload 9, 2) := by decide +kernel
theorem dL_isStep_254 : decode cL_isStep 254 = .ok (.iload 10, 2) := by decide +kernel
theorem dL_isStep_256 : decode cL_isStep 256 = .ok (.invokevirtual 49, 3) := by decide +kernel
theorem dL_isStep_259 : decode cL_isStep 259 = .ok (.iload 7, 2) := by decide +kernel
theorem dL_isStep_261 : decode cL_isStep 261 = .ok (.if_icmp .ne 63, 3) := by decide +kernel
theorem dL_isStep_264 : decode cL_isStep 264 = .ok (.aload_n 1, 1) := by decide +kernel
theorem dL_isStep_265 : decode cL_isStep 265 = .ok (.iload 6, 2) := by decide +kernel
theorem dL_isStep_267 : decode cL_isStep 267 = .ok (.invokestatic 9, 3) := by decide +kernel
theorem dL_isStep_270 : decode cL_isStep 270 = .ok (.iload 8, 2) := by decide +kernel
theorem dL_isStep_272 : decode cL_isStep 272 = .ok (.iload 9, 2) := by decide +kernel
theorem dL_isStep_274 : decode cL_isStep 274 = .ok (.iload 10, 2) := by decide +kernel
theorem dL_isStep_276 : decode cL_isStep 276 = .ok (.invokevirtual 49, 3) := by decide +kernel
theorem dL_isStep_279 : decode cL_isStep 279 = .ok (.iload 7, 2) := by decide +kernel
theorem dL_isStep_281 : decode cL_isStep 281 = .ok (.if_icmp .ne 43, 3) := by decide +kernel
theorem dL_isStep_284 : decode cL_isStep 284 = .ok (.aload_n 0, 1) := by decide +kernel
theorem dL_isStep_285 : decode cL_isStep 285 = .ok (.iload 6, 2) := by decide +kernel
theorem dL_isStep_287 : decode cL_isStep 287 = .ok (.iconst 0, 1) := by decide +kernel
theorem dL_isStep_288 : decode cL_isStep 288 = .ok (.invokevirtual 46, 3) := by decide +kernel
theorem dL_isStep_291 : decode cL_isStep 291 = .ok (.iload 8, 2) := by decide +kernel
theorem dL_isStep_293 : decode cL_isStep 293 = .ok (.if_icmp .ne 31, 3) := by decide +kernel
theorem dL_isStep_296 : decode cL_isStep 296 = .ok (.aload_n 0, 1) := by decide +kernel
theorem dL_isStep_297 : decode cL_isStep 297 = .ok (.iload 6, 2) := by decide +kernel
theorem dL_isStep_299 : decode cL_isStep 299 = .ok (.iconst 1, 1) := by decide +kernel
theorem dL_isStep_300 : decode cL_isStep 300 = .ok (.invokevirtual 46, 3) := by decide +kernel
theorem dL_isStep_303 : decode cL_isStep 303 = .ok (.iload 9, 2) := by decide +kernel
theorem dL_isStep_305 : decode cL_isStep 305 = .ok (.if_icmp .ne 19, 3) := by decide +kernel
theorem dL_isStep_308 : decode cL_isStep 308 = .ok (.aload_n 0, 1) := by decide +kernel
theorem dL_isStep_309 : decode cL_isStep 309 = .ok (.iload 6, 2) := by decide +kernel
theorem dL_isStep_311 : decode cL_isStep 311 = .ok (.iconst 2, 1) := by decide +kernel
theorem dL_isStep_312 : decode cL_isStep 312 = .ok (.invokevirtual 46, 3) := by decide +kernel
theorem dL_isStep_315 : decode cL_isStep 315 = .ok (.iload 10, 2) := by decide +kernel
theorem dL_isStep_317 : decode cL_isStep 317 = .ok (.if_icmp .ne 7, 3) := by decide +kernel
theorem dL_isStep_320 : decode cL_isStep 320 = .ok (.iconst 1, 1) := by decide +kernel
theorem dL_isStep_321 : decode cL_isStep 321 = .ok (.goto 4, 3) := by decide +kernel
theorem dL_isStep_324 : decode cL_isStep 324 = .ok (.iconst 0, 1) := by decide +kernel
theorem dL_isStep_325 : decode cL_isStep 325 = .ok (.ireturn, 1) := by decide +kernel
theorem dL_isStep_326 : decode cL_isStep 326 = .ok (.iload 4, 2) := by decide +kernel
theorem dL_isStep_328 : decode cL_isStep 328 = .ok (.iload 5, 2) := by decide +kernel
theorem dL_isStep_330 : decode cL_isStep 330 = .ok (.iconst 1, 1) := by decide +kernel
theorem dL_isStep_331 : decode cL_isStep 331 = .ok (.iadd, 1) := by decide +kernel
theorem dL_isStep_332 : decode cL_isStep 332 = .ok (.invokestatic 24, 3) := by decide +kernel
theorem dL_isStep_335 : decode cL_isStep 335 = .ok (.istore 6, 2) := by decide +kernel
theorem dL_isStep_337 : decode cL_isStep 337 = .ok (.aload_n 0, 1) := by decide +kernel
theorem dL_isStep_338 : decode cL_isStep 338 = .ok (.iload 6, 2) := by decide +kernel
theorem dL_isStep_340 : decode cL_isStep 340 = .ok (.iconst 1, 1) := by decide +kernel
theorem dL_isStep_341 : decode cL_isStep 341 = .ok (.invokevirtual 53, 3) := by decide +kernel
theorem dL_isStep_344 : decode cL_isStep 344 = .ok (.istore 7, 2) := by decide +kernel
theorem dL_isStep_346 : decode cL_isStep 346 = .ok (.aload_n 0, 1) := by decide +kernel
theorem dL_isStep_347 : decode cL_isStep 347 = .ok (.iload 6, 2) := by decide +kernel
theorem dL_isStep_349 : decode cL_isStep 349 = .ok (.iconst 1, 1) := by decide +kernel
theorem dL_isStep_350 : decode cL_isStep 350 = .ok (.iadd, 1) := by decide +kernel
theorem dL_isStep_351 : decode cL_isStep 351 = .ok (.iconst 1, 1) := by decide +kernel
theorem dL_isStep_352 : decode cL_isStep 352 = .ok (.invokevirtual 53, 3) := by decide +kernel
theorem dL_isStep_355 : decode cL_isStep 355 = .ok (.istore 8, 2) := by decide +kernel
theorem dL_isStep_357 : decode cL_isStep 357 = .ok (.aload_n 0, 1) := by decide +kernel
theorem dL_isStep_358 : decode cL_isStep 358 = .ok (.iload 6, 2) := by decide +kernel
theorem dL_isStep_360 : decode cL_isStep 360 = .ok (.invokevirtual 56, 3) := by decide +kernel
theorem dL_isStep_363 : decode cL_isStep 363 = .ok (.istore 9, 2) := by decide +kernel
theorem dL_isStep_365 : decode cL_isStep 365 = .ok (.iload 9, 2) := by decide +kernel
theorem dL_isStep_367 : decode cL_isStep 367 = .ok (.aload_n 1, 1) := by decide +kernel
theorem dL_isStep_368 : decode cL_isStep 368 = .ok (.iload 6, 2) := by decide +kernel
theorem dL_isStep_370 : decode cL_isStep 370 = .ok (.invokevirtual 56, 3) := by decide +kernel
theorem dL_isStep_373 : decode cL_isStep 373 = .ok (.if_icmp .ne 35, 3) := by decide +kernel
theorem dL_isStep_376 : decode cL_isStep 376 = .ok (.iload 9, 2) := by decide +kernel
theorem dL_isStep_378 : decode cL_isStep 378 = .ok (.iload 7, 2) := by decide +kernel
theorem dL_isStep_380 : decode cL_isStep 380 = .ok (.if_icmp .ne 28, 3) := by decide +kernel
theorem dL_isStep_383 : decode cL_isStep 383 = .ok (.iload 6, 2) := by decide +kernel
theorem dL_isStep_385 : decode cL_isStep 385 = .ok (.iload 5, 2) := by decide +kernel
theorem dL_isStep_387 : decode cL_isStep 387 = .ok (.iconst 1, 1) := by decide +kernel
theorem dL_isStep_388 : decode cL_isStep 388 = .ok (.isub, 1) := by decide +kernel
theorem dL_isStep_389 : decode cL_isStep 389 = .ok (.if_icmp .ge 15, 3) := by decide +kernel
theorem dL_isStep_392 : decode cL_isStep 392 = .ok (.aload_n 0, 1) := by decide +kernel
theorem dL_isStep_393 : decode cL_isStep 393 = .ok (.iload 6, 2) := by decide +kernel
theorem dL_isStep_395 : decode cL_isStep 395 = .ok (.iconst 1, 1) := by decide +kernel
theorem dL_isStep_396 : decode cL_isStep 396 = .ok (.invokevirtual 53, 3) := by decide +kernel
theorem dL_isStep_399 : decode cL_isStep 399 = .ok (.iload 8, 2) := by decide +kernel
theorem dL_isStep_401 : decode cL_isStep 401 = .ok (.if_icmp .ne 7, 3) := by decide +kernel
theorem dL_isStep_404 : decode cL_isStep 404 = .ok (.iconst 1, 1) := by decide +kernel
theorem dL_isStep_405 : decode cL_isStep 405 = .ok (.goto 4, 3) := by decide +kernel
theorem dL_isStep_408 : decode cL_isStep 408 = .ok (.iconst 0, 1) := by decide +kernel
theorem dL_isStep_409 : decode cL_isStep 409 = .ok (.ireturn, 1) := by decide +kernel
theorem dL_isStep_410 : decode cL_isStep 410 = .ok (.iload 4, 2) := by decide +kernel
theorem dL_isStep_412 : decode cL_isStep 412 = .ok (.iload 5, 2) := by decide +kernel
theorem dL_isStep_414 : decode cL_isStep 414 = .ok (.iconst 1, 1) := by decide +kernel
theorem dL_isStep_415 : decode cL_isStep 415 = .ok (.iadd, 1) := by decide +kernel
theorem dL_isStep_416 : decode cL_isStep 416 = .ok (.invokestatic 24, 3) := by decide +kernel
theorem dL_isStep_419 : decode cL_isStep 419 = .ok (.istore 6, 2) := by decide +kernel
theorem dL_isStep_421 : decode cL_isStep 421 = .ok (.iload_n 3, 1) := by decide +kernel
theorem dL_isStep_422 : decode cL_isStep 422 = .ok (.iload 5, 2) := by decide +kernel
theorem dL_isStep_424 : decode cL_isStep 424 = .ok (.iconst 1, 1) := by decide +kernel
theorem dL_isStep_425 : decode cL_isStep 425 = .ok (.iadd, 1) := by decide +kernel
theorem dL_isStep_426 : decode cL_isStep 426 = .ok (.invokestatic 24, 3) := by decide +kernel
theorem dL_isStep_429 : decode cL_isStep 429 = .ok (.istore 7, 2) := by decide +kernel
theorem dL_isStep_431 : decode cL_isStep 431 = .ok (.aload_n 0, 1) := by decide +kernel
theorem dL_isStep_432 : decode cL_isStep 432 = .ok (.iload 6, 2) := by decide +kernel
theorem dL_isStep_434 : decode cL_isStep 434 = .ok (.iconst 1, 1) := by decide +kernel
theorem dL_isStep_435 : decode cL_isStep 435 = .ok (.invokevirtual 53, 3) := by decide +kernel
theorem dL_isStep_438 : decode cL_isStep 438 = .ok (.istore 8, 2) := by decide +kernel
theorem dL_isStep_440 : decode cL_isStep 440 = .ok (.aload_n 0, 1) := by decide +kernel
theorem dL_isStep_441 : decode cL_isStep 441 = .ok (.iload 7, 2) := by decide +kernel
theorem dL_isStep_443 : decode cL_isStep 443 = .ok (.iconst 1, 1) := by decide +kernel
theorem dL_isStep_444 : decode cL_isStep 444 = .ok (.invokevirtual 53, 3) := by decide +kernel
theorem dL_isStep_447 : decode cL_isStep 447 = .ok (.istore 9, 2) := by decide +kernel
theorem dL_isStep_449 : decode cL_isStep 449 = .ok (.aload_n 0, 1) := by decide +kernel
theorem dL_isStep_450 : decode cL_isStep 450 = .ok (.iload 6, 2) := by decide +kernel
theorem dL_isStep_452 : decode cL_isStep 452 = .ok (.iload 7, 2) := by decide +kernel
theorem dL_isStep_454 : decode cL_isStep 454 = .ok (.invokevirtual 59, 3) := by decide +kernel
theorem dL_isStep_457 : decode cL_isStep 457 = .ok (.istore 10, 2) := by decide +kernel
theorem dL_isStep_459 : decode cL_isStep 459 = .ok (.iload 10, 2) := by decide +kernel
theorem dL_isStep_461 : decode cL_isStep 461 = .ok (.aload_n 1, 1) := by decide +kernel
theorem dL_isStep_462 : decode cL_isStep 462 = .ok (.iload 6, 2) := by decide +kernel
theorem dL_isStep_464 : decode cL_isStep 464 = .ok (.iload 7, 2) := by decide +kernel
theorem dL_isStep_466 : decode cL_isStep 466 = .ok (.invokevirtual 59, 3) := by decide +kernel
theorem dL_isStep_469 : decode cL_isStep 469 = .ok (.if_icmp .ne 85, 3) := by decide +kernel
theorem dL_isStep_472 : decode cL_isStep 472 = .ok (.iload 6, 2) := by decide +kernel
theorem dL_isStep_474 : decode cL_isStep 474 = .ok (.iload 5, 2) := by decide +kernel
theorem dL_isStep_476 : decode cL_isStep 476 = .ok (.if_icmp .eq 10, 3) := by decide +kernel
theorem dL_isStep_479 : decode cL_isStep 479 = .ok (.iload 7, 2) := by decide +kernel
theorem dL_isStep_481 : decode cL_isStep 481 = .ok (.iload 5, 2) := by decide +kernel
theorem dL_isStep_483 : decode cL_isStep 483 = .ok (.if_icmp .ne 14, 3) := by decide +kernel
theorem dL_isStep_486 : decode cL_isStep 486 = .ok (.iload 10, 2) := by decide +kernel
theorem dL_isStep_488 : decode cL_isStep 488 = .ok (.sipush (-1001), 3) := by decide +kernel
theorem dL_isStep_491 : decode cL_isStep 491 = .ok (.if_icmp .ne 63, 3) := by decide +kernel
theorem dL_isStep_494 : decode cL_isStep 494 = .ok (.goto 56, 3) := by decide +kernel
theorem dL_isStep_497 : decode cL_isStep 497 = .ok (.iload 6, 2) := by decide +kernel
theorem dL_isStep_499 : decode cL_isStep 499 = .ok (.iload 7, 2) := by decide +kernel
theorem dL_isStep_501 : decode cL_isStep 501 = .ok (.if_icmp .ne 14, 3) := by decide +kernel
theorem dL_isStep_504 : decode cL_isStep 504 = .ok (.iload 10, 2) := by decide +kernel
theorem dL_isStep_506 : decode cL_isStep 506 = .ok (.sipush (-1002), 3) := by decide +kernel
theorem dL_isStep_509 : decode cL_isStep 509 = .ok (.if_icmp .ne 45, 3) := by decide +kernel
theorem dL_isStep_512 : decode cL_isStep 512 = .ok (.goto 38, 3) := by decide +kernel
theorem dL_isStep_515 : decode cL_isStep 515 = .ok (.iload 10, 2) := by decide +kernel
theorem dL_isStep_517 : decode cL_isStep 517 = .ok (.aload_n 0, 1) := by decide +kernel
theorem dL_isStep_518 : decode cL_isStep 518 = .ok (.iconst 0, 1) := by decide +kernel
theorem dL_isStep_519 : decode cL_isStep 519 = .ok (.iconst 0, 1) := by decide +kernel
theorem dL_isStep_520 : decode cL_isStep 520 = .ok (.invokevirtual 62, 3) := by decide +kernel
theorem dL_isStep_523 : decode cL_isStep 523 = .ok (.if_icmp .ne 31, 3) := by decide +kernel
theorem dL_isStep_526 : decode cL_isStep 526 = .ok (.aload_n 0, 1) := by decide +kernel
theorem dL_isStep_527 : decode cL_isStep 527 = .ok (.iload 6, 2) := by decide +kernel
theorem dL_isStep_529 : decode cL_isStep 529 = .ok (.iconst 1, 1) := by decide +kernel
theorem dL_isStep_530 : decode cL_isStep 530 = .ok (.invokevirtual 53, 3) := by decide +kernel
theorem dL_isStep_533 : decode cL_isStep 533 = .ok (.iload 9, 2) := by decide +kernel
theorem dL_isStep_535 : decode cL_isStep 535 = .ok (.if_icmp .ne 19, 3) := by decide +kernel
theorem dL_isStep_538 : decode cL_isStep 538 = .ok (.aload_n 0, 1) := by decide +kernel
theorem dL_isStep_539 : decode cL_isStep 539 = .ok (.iload 7, 2) := by decide +kernel
theorem dL_isStep_541 : decode cL_isStep 541 = .ok (.iconst 1, 1) := by decide +kernel
theorem dL_isStep_542 : decode cL_isStep 542 = .ok (.invokevirtual 53, 3) := by decide +kernel
theorem dL_isStep_545 : decode cL_isStep 545 = .ok (.iload 8, 2) := by decide +kernel
theorem dL_isStep_547 : decode cL_isStep 547 = .ok (.if_icmp .ne 7, 3) := by decide +kernel
theorem dL_isStep_550 : decode cL_isStep 550 = .ok (.iconst 1, 1) := by decide +kernel
theorem dL_isStep_551 : decode cL_isStep 551 = .ok (.goto 4, 3) := by decide +kernel
theorem dL_isStep_554 : decode cL_isStep 554 = .ok (.iconst 0, 1) := by decide +kernel
theorem dL_isStep_555 : decode cL_isStep 555 = .ok (.ireturn, 1) := by decide +kernel
theorem dL_isStep_556 : decode cL_isStep 556 = .ok (.iload_n 3, 1) := by decide +kernel
theorem dL_isStep_557 : decode cL_isStep 557 = .ok (.iconst 4, 1) := by decide +kernel
theorem dL_isStep_558 : decode cL_isStep 558 = .ok (.invokestatic 24, 3) := by decide +kernel
theorem dL_isStep_561 : decode cL_isStep 561 = .ok (.ifCond .gt 29, 3) := by decide +kernel
theorem dL_isStep_564 : decode cL_isStep 564 = .ok (.aload_n 0, 1) := by decide +kernel
theorem dL_isStep_565 : decode cL_isStep 565 = .ok (.invokevirtual 65, 3) := by decide +kernel
theorem dL_isStep_568 : decode cL_isStep 568 = .ok (.iload 5, 2) := by decide +kernel
theorem dL_isStep_570 : decode cL_isStep 570 = .ok (.if_icmp .ne 24, 3) := by decide +kernel
theorem dL_isStep_573 : decode cL_isStep 573 = .ok (.aload_n 1, 1) := by decide +kernel
theorem dL_isStep_574 : decode cL_isStep 574 = .ok (.invokevirtual 65, 3) := by decide +kernel
theorem dL_isStep_577 : decode cL_isStep 577 = .ok (.iload 5, 2) := by decide +kernel
theorem dL_isStep_579 : decode cL_isStep 579 = .ok (.if_icmp .ne 15, 3) := by decide +kernel
theorem dL_isStep_582 : decode cL_isStep 582 = .ok (.aload_n 0, 1) := by decide +kernel
theorem dL_isStep_583 : decode cL_isStep 583 = .ok (.iconst 4, 1) := by decide +kernel
theorem dL_isStep_584 : decode cL_isStep 584 = .ok (.invokevirtual 28, 3) := by decide +kernel
theorem dL_isStep_587 : decode cL_isStep 587 = .ok (.ifCond .ne 7, 3) := by decide +kernel
theorem dL_isStep_590 : decode cL_isStep 590 = .ok (.iconst 1, 1) := by decide +kernel
theorem dL_isStep_591 : decode cL_isStep 591 = .ok (.goto 4, 3) := by decide +kernel
theorem dL_isStep_594 : decode cL_isStep 594 = .ok (.iconst 0, 1) := by decide +kernel
theorem dL_isStep_595 : decode cL_isStep 595 = .ok (.ireturn, 1) := by decide +kernel
theorem dL_isStep_596 : decode cL_isStep 596 = .ok (.iload_n 3, 1) := by decide +kernel
theorem dL_isStep_597 : decode cL_isStep 597 = .ok (.iconst 2, 1) := by decide +kernel
theorem dL_isStep_598 : decode cL_isStep 598 = .ok (.invokestatic 24, 3) := by decide +kernel
theorem dL_isStep_601 : decode cL_isStep 601 = .ok (.ifCond .ne 34, 3) := by decide +kernel
theorem dL_isStep_604 : decode cL_isStep 604 = .ok (.aload_n 0, 1) := by decide +kernel
theorem dL_isStep_605 : decode cL_isStep 605 = .ok (.iload 4, 2) := by decide +kernel
theorem dL_isStep_607 : decode cL_isStep 607 = .ok (.iconst 2, 1) := by decide +kernel
theorem dL_isStep_608 : decode cL_isStep 608 = .ok (.invokestatic 24, 3) := by decide +kernel
theorem dL_isStep_611 : decode cL_isStep 611 = .ok (.invokevirtual 68, 3) := by decide +kernel
theorem dL_isStep_614 : decode cL_isStep 614 = .ok (.aload_n 1, 1) := by decide +kernel
theorem dL_isStep_615 : decode cL_isStep 615 = .ok (.iload 4, 2) := by decide +kernel
theorem dL_isStep_617 : decode cL_isStep 617 = .ok (.iconst 2, 1) := by decide +kernel
theorem dL_isStep_618 : decode cL_isStep 618 = .ok (.invokestatic 24, 3) := by decide +kernel
theorem dL_isStep_621 : decode cL_isStep 621 = .ok (.invokevirtual 68, 3) := by decide +kernel
theorem dL_isStep_624 : decode cL_isStep 624 = .ok (.if_icmp .ne 7, 3) := by decide +kernel
theorem dL_isStep_627 : decode cL_isStep 627 = .ok (.iconst 1, 1) := by decide +kernel
theorem dL_isStep_628 : decode cL_isStep 628 = .ok (.goto 35, 3) := by decide +kernel
theorem dL_isStep_631 : decode cL_isStep 631 = .ok (.iconst 0, 1) := by decide +kernel
theorem dL_isStep_632 : decode cL_isStep 632 = .ok (.goto 31, 3) := by decide +kernel
theorem dL_isStep_635 : decode cL_isStep 635 = .ok (.aload_n 0, 1) := by decide +kernel
theorem dL_isStep_636 : decode cL_isStep 636 = .ok (.iload 4, 2) := by decide +kernel
theorem dL_isStep_638 : decode cL_isStep 638 = .ok (.iconst 2, 1) := by decide +kernel
theorem dL_isStep_639 : decode cL_isStep 639 = .ok (.invokestatic 24, 3) := by decide +kernel
theorem dL_isStep_642 : decode cL_isStep 642 = .ok (.invokevirtual 71, 3) := by decide +kernel
theorem dL_isStep_645 : decode cL_isStep 645 = .ok (.aload_n 1, 1) := by decide +kernel
theorem dL_isStep_646 : decode cL_isStep 646 = .ok (.iload 4, 2) := by decide +kernel
theorem dL_isStep_648 : decode cL_isStep 648 = .ok (.iconst 2, 1) := by decide +kernel
theorem dL_isStep_649 : decode cL_isStep 649 = .ok (.invokestatic 24, 3) := by decide +kernel
theorem dL_isStep_652 : decode cL_isStep 652 = .ok (.invokevirtual 71, 3) := by decide +kernel
theorem dL_isStep_655 : decode cL_isStep 655 = .ok (.if_icmp .ne 7, 3) := by decide +kernel
theorem dL_isStep_658 : decode cL_isStep 658 = .ok (.iconst 1, 1) := by decide +kernel
theorem dL_isStep_659 : decode cL_isStep 659 = .ok (.goto 4, 3) := by decide +kernel
theorem dL_isStep_662 : decode cL_isStep 662 = .ok (.iconst 0, 1) := by decide +kernel
theorem dL_isStep_663 : decode cL_isStep 663 = .ok (.ireturn, 1) := by decide +kernel
theorem dL_isStep_664 : decode cL_isStep 664 = .ok (.aload_n 0, 1) := by decide +kernel
theorem dL_isStep_665 : decode cL_isStep 665 = .ok (.aload_n 1, 1) := by decide +kernel
theorem dL_isStep_666 : decode cL_isStep 666 = .ok (.iload_n 3, 1) := by decide +kernel
theorem dL_isStep_667 : decode cL_isStep 667 = .ok (.iload 4, 2) := by decide +kernel
theorem dL_isStep_669 : decode cL_isStep 669 = .ok (.invokestatic 74, 3) := by decide +kernel
theorem dL_isStep_672 : decode cL_isStep 672 = .ok (.ireturn, 1) := by decide +kernel
theorem dL_areAlike_0 : decode cL_areAlike 0 = .ok (.aload_n 0, 1) := by decide +kernel
theorem dL_areAlike_1 : decode cL_areAlike 1 = .ok (.invokevirtual 78, 3) := by decide +kernel
theorem dL_areAlike_4 : decode cL_areAlike 4 = .ok (.aload_n 1, 1) := by decide +kernel
theorem dL_areAlike_5 : decode cL_areAlike 5 = .ok (.invokevirtual 78, 3) := by decide +kernel
theorem dL_areAlike_8 : decode cL_areAlike 8 = .ok (.if_icmp .ne 60, 3) := by decide +kernel
theorem dL_areAlike_11 : decode cL_areAlike 11 = .ok (.aload_n 0, 1) := by decide +kernel
theorem dL_areAlike_12 : decode cL_areAlike 12 = .ok (.iconst 1, 1) := by decide +kernel
theorem dL_areAlike_13 : decode cL_areAlike 13 = .ok (.iload_n 2, 1) := by decide +kernel
theorem dL_areAlike_14 : decode cL_areAlike 14 = .ok (.bipush 24, 2) := by decide +kernel
theorem dL_areAlike_16 : decode cL_areAlike 16 = .ok (.invokestatic 24, 3) := by decide +kernel
theorem dL_areAlike_19 : decode cL_areAlike 19 = .ok (.iadd, 1) := by decide +kernel
theorem dL_areAlike_20 : decode cL_areAlike 20 = .ok (.invokevirtual 81, 3) := by decide +kernel
theorem dL_areAlike_23 : decode cL_areAlike 23 = .ok (.aload_n 1, 1) := by decide +kernel
theorem dL_areAlike_24 : decode cL_areAlike 24 = .ok (.iconst 1, 1) := by decide +kernel
theorem dL_areAlike_25 : decode cL_areAlike 25 = .ok (.iload_n 2, 1) := by decide +kernel
theorem dL_areAlike_26 : decode cL_areAlike 26 = .ok (.bipush 24, 2) := by decide +kernel
theorem dL_areAlike_28 : decode cL_areAlike 28 = .ok (.invokestatic 24, 3) := by decide +kernel
theorem dL_areAlike_31 : decode cL_areAlike 31 = .ok (.iadd, 1) := by decide +kernel
theorem dL_areAlike_32 : decode cL_areAlike 32 = .ok (.invokevirtual 81, 3) := by decide +kernel
theorem dL_areAlike_35 : decode cL_areAlike 35 = .ok (.if_icmp .ne 33, 3) := by decide +kernel
theorem dL_areAlike_38 : decode cL_areAlike 38 = .ok (.aload_n 0, 1) := by decide +kernel
theorem dL_areAlike_39 : decode cL_areAlike 39 = .ok (.iload_n 2, 1) := by decide +kernel
theorem dL_areAlike_40 : decode cL_areAlike 40 = .ok (.bipush 8, 2) := by decide +kernel
theorem dL_areAlike_42 : decode cL_areAlike 42 = .ok (.invokestatic 24, 3) := by decide +kernel
theorem dL_areAlike_45 : decode cL_areAlike 45 = .ok (.invokevirtual 84, 3) := by decide +kernel
theorem dL_areAlike_48 : decode cL_areAlike 48 = .ok (.aload_n 1, 1) := by decide +kernel
theorem dL_areAlike_49 : decode cL_areAlike 49 = .ok (.iload_n 2, 1) := by decide +kernel
theorem dL_areAlike_50 : decode cL_areAlike 50 = .ok (.bipush 8, 2) := by decide +kernel
theorem dL_areAlike_52 : decode cL_areAlike 52 = .ok (.invokestatic 24, 3) := by decide +kernel
theorem dL_areAlike_55 : decode cL_areAlike 55 = .ok (.invokestatic 9, 3) := by decide +kernel
theorem dL_areAlike_58 : decode cL_areAlike 58 = .ok (.invokevirtual 84, 3) := by decide +kernel
theorem dL_areAlike_61 : decode cL_areAlike 61 = .ok (.if_icmp .ne 7, 3) := by decide +kernel
theorem dL_areAlike_64 : decode cL_areAlike 64 = .ok (.iconst 1, 1) := by decide +kernel
theorem dL_areAlike_65 : decode cL_areAlike 65 = .ok (.goto 4, 3) := by decide +kernel
theorem dL_areAlike_68 : decode cL_areAlike 68 = .ok (.iconst 0, 1) := by decide +kernel
theorem dL_areAlike_69 : decode cL_areAlike 69 = .ok (.istore_n 3, 1) := by decide +kernel
theorem dL_areAlike_70 : decode cL_areAlike 70 = .ok (.iconst 0, 1) := by decide +kernel
theorem dL_areAlike_71 : decode cL_areAlike 71 = .ok (.istore 4, 2) := by decide +kernel
theorem dL_areAlike_73 : decode cL_areAlike 73 = .ok (.iload 4, 2) := by decide +kernel
theorem dL_areAlike_75 : decode cL_areAlike 75 = .ok (.bipush 8, 2) := by decide +kernel
theorem dL_areAlike_77 : decode cL_areAlike 77 = .ok (.if_icmp .ge 34, 3) := by decide +kernel
theorem dL_areAlike_80 : decode cL_areAlike 80 = .ok (.iload_n 3, 1) := by decide +kernel
theorem dL_areAlike_81 : decode cL_areAlike 81 = .ok (.ifCond .eq 22, 3) := by decide +kernel
theorem dL_areAlike_84 : decode cL_areAlike 84 = .ok (.aload_n 0, 1) := by decide +kernel
theorem dL_areAlike_85 : decode cL_areAlike 85 = .ok (.iload 4, 2) := by decide +kernel
theorem dL_areAlike_87 : decode cL_areAlike 87 = .ok (.invokevirtual 28, 3) := by decide +kernel
theorem dL_areAlike_90 : decode cL_areAlike 90 = .ok (.aload_n 1, 1) := by decide +kernel
theorem dL_areAlike_91 : decode cL_areAlike 91 = .ok (.iload 4, 2) := by decide +kernel
theorem dL_areAlike_93 : decode cL_areAlike 93 = .ok (.invokevirtual 28, 3) := by decide +kernel
theorem dL_areAlike_96 : decode cL_areAlike 96 = .ok (.if_icmp .ne 7, 3) := by decide +kernel
theorem dL_areAlike_99 : decode cL_areAlike 99 = .ok (.iconst 1, 1) := by decide +kernel
theorem dL_areAlike_100 : decode cL_areAlike 100 = .ok (.goto 4, 3) := by decide +kernel
theorem dL_areAlike_103 : decode cL_areAlike 103 = .ok (.iconst 0, 1) := by decide +kernel
theorem dL_areAlike_104 : decode cL_areAlike 104 = .ok (.istore_n 3, 1) := by decide +kernel
theorem dL_areAlike_105 : decode cL_areAlike 105 = .ok (.iinc 4 1, 3) := by decide +kernel
theorem dL_areAlike_108 : decode cL_areAlike 108 = .ok (.goto (-35), 3) := by decide +kernel
theorem dL_areAlike_111 : decode cL_areAlike 111 = .ok (.iconst 0, 1) := by decide +kernel
theorem dL_areAlike_112 : decode cL_areAlike 112 = .ok (.istore 4, 2) := by decide +kernel
theorem dL_areAlike_114 : decode cL_areAlike 114 = .ok (.iload 4, 2) := by decide +kernel
theorem dL_areAlike_116 : decode cL_areAlike 116 = .ok (.bipush 10, 2) := by decide +kernel
theorem dL_areAlike_118 : decode cL_areAlike 118 = .ok (.if_icmp .ge 46, 3) := by decide +kernel
theorem dL_areAlike_121 : decode cL_areAlike 121 = .ok (.iload_n 3, 1) := by decide +kernel
theorem dL_areAlike_122 : decode cL_areAlike 122 = .ok (.ifCond .eq 34, 3) := by decide +kernel
theorem dL_areAlike_125 : decode cL_areAlike 125 = .ok (.aload_n 0, 1) := by decide +kernel
theorem dL_areAlike_126 : decode cL_areAlike 126 = .ok (.iload 4, 2) := by decide +kernel
theorem dL_areAlike_128 : decode cL_areAlike 128 = .ok (.iconst 2, 1) := by decide +kernel
theorem dL_areAlike_129 : decode cL_areAlike 129 = .ok (.irem, 1) := by decide +kernel
theorem dL_areAlike_130 : decode cL_areAlike 130 = .ok (.iload 4, 2) := by decide +kernel
theorem dL_areAlike_132 : decode cL_areAlike 132 = .ok (.iconst 2, 1) := by decide +kernel
theorem dL_areAlike_133 : decode cL_areAlike 133 = .ok (.idiv, 1) := by decide +kernel
theorem dL_areAlike_134 : decode cL_areAlike 134 = .ok (.invokevirtual 62, 3) := by decide +kernel
theorem dL_areAlike_137 : decode cL_areAlike 137 = .ok (.aload_n 1, 1) := by decide +kernel
theorem dL_areAlike_138 : decode cL_areAlike 138 = .ok (.iload 4, 2) := by decide +kernel
theorem dL_areAlike_140 : decode cL_areAlike 140 = .ok (.iconst 2, 1) := by decide +kernel
theorem dL_areAlike_141 : decode cL_areAlike 141 = .ok (.irem, 1) := by decide +kernel
theorem dL_areAlike_142 : decode cL_areAlike 142 = .ok (.iload 4, 2) := by decide +kernel
theorem dL_areAlike_144 : decode cL_areAlike 144 = .ok (.iconst 2, 1) := by decide +kernel
theorem dL_areAlike_145 : decode cL_areAlike 145 = .ok (.idiv, 1) := by decide +kernel
theorem dL_areAlike_146 : decode cL_areAlike 146 = .ok (.invokevirtual 62, 3) := by decide +kernel
theorem dL_areAlike_149 : decode cL_areAlike 149 = .ok (.if_icmp .ne 7, 3) := by decide +kernel
theorem dL_areAlike_152 : decode cL_areAlike 152 = .ok (.iconst 1, 1) := by decide +kernel
theorem dL_areAlike_153 : decode cL_areAlike 153 = .ok (.goto 4, 3) := by decide +kernel
theorem dL_areAlike_156 : decode cL_areAlike 156 = .ok (.iconst 0, 1) := by decide +kernel
theorem dL_areAlike_157 : decode cL_areAlike 157 = .ok (.istore_n 3, 1) := by decide +kernel
theorem dL_areAlike_158 : decode cL_areAlike 158 = .ok (.iinc 4 1, 3) := by decide +kernel
theorem dL_areAlike_161 : decode cL_areAlike 161 = .ok (.goto (-47), 3) := by decide +kernel
theorem dL_areAlike_164 : decode cL_areAlike 164 = .ok (.iconst 0, 1) := by decide +kernel
theorem dL_areAlike_165 : decode cL_areAlike 165 = .ok (.istore 4, 2) := by decide +kernel
theorem dL_areAlike_167 : decode cL_areAlike 167 = .ok (.iload 4, 2) := by decide +kernel
theorem dL_areAlike_169 : decode cL_areAlike 169 = .ok (.iconst 2, 1) := by decide +kernel
theorem dL_areAlike_170 : decode cL_areAlike 170 = .ok (.if_icmp .ge 79, 3) := by decide +kernel
theorem dL_areAlike_173 : decode cL_areAlike 173 = .ok (.iconst 0, 1) := by decide +kernel
theorem dL_areAlike_174 : decode cL_areAlike 174 = .ok (.istore 5, 2) := by decide +kernel
theorem dL_areAlike_176 : decode cL_areAlike 176 = .ok (.iload 5, 2) := by decide +kernel
theorem dL_areAlike_178 : decode cL_areAlike 178 = .ok (.aload_n 0, 1) := by decide +kernel
theorem dL_areAlike_179 : decode cL_areAlike 179 = .ok (.iload 4, 2) := by decide +kernel
theorem dL_areAlike_181 : decode cL_areAlike 181 = .ok (.iconst 0, 1) := by decide +kernel
theorem dL_areAlike_182 : decode cL_areAlike 182 = .ok (.invokevirtual 62, 3) := by decide +kernel
theorem dL_areAlike_185 : decode cL_areAlike 185 = .ok (.if_icmp .ge 58, 3) := by decide +kernel
theorem dL_areAlike_188 : decode cL_areAlike 188 = .ok (.iconst 0, 1) := by decide +kernel
theorem dL_areAlike_189 : decode cL_areAlike 189 = .ok (.istore 6, 2) := by decide +kernel
theorem dL_areAlike_191 : decode cL_areAlike 191 = .ok (.iload 6, 2) := by decide +kernel
theorem dL_areAlike_193 : decode cL_areAlike 193 = .ok (.bipush 9, 2) := by decide +kernel
theorem dL_areAlike_195 : decode cL_areAlike 195 = .ok (.if_icmp .ge 42, 3) := by decide +kernel
theorem dL_areAlike_198 : decode cL_areAlike 198 = .ok (.iload_n 3, 1) := by decide +kernel
theorem dL_areAlike_199 : decode cL_areAlike 199 = .ok (.ifCond .eq 30, 3) := by decide +kernel
theorem dL_areAlike_202 : decode cL_areAlike 202 = .ok (.aload_n 0, 1) := by decide +kernel
theorem dL_areAlike_203 : decode cL_areAlike 203 = .ok (.iload 4, 2) := by decide +kernel
theorem dL_areAlike_205 : decode cL_areAlike 205 = .ok (.iload 5, 2) := by decide +kernel
theorem dL_areAlike_207 : decode cL_areAlike 207 = .ok (.iload 6, 2) := by decide +kernel
theorem dL_areAlike_209 : decode cL_areAlike 209 = .ok (.invokevirtual 87, 3) := by decide +kernel
theorem dL_areAlike_212 : decode cL_areAlike 212 = .ok (.aload_n 1, 1) := by decide +kernel
theorem dL_areAlike_213 : decode cL_areAlike 213 = .ok (.iload 4, 2) := by decide +kernel
theorem dL_areAlike_215 : decode cL_areAlike 215 = .ok (.iload 5, 2) := by decide +kernel
theorem dL_areAlike_217 : decode cL_areAlike 217 = .ok (.iload 6, 2) := by decide +kernel
theorem dL_areAlike_219 : decode cL_areAlike 219 = .ok (.invokevirtual 87, 3) := by decide +kernel
theorem dL_areAlike_222 : decode cL_areAlike 222 = .ok (.if_icmp .ne 7, 3) := by decide +kernel
theorem dL_areAlike_225 : decode cL_areAlike 225 = .ok (.iconst 1, 1) := by decide +kernel
theorem dL_areAlike_226 : decode cL_areAlike 226 = .ok (.goto 4, 3) := by decide +kernel
theorem dL_areAlike_229 : decode cL_areAlike 229 = .ok (.iconst 0, 1) := by decide +kernel
theorem dL_areAlike_230 : decode cL_areAlike 230 = .ok (.istore_n 3, 1) := by decide +kernel
theorem dL_areAlike_231 : decode cL_areAlike 231 = .ok (.iinc 6 1, 3) := by decide +kernel
theorem dL_areAlike_234 : decode cL_areAlike 234 = .ok (.goto (-43), 3) := by decide +kernel
theorem dL_areAlike_237 : decode cL_areAlike 237 = .ok (.iinc 5 1, 3) := by decide +kernel
theorem dL_areAlike_240 : decode cL_areAlike 240 = .ok (.goto (-64), 3) := by decide +kernel
theorem dL_areAlike_243 : decode cL_areAlike 243 = .ok (.iinc 4 1, 3) := by decide +kernel
theorem dL_areAlike_246 : decode cL_areAlike 246 = .ok (.goto (-79), 3) := by decide +kernel
theorem dL_areAlike_249 : decode cL_areAlike 249 = .ok (.iconst 0, 1) := by decide +kernel
theorem dL_areAlike_250 : decode cL_areAlike 250 = .ok (.istore 4, 2) := by decide +kernel
theorem dL_areAlike_252 : decode cL_areAlike 252 = .ok (.iload 4, 2) := by decide +kernel
theorem dL_areAlike_254 : decode cL_areAlike 254 = .ok (.aload_n 0, 1) := by decide +kernel
theorem dL_areAlike_255 : decode cL_areAlike 255 = .ok (.iconst 4, 1) := by decide +kernel
theorem dL_areAlike_256 : decode cL_areAlike 256 = .ok (.invokevirtual 28, 3) := by decide +kernel
theorem dL_areAlike_259 : decode cL_areAlike 259 = .ok (.if_icmp .ge 114, 3) := by decide +kernel
theorem dL_areAlike_262 : decode cL_areAlike 262 = .ok (.iconst 0, 1) := by decide +kernel
theorem dL_areAlike_263 : decode cL_areAlike 263 = .ok (.istore 5, 2) := by decide +kernel
theorem dL_areAlike_265 : decode cL_areAlike 265 = .ok (.iload 5, 2) := by decide +kernel
theorem dL_areAlike_267 : decode cL_areAlike 267 = .ok (.iconst 4, 1) := by decide +kernel
theorem dL_areAlike_268 : decode cL_areAlike 268 = .ok (.if_icmp .ge 38, 3) := by decide +kernel
theorem dL_areAlike_271 : decode cL_areAlike 271 = .ok (.iload_n 3, 1) := by decide +kernel
theorem dL_areAlike_272 : decode cL_areAlike 272 = .ok (.ifCond .eq 26, 3) := by decide +kernel
theorem dL_areAlike_275 : decode cL_areAlike 275 = .ok (.aload_n 0, 1) := by decide +kernel
theorem dL_areAlike_276 : decode cL_areAlike 276 = .ok (.iload 4, 2) := by decide +kernel
theorem dL_areAlike_278 : decode cL_areAlike 278 = .ok (.iload 5, 2) := by decide +kernel
theorem dL_areAlike_280 : decode cL_areAlike 280 = .ok (.invokevirtual 53, 3) := by decide +kernel
theorem dL_areAlike_283 : decode cL_areAlike 283 = .ok (.aload_n 1, 1) := by decide +kernel
theorem dL_areAlike_284 : decode cL_areAlike 284 = .ok (.iload 4, 2) := by decide +kernel
theorem dL_areAlike_286 : decode cL_areAlike 286 = .ok (.iload 5, 2) := by decide +kernel
theorem dL_areAlike_288 : decode cL_areAlike 288 = .ok (.invokevirtual 53, 3) := by decide +kernel
theorem dL_areAlike_291 : decode cL_areAlike 291 = .ok (.if_icmp .ne 7, 3) := by decide +kernel
theorem dL_areAlike_294 : decode cL_areAlike 294 = .ok (.iconst 1, 1) := by decide +kernel
theorem dL_areAlike_295 : decode cL_areAlike 295 = .ok (.goto 4, 3) := by decide +kernel
theorem dL_areAlike_298 : decode cL_areAlike 298 = .ok (.iconst 0, 1) := by decide +kernel
theorem dL_areAlike_299 : decode cL_areAlike 299 = .ok (.istore_n 3, 1) := by decide +kernel
theorem dL_areAlike_300 : decode cL_areAlike 300 = .ok (.iinc 5 1, 3) := by decide +kernel
theorem dL_areAlike_303 : decode cL_areAlike 303 = .ok (.goto (-38), 3) := by decide +kernel
theorem dL_areAlike_306 : decode cL_areAlike 306 = .ok (.iconst 4, 1) := by decide +kernel
theorem dL_areAlike_307 : decode cL_areAlike 307 = .ok (.istore 5, 2) := by decide +kernel
theorem dL_areAlike_309 : decode cL_areAlike 309 = .ok (.iload 5, 2) := by decide +kernel
theorem dL_areAlike_311 : decode cL_areAlike 311 = .ok (.iconst 4, 1) := by decide +kernel
theorem dL_areAlike_312 : decode cL_areAlike 312 = .ok (.aload_n 0, 1) := by decide +kernel
theorem dL_areAlike_313 : decode cL_areAlike 313 = .ok (.iload 4, 2) := by decide +kernel
theorem dL_areAlike_315 : decode cL_areAlike 315 = .ok (.iconst 0, 1) := by decide +kernel
theorem dL_areAlike_316 : decode cL_areAlike 316 = .ok (.invokevirtual 53, 3) := by decide +kernel
theorem dL_areAlike_319 : decode cL_areAlike 319 = .ok (.iadd, 1) := by decide +kernel
theorem dL_areAlike_320 : decode cL_areAlike 320 = .ok (.if_icmp .ge 47, 3) := by decide +kernel
theorem dL_areAlike_323 : decode cL_areAlike 323 = .ok (.iload_n 3, 1) := by decide +kernel
theorem dL_areAlike_324 : decode cL_areAlike 324 = .ok (.ifCond .eq 35, 3) := by decide +kernel
theorem dL_areAlike_327 : decode cL_areAlike 327 = .ok (.aload_n 1, 1) := by decide +kernel
theorem dL_areAlike_328 : decode cL_areAlike 328 = .ok (.iload 4, 2) := by decide +kernel
theorem dL_areAlike_330 : decode cL_areAlike 330 = .ok (.iload 5, 2) := by decide +kernel
theorem dL_areAlike_332 : decode cL_areAlike 332 = .ok (.invokevirtual 53, 3) := by decide +kernel
theorem dL_areAlike_335 : decode cL_areAlike 335 = .ok (.aload_n 0, 1) := by decide +kernel
theorem dL_areAlike_336 : decode cL_areAlike 336 = .ok (.iload 4, 2) := by decide +kernel
theorem dL_areAlike_338 : decode cL_areAlike 338 = .ok (.iload 5, 2) := by decide +kernel
theorem dL_areAlike_340 : decode cL_areAlike 340 = .ok (.invokevirtual 53, 3) := by decide +kernel
theorem dL_areAlike_343 : decode cL_areAlike 343 = .ok (.invokestatic 91, 3) := by decide +kernel
theorem dL_areAlike_346 : decode cL_areAlike 346 = .ok (.invokestatic 37, 3) := by decide +kernel
theorem dL_areAlike_349 : decode cL_areAlike 349 = .ok (.invokestatic 15, 3) := by decide +kernel
theorem dL_areAlike_352 : decode cL_areAlike 352 = .ok (.if_icmp .ne 7, 3) := by decide +kernel
theorem dL_areAlike_355 : decode cL_areAlike 355 = .ok (.iconst 1, 1) := by decide +kernel
theorem dL_areAlike_356 : decode cL_areAlike 356 = .ok (.goto 4, 3) := by decide +kernel
theorem dL_areAlike_359 : decode cL_areAlike 359 = .ok (.iconst 0, 1) := by decide +kernel
theorem dL_areAlike_360 : decode cL_areAlike 360 = .ok (.istore_n 3, 1) := by decide +kernel
theorem dL_areAlike_361 : decode cL_areAlike 361 = .ok (.iinc 5 1, 3) := by decide +kernel
theorem dL_areAlike_364 : decode cL_areAlike 364 = .ok (.goto (-55), 3) := by decide +kernel
theorem dL_areAlike_367 : decode cL_areAlike 367 = .ok (.iinc 4 1, 3) := by decide +kernel
theorem dL_areAlike_370 : decode cL_areAlike 370 = .ok (.goto (-118), 3) := by decide +kernel
theorem dL_areAlike_373 : decode cL_areAlike 373 = .ok (.iconst 0, 1) := by decide +kernel
theorem dL_areAlike_374 : decode cL_areAlike 374 = .ok (.istore 4, 2) := by decide +kernel
theorem dL_areAlike_376 : decode cL_areAlike 376 = .ok (.iload 4, 2) := by decide +kernel
theorem dL_areAlike_378 : decode cL_areAlike 378 = .ok (.bipush 48, 2) := by decide +kernel
theorem dL_areAlike_380 : decode cL_areAlike 380 = .ok (.if_icmp .ge 53, 3) := by decide +kernel
theorem dL_areAlike_383 : decode cL_areAlike 383 = .ok (.iload_n 3, 1) := by decide +kernel
theorem dL_areAlike_384 : decode cL_areAlike 384 = .ok (.ifCond .eq 41, 3) := by decide +kernel
theorem dL_areAlike_387 : decode cL_areAlike 387 = .ok (.aload_n 0, 1) := by decide +kernel
theorem dL_areAlike_388 : decode cL_areAlike 388 = .ok (.iload 4, 2) := by decide +kernel
theorem dL_areAlike_390 : decode cL_areAlike 390 = .ok (.bipush 6, 2) := by decide +kernel
theorem dL_areAlike_392 : decode cL_areAlike 392 = .ok (.idiv, 1) := by decide +kernel
theorem dL_areAlike_393 : decode cL_areAlike 393 = .ok (.iload 4, 2) := by decide +kernel
theorem dL_areAlike_395 : decode cL_areAlike 395 = .ok (.bipush 6, 2) := by decide +kernel
theorem dL_areAlike_397 : decode cL_areAlike 397 = .ok (.irem, 1) := by decide +kernel
theorem dL_areAlike_398 : decode cL_areAlike 398 = .ok (.invokevirtual 46, 3) := by decide +kernel
theorem dL_areAlike_401 : decode cL_areAlike 401 = .ok (.aload_n 1, 1) := by decide +kernel
theorem dL_areAlike_402 : decode cL_areAlike 402 = .ok (.iload 4, 2) := by decide +kernel
theorem dL_areAlike_404 : decode cL_areAlike 404 = .ok (.bipush 6, 2) := by decide +kernel
theorem dL_areAlike_406 : decode cL_areAlike 406 = .ok (.idiv, 1) := by decide +kernel
theorem dL_areAlike_407 : decode cL_areAlike 407 = .ok (.invokestatic 9, 3) := by decide +kernel
theorem dL_areAlike_410 : decode cL_areAlike 410 = .ok (.iload 4, 2) := by decide +kernel
theorem dL_areAlike_412 : decode cL_areAlike 412 = .ok (.bipush 6, 2) := by decide +kernel
theorem dL_areAlike_414 : decode cL_areAlike 414 = .ok (.irem, 1) := by decide +kernel
theorem dL_areAlike_415 : decode cL_areAlike 415 = .ok (.invokevirtual 46, 3) := by decide +kernel
theorem dL_areAlike_418 : decode cL_areAlike 418 = .ok (.if_icmp .ne 7, 3) := by decide +kernel
theorem dL_areAlike_421 : decode cL_areAlike 421 = .ok (.iconst 1, 1) := by decide +kernel
theorem dL_areAlike_422 : decode cL_areAlike 422 = .ok (.goto 4, 3) := by decide +kernel
theorem dL_areAlike_425 : decode cL_areAlike 425 = .ok (.iconst 0, 1) := by decide +kernel
theorem dL_areAlike_426 : decode cL_areAlike 426 = .ok (.istore_n 3, 1) := by decide +kernel
theorem dL_areAlike_427 : decode cL_areAlike 427 = .ok (.iinc 4 1, 3) := by decide +kernel
theorem dL_areAlike_430 : decode cL_areAlike 430 = .ok (.goto (-54), 3) := by decide +kernel
theorem dL_areAlike_433 : decode cL_areAlike 433 = .ok (.iload_n 3, 1) := by decide +kernel
theorem dL_areAlike_434 : decode cL_areAlike 434 = .ok (.ireturn, 1) := by decide +kernel
theorem dL_isWell_0 : decode cL_isWell 0 = .ok (.iconst 0, 1) := by decide +kernel
theorem dL_isWell_1 : decode cL_isWell 1 = .ok (.istore_n 1, 1) := by decide +kernel
theorem dL_isWell_2 : decode cL_isWell 2 = .ok (.iconst 0, 1) := by decide +kernel
theorem dL_isWell_3 : decode cL_isWell 3 = .ok (.istore_n 2, 1) := by decide +kernel
theorem dL_isWell_4 : decode cL_isWell 4 = .ok (.iconst 0, 1) := by decide +kernel
theorem dL_isWell_5 : decode cL_isWell 5 = .ok (.istore_n 3, 1) := by decide +kernel
theorem dL_isWell_6 : decode cL_isWell 6 = .ok (.iconst 0, 1) := by decide +kernel
theorem dL_isWell_7 : decode cL_isWell 7 = .ok (.istore 4, 2) := by decide +kernel
theorem dL_isWell_9 : decode cL_isWell 9 = .ok (.aload_n 0, 1) := by decide +kernel
theorem dL_isWell_10 : decode cL_isWell 10 = .ok (.iconst 4, 1) := by decide +kernel
theorem dL_isWell_11 : decode cL_isWell 11 = .ok (.invokevirtual 28, 3) := by decide +kernel
theorem dL_isWell_14 : decode cL_isWell 14 = .ok (.istore 5, 2) := by decide +kernel
theorem dL_isWell_16 : decode cL_isWell 16 = .ok (.aload_n 0, 1) := by decide +kernel
theorem dL_isWell_17 : decode cL_isWell 17 = .ok (.iconst 1, 1) := by decide +kernel
theorem dL_isWell_18 : decode cL_isWell 18 = .ok (.iconst 1, 1) := by decide +kernel
theorem dL_isWell_19 : decode cL_isWell 19 = .ok (.invokevirtual 62, 3) := by decide +kernel
theorem dL_isWell_22 : decode cL_isWell 22 = .ok (.aload_n 0, 1) := by decide +kernel
theorem dL_isWell_23 : decode cL_isWell 23 = .ok (.iconst 0, 1) := by decide +kernel
theorem dL_isWell_24 : decode cL_isWell 24 = .ok (.iconst 1, 1) := by decide +kernel
theorem dL_isWell_25 : decode cL_isWell 25 = .ok (.invokevirtual 62, 3) := by decide +kernel
theorem dL_isWell_28 : decode cL_isWell 28 = .ok (.if_icmp .gt 46, 3) := by decide +kernel
theorem dL_isWell_31 : decode cL_isWell 31 = .ok (.aload_n 0, 1) := by decide +kernel
theorem dL_isWell_32 : decode cL_isWell 32 = .ok (.iconst 0, 1) := by decide +kernel
theorem dL_isWell_33 : decode cL_isWell 33 = .ok (.iconst 0, 1) := by decide +kernel
theorem dL_isWell_34 : decode cL_isWell 34 = .ok (.invokevirtual 62, 3) := by decide +kernel
theorem dL_isWell_37 : decode cL_isWell 37 = .ok (.aload_n 0, 1) := by decide +kernel
theorem dL_isWell_38 : decode cL_isWell 38 = .ok (.iconst 1, 1) := by decide +kernel
theorem dL_isWell_39 : decode cL_isWell 39 = .ok (.iconst 0, 1) := by decide +kernel
theorem dL_isWell_40 : decode cL_isWell 40 = .ok (.invokevirtual 62, 3) := by decide +kernel
theorem dL_isWell_43 : decode cL_isWell 43 = .ok (.if_icmp .gt 31, 3) := by decide +kernel
theorem dL_isWell_46 : decode cL_isWell 46 = .ok (.aload_n 0, 1) := by decide +kernel
theorem dL_isWell_47 : decode cL_isWell 47 = .ok (.bipush 7, 2) := by decide +kernel
theorem dL_isWell_49 : decode cL_isWell 49 = .ok (.invokevirtual 28, 3) := by decide +kernel
theorem dL_isWell_52 : decode cL_isWell 52 = .ok (.ifCond .eq 18, 3) := by decide +kernel
theorem dL_isWell_55 : decode cL_isWell 55 = .ok (.aload_n 0, 1) := by decide +kernel
theorem dL_isWell_56 : decode cL_isWell 56 = .ok (.iconst 0, 1) := by decide +kernel
theorem dL_isWell_57 : decode cL_isWell 57 = .ok (.iconst 1, 1) := by decide +kernel
theorem dL_isWell_58 : decode cL_isWell 58 = .ok (.invokevirtual 62, 3) := by decide +kernel
theorem dL_isWell_61 : decode cL_isWell 61 = .ok (.aload_n 0, 1) := by decide +kernel
theorem dL_isWell_62 : decode cL_isWell 62 = .ok (.iconst 1, 1) := by decide +kernel
theorem dL_isWell_63 : decode cL_isWell 63 = .ok (.iconst 1, 1) := by decide +kernel
theorem dL_isWell_64 : decode cL_isWell 64 = .ok (.invokevirtual 62, 3) := by decide +kernel
theorem dL_isWell_67 : decode cL_isWell 67 = .ok (.if_icmp .ne 7, 3) := by decide +kernel
theorem dL_isWell_70 : decode cL_isWell 70 = .ok (.iconst 1, 1) := by decide +kernel
theorem dL_isWell_71 : decode cL_isWell 71 = .ok (.goto 4, 3) := by decide +kernel
theorem dL_isWell_74 : decode cL_isWell 74 = .ok (.iconst 0, 1) := by decide +kernel
theorem dL_isWell_75 : decode cL_isWell 75 = .ok (.istore 6, 2) := by decide +kernel
theorem dL_isWell_77 : decode cL_isWell 77 = .ok (.iconst 0, 1) := by decide +kernel
theorem dL_isWell_78 : decode cL_isWell 78 = .ok (.istore 7, 2) := by decide +kernel
theorem dL_isWell_80 : decode cL_isWell 80 = .ok (.iload 7, 2) := by decide +kernel
theorem dL_isWell_82 : decode cL_isWell 82 = .ok (.iload 5, 2) := by decide +kernel
theorem dL_isWell_84 : decode cL_isWell 84 = .ok (.if_icmp .ge 157, 3) := by decide +kernel
theorem dL_isWell_87 : decode cL_isWell 87 = .ok (.iload_n 1, 1) := by decide +kernel
theorem dL_isWell_88 : decode cL_isWell 88 = .ok (.aload_n 0, 1) := by decide +kernel
theorem dL_isWell_89 : decode cL_isWell 89 = .ok (.iload 7, 2) := by decide +kernel
theorem dL_isWell_91 : decode cL_isWell 91 = .ok (.iconst 0, 1) := by decide +kernel
theorem dL_isWell_92 : decode cL_isWell 92 = .ok (.invokevirtual 53, 3) := by decide +kernel
theorem dL_isWell_95 : decode cL_isWell 95 = .ok (.iadd, 1) := by decide +kernel
theorem dL_isWell_96 : decode cL_isWell 96 = .ok (.istore_n 1, 1) := by decide +kernel
theorem dL_isWell_97 : decode cL_isWell 97 = .ok (.iload_n 2, 1) := by decide +kernel
theorem dL_isWell_98 : decode cL_isWell 98 = .ok (.aload_n 0, 1) := by decide +kernel
theorem dL_isWell_99 : decode cL_isWell 99 = .ok (.iload 7, 2) := by decide +kernel
theorem dL_isWell_101 : decode cL_isWell 101 = .ok (.iconst 1, 1) := by decide +kernel
theorem dL_isWell_102 : decode cL_isWell 102 = .ok (.invokevirtual 53, 3) := by decide +kernel
theorem dL_isWell_105 : decode cL_isWell 105 = .ok (.iadd, 1) := by decide +kernel
theorem dL_isWell_106 : decode cL_isWell 106 = .ok (.istore_n 2, 1) := by decide +kernel
theorem dL_isWell_107 : decode cL_isWell 107 = .ok (.iload 6, 2) := by decide +kernel
theorem dL_isWell_109 : decode cL_isWell 109 = .ok (.ifCond .eq 123, 3) := by decide +kernel
theorem dL_isWell_112 : decode cL_isWell 112 = .ok (.aload_n 0, 1) := by decide +kernel
theorem dL_isWell_113 : decode cL_isWell 113 = .ok (.iload 7, 2) := by decide +kernel
theorem dL_isWell_115 : decode cL_isWell 115 = .ok (.iconst 2, 1) := by decide +kernel
theorem dL_isWell_116 : decode cL_isWell 116 = .ok (.invokevirtual 53, 3) := by decide +kernel
theorem dL_isWell_119 : decode cL_isWell 119 = .ok (.aload_n 0, 1) := by decide +kernel
theorem dL_isWell_120 : decode cL_isWell 120 = .ok (.iload 7, 2) := by decide +kernel
theorem dL_isWell_122 : decode cL_isWell 122 = .ok (.iconst 3, 1) := by decide +kernel
theorem dL_isWell_123 : decode cL_isWell 123 = .ok (.invokevirtual 53, 3) := by decide +kernel
theorem dL_isWell_126 : decode cL_isWell 126 = .ok (.if_icmp .gt 106, 3) := by decide +kernel
theorem dL_isWell_129 : decode cL_isWell 129 = .ok (.iload 7, 2) := by decide +kernel
theorem dL_isWell_131 : decode cL_isWell 131 = .ok (.ifCond .eq 43, 3) := by decide +kernel
theorem dL_isWell_134 : decode cL_isWell 134 = .ok (.aload_n 0, 1) := by decide +kernel
theorem dL_isWell_135 : decode cL_isWell 135 = .ok (.iload 7, 2) := by decide +kernel
theorem dL_isWell_137 : decode cL_isWell 137 = .ok (.iconst 2, 1) := by decide +kernel
theorem dL_isWell_138 : decode cL_isWell 138 = .ok (.invokevirtual 53, 3) := by decide +kernel
theorem dL_isWell_141 : decode cL_isWell 141 = .ok (.aload_n 0, 1) := by decide +kernel
theorem dL_isWell_142 : decode cL_isWell 142 = .ok (.iload 7, 2) := by decide +kernel
theorem dL_isWell_144 : decode cL_isWell 144 = .ok (.iconst 1, 1) := by decide +kernel
theorem dL_isWell_145 : decode cL_isWell 145 = .ok (.isub, 1) := by decide +kernel
theorem dL_isWell_146 : decode cL_isWell 146 = .ok (.iconst 2, 1) := by decide +kernel
theorem dL_isWell_147 : decode cL_isWell 147 = .ok (.invokevirtual 53, 3) := by decide +kernel
theorem dL_isWell_150 : decode cL_isWell 150 = .ok (.if_icmp .lt 82, 3) := by decide +kernel
theorem dL_isWell_153 : decode cL_isWell 153 = .ok (.aload_n 0, 1) := by decide +kernel
theorem dL_isWell_154 : decode cL_isWell 154 = .ok (.iload 7, 2) := by decide +kernel
theorem dL_isWell_156 : decode cL_isWell 156 = .ok (.iconst 3, 1) := by decide +kernel
theorem dL_isWell_157 : decode cL_isWell 157 = .ok (.invokevirtual 53, 3) := by decide +kernel
theorem dL_isWell_160 : decode cL_isWell 160 = .ok (.aload_n 0, 1) := by decide +kernel
theorem dL_isWell_161 : decode cL_isWell 161 = .ok (.iload 7, 2) := by decide +kernel
theorem dL_isWell_163 : decode cL_isWell 163 = .ok (.iconst 1, 1) := by decide +kernel
theorem dL_isWell_164 : decode cL_isWell 164 = .ok (.isub, 1) := by decide +kernel
theorem dL_isWell_165 : decode cL_isWell 165 = .ok (.iconst 3, 1) := by decide +kernel
theorem dL_isWell_166 : decode cL_isWell 166 = .ok (.invokevirtual 53, 3) := by decide +kernel
theorem dL_isWell_169 : decode cL_isWell 169 = .ok (.iconst 1, 1) := by decide +kernel
theorem dL_isWell_170 : decode cL_isWell 170 = .ok (.iadd, 1) := by decide +kernel
theorem dL_isWell_171 : decode cL_isWell 171 = .ok (.if_icmp .gt 61, 3) := by decide +kernel
theorem dL_isWell_174 : decode cL_isWell 174 = .ok (.aload_n 0, 1) := by decide +kernel
theorem dL_isWell_175 : decode cL_isWell 175 = .ok (.iload 7, 2) := by decide +kernel
theorem dL_isWell_177 : decode cL_isWell 177 = .ok (.iload 7, 2) := by decide +kernel
theorem dL_isWell_179 : decode cL_isWell 179 = .ok (.invokevirtual 94, 3) := by decide +kernel
theorem dL_isWell_182 : decode cL_isWell 182 = .ok (.aload_n 0, 1) := by decide +kernel
theorem dL_isWell_183 : decode cL_isWell 183 = .ok (.iload 7, 2) := by decide +kernel
theorem dL_isWell_185 : decode cL_isWell 185 = .ok (.iconst 1, 1) := by decide +kernel
theorem dL_isWell_186 : decode cL_isWell 186 = .ok (.invokevirtual 53, 3) := by decide +kernel
theorem dL_isWell_189 : decode cL_isWell 189 = .ok (.if_icmp .gt 43, 3) := by decide +kernel
theorem dL_isWell_192 : decode cL_isWell 192 = .ok (.iload 7, 2) := by decide +kernel
theorem dL_isWell_194 : decode cL_isWell 194 = .ok (.ifCond .eq 34, 3) := by decide +kernel
theorem dL_isWell_197 : decode cL_isWell 197 = .ok (.aload_n 0, 1) := by decide +kernel
theorem dL_isWell_198 : decode cL_isWell 198 = .ok (.iload 7, 2) := by decide +kernel
theorem dL_isWell_200 : decode cL_isWell 200 = .ok (.iconst 1, 1) := by decide +kernel
theorem dL_isWell_201 : decode cL_isWell 201 = .ok (.isub, 1) := by decide +kernel
theorem dL_isWell_202 : decode cL_isWell 202 = .ok (.iload 7, 2) := by decide +kernel
theorem dL_isWell_204 : decode cL_isWell 204 = .ok (.invokevirtual 94, 3) := by decide +kernel
theorem dL_isWell_207 : decode cL_isWell 207 = .ok (.aload_n 0, 1) := by decide +kernel
theorem dL_isWell_208 : decode cL_isWell 208 = .ok (.iload 7, 2) := by decide +kernel
theorem dL_isWell_210 : decode cL_isWell 210 = .ok (.iconst 1, 1) := by decide +kernel
theorem dL_isWell_211 : decode cL_isWell 211 = .ok (.isub, 1) := by decide +kernel
theorem dL_isWell_212 : decode cL_isWell 212 = .ok (.iload 7, 2) := by decide +kernel
theorem dL_isWell_214 : decode cL_isWell 214 = .ok (.iconst 1, 1) := by decide +kernel
theorem dL_isWell_215 : decode cL_isWell 215 = .ok (.isub, 1) := by decide +kernel
theorem dL_isWell_216 : decode cL_isWell 216 = .ok (.invokevirtual 94, 3) := by decide +kernel
theorem dL_isWell_219 : decode cL_isWell 219 = .ok (.aload_n 0, 1) := by decide +kernel
theorem dL_isWell_220 : decode cL_isWell 220 = .ok (.iconst 1, 1) := by decide +kernel
theorem dL_isWell_221 : decode cL_isWell 221 = .ok (.invokevirtual 28, 3) := by decide +kernel
theorem dL_isWell_224 : decode cL_isWell 224 = .ok (.iadd, 1) := by decide +kernel
theorem dL_isWell_225 : decode cL_isWell 225 = .ok (.if_icmp .lt 7, 3) := by decide +kernel
theorem dL_isWell_228 : decode cL_isWell 228 = .ok (.iconst 1, 1) := by decide +kernel
theorem dL_isWell_229 : decode cL_isWell 229 = .ok (.goto 4, 3) := by decide +kernel
theorem dL_isWell_232 : decode cL_isWell 232 = .ok (.iconst 0, 1) := by decide +kernel
theorem dL_isWell_233 : decode cL_isWell 233 = .ok (.istore 6, 2) := by decide +kernel
theorem dL_isWell_235 : decode cL_isWell 235 = .ok (.iinc 7 1, 3) := by decide +kernel
theorem dL_isWell_238 : decode cL_isWell 238 = .ok (.goto (-158), 3) := by decide +kernel
theorem dL_isWell_241 : decode cL_isWell 241 = .ok (.iconst 0, 1) := by decide +kernel
theorem dL_isWell_242 : decode cL_isWell 242 = .ok (.istore 7, 2) := by decide +kernel
theorem dL_isWell_244 : decode cL_isWell 244 = .ok (.iload 7, 2) := by decide +kernel
theorem dL_isWell_246 : decode cL_isWell 246 = .ok (.bipush 8, 2) := by decide +kernel
theorem dL_isWell_248 : decode cL_isWell 248 = .ok (.if_icmp .ge 111, 3) := by decide +kernel
theorem dL_isWell_251 : decode cL_isWell 251 = .ok (.aload_n 0, 1) := by decide +kernel
theorem dL_isWell_252 : decode cL_isWell 252 = .ok (.iload 7, 2) := by decide +kernel
theorem dL_isWell_254 : decode cL_isWell 254 = .ok (.iconst 5, 1) := by decide +kernel
theorem dL_isWell_255 : decode cL_isWell 255 = .ok (.invokevirtual 46, 3) := by decide +kernel
theorem dL_isWell_258 : decode cL_isWell 258 = .ok (.istore 8, 2) := by decide +kernel
theorem dL_isWell_260 : decode cL_isWell 260 = .ok (.iload_n 3, 1) := by decide +kernel
theorem dL_isWell_261 : decode cL_isWell 261 = .ok (.iload 8, 2) := by decide +kernel
theorem dL_isWell_263 : decode cL_isWell 263 = .ok (.iadd, 1) := by decide +kernel
theorem dL_isWell_264 : decode cL_isWell 264 = .ok (.istore_n 3, 1) := by decide +kernel
theorem dL_isWell_265 : decode cL_isWell 265 = .ok (.iload 4, 2) := by decide +kernel
theorem dL_isWell_267 : decode cL_isWell 267 = .ok (.iload 8, 2) := by decide +kernel
theorem dL_isWell_269 : decode cL_isWell 269 = .ok (.aload_n 0, 1) := by decide +kernel
theorem dL_isWell_270 : decode cL_isWell 270 = .ok (.iload 7, 2) := by decide +kernel
theorem dL_isWell_272 : decode cL_isWell 272 = .ok (.iconst 0, 1) := by decide +kernel
theorem dL_isWell_273 : decode cL_isWell 273 = .ok (.invokevirtual 46, 3) := by decide +kernel
theorem dL_isWell_276 : decode cL_isWell 276 = .ok (.imul, 1) := by decide +kernel
theorem dL_isWell_277 : decode cL_isWell 277 = .ok (.iadd, 1) := by decide +kernel
theorem dL_isWell_278 : decode cL_isWell 278 = .ok (.istore 4, 2) := by decide +kernel
theorem dL_isWell_280 : decode cL_isWell 280 = .ok (.iload 6, 2) := by decide +kernel
theorem dL_isWell_282 : decode cL_isWell 282 = .ok (.ifCond .eq 68, 3) := by decide +kernel
theorem dL_isWell_285 : decode cL_isWell 285 = .ok (.aload_n 0, 1) := by decide +kernel
theorem dL_isWell_286 : decode cL_isWell 286 = .ok (.iload 7, 2) := by decide +kernel
theorem dL_isWell_288 : decode cL_isWell 288 = .ok (.iconst 3, 1) := by decide +kernel
theorem dL_isWell_289 : decode cL_isWell 289 = .ok (.invokevirtual 46, 3) := by decide +kernel
theorem dL_isWell_292 : decode cL_isWell 292 = .ok (.aload_n 0, 1) := by decide +kernel
theorem dL_isWell_293 : decode cL_isWell 293 = .ok (.iload 7, 2) := by decide +kernel
theorem dL_isWell_295 : decode cL_isWell 295 = .ok (.iconst 0, 1) := by decide +kernel
theorem dL_isWell_296 : decode cL_isWell 296 = .ok (.invokevirtual 46, 3) := by decide +kernel
theorem dL_isWell_299 : decode cL_isWell 299 = .ok (.if_icmp .gt 51, 3) := by decide +kernel
theorem dL_isWell_302 : decode cL_isWell 302 = .ok (.aload_n 0, 1) := by decide +kernel
theorem dL_isWell_303 : decode cL_isWell 303 = .ok (.iload 7, 2) := by decide +kernel
theorem dL_isWell_305 : decode cL_isWell 305 = .ok (.iconst 4, 1) := by decide +kernel
theorem dL_isWell_306 : decode cL_isWell 306 = .ok (.invokevirtual 46, 3) := by decide +kernel
theorem dL_isWell_309 : decode cL_isWell 309 = .ok (.aload_n 0, 1) := by decide +kernel
theorem dL_isWell_310 : decode cL_isWell 310 = .ok (.iload 7, 2) := by decide +kernel
theorem dL_isWell_312 : decode cL_isWell 312 = .ok (.iconst 0, 1) := by decide +kernel
theorem dL_isWell_313 : decode cL_isWell 313 = .ok (.invokevirtual 46, 3) := by decide +kernel
theorem dL_isWell_316 : decode cL_isWell 316 = .ok (.if_icmp .gt 34, 3) := by decide +kernel
theorem dL_isWell_319 : decode cL_isWell 319 = .ok (.aload_n 0, 1) := by decide +kernel
theorem dL_isWell_320 : decode cL_isWell 320 = .ok (.iconst 3, 1) := by decide +kernel
theorem dL_isWell_321 : decode cL_isWell 321 = .ok (.invokevirtual 28, 3) := by decide +kernel
theorem dL_isWell_324 : decode cL_isWell 324 = .ok (.iconst 1, 1) := by decide +kernel
theorem dL_isWell_325 : decode cL_isWell 325 = .ok (.if_icmp .eq 21, 3) := by decide +kernel
theorem dL_isWell_328 : decode cL_isWell 328 = .ok (.aload_n 0, 1) := by decide +kernel
theorem dL_isWell_329 : decode cL_isWell 329 = .ok (.iload 7, 2) := by decide +kernel
theorem dL_isWell_331 : decode cL_isWell 331 = .ok (.iconst 3, 1) := by decide +kernel
theorem dL_isWell_332 : decode cL_isWell 332 = .ok (.invokevirtual 46, 3) := by decide +kernel
theorem dL_isWell_335 : decode cL_isWell 335 = .ok (.aload_n 0, 1) := by decide +kernel
theorem dL_isWell_336 : decode cL_isWell 336 = .ok (.iload 7, 2) := by decide +kernel
theorem dL_isWell_338 : decode cL_isWell 338 = .ok (.iconst 4, 1) := by decide +kernel
theorem dL_isWell_339 : decode cL_isWell 339 = .ok (.invokevirtual 46, 3) := by decide +kernel
theorem dL_isWell_342 : decode cL_isWell 342 = .ok (.iadd, 1) := by decide +kernel
theorem dL_isWell_343 : decode cL_isWell 343 = .ok (.ifCond .ne 7, 3) := by decide +kernel
theorem dL_isWell_346 : decode cL_isWell 346 = .ok (.iconst 1, 1) := by decide +kernel
theorem dL_isWell_347 : decode cL_isWell 347 = .ok (.goto 4, 3) := by decide +kernel
theorem dL_isWell_350 : decode cL_isWell 350 = .ok (.iconst 0, 1) := by decide +kernel
theorem dL_isWell_351 : decode cL_isWell 351 = .ok (.istore 6, 2) := by decide +kernel
theorem dL_isWell_353 : decode cL_isWell 353 = .ok (.iinc 7 1, 3) := by decide +kernel
theorem dL_isWell_356 : decode cL_isWell 356 = .ok (.goto (-112), 3) := by decide +kernel
theorem dL_isWell_359 : decode cL_isWell 359 = .ok (.iconst 0, 1) := by decide +kernel
theorem dL_isWell_360 : decode cL_isWell 360 = .ok (.istore 7, 2) := by decide +kernel
theorem dL_isWell_362 : decode cL_isWell 362 = .ok (.iconst 0, 1) := by decide +kernel
theorem dL_isWell_363 : decode cL_isWell 363 = .ok (.istore 8, 2) := by decide +kernel
theorem dL_isWell_365 : decode cL_isWell 365 = .ok (.iload 8, 2) := by decide +kernel
theorem dL_isWell_367 : decode cL_isWell 367 = .ok (.aload_n 0, 1) := by decide +kernel
theorem dL_isWell_368 : decode cL_isWell 368 = .ok (.iconst 1, 1) := by decide +kernel
theorem dL_isWell_369 : decode cL_isWell 369 = .ok (.iconst 0, 1) := by decide +kernel
theorem dL_isWell_370 : decode cL_isWell 370 = .ok (.invokevirtual 62, 3) := by decide +kernel
theorem dL_isWell_373 : decode cL_isWell 373 = .ok (.if_icmp .ge 39, 3) := by decide +kernel
theorem dL_isWell_376 : decode cL_isWell 376 = .ok (.iload 7, 2) := by decide +kernel
theorem dL_isWell_378 : decode cL_isWell 378 = .ok (.aload_n 0, 1) := by decide +kernel
theorem dL_isWell_379 : decode cL_isWell 379 = .ok (.iconst 1, 1) := by decide +kernel
theorem dL_isWell_380 : decode cL_isWell 380 = .ok (.iload 8, 2) := by decide +kernel
theorem dL_isWell_382 : decode cL_isWell 382 = .ok (.iconst 2, 1) := by decide +kernel
theorem dL_isWell_383 : decode cL_isWell 383 = .ok (.invokevirtual 87, 3) := by decide +kernel
theorem dL_isWell_386 : decode cL_isWell 386 = .ok (.aload_n 0, 1) := by decide +kernel
theorem dL_isWell_387 : decode cL_isWell 387 = .ok (.iconst 1, 1) := by decide +kernel
theorem dL_isWell_388 : decode cL_isWell 388 = .ok (.iload 8, 2) := by decide +kernel
theorem dL_isWell_390 : decode cL_isWell 390 = .ok (.iconst 1, 1) := by decide +kernel
theorem dL_isWell_391 : decode cL_isWell 391 = .ok (.invokevirtual 87, 3) := by decide +kernel
theorem dL_isWell_394 : decode cL_isWell 394 = .ok (.iconst 1, 1) := by decide +kernel
theorem dL_isWell_395 : decode cL_isWell 395 = .ok (.isub, 1) := by decide +kernel
theorem dL_isWell_396 : decode cL_isWell 396 = .ok (.aload_n 0, 1) := by decide +kernel
theorem dL_isWell_397 : decode cL_isWell 397 = .ok (.iconst 1, 1) := by decide +kernel
theorem dL_isWell_398 : decode cL_isWell 398 = .ok (.invokevirtual 28, 3) := by decide +kernel
theorem dL_isWell_401 : decode cL_isWell 401 = .ok (.imul, 1) := by decide +kernel
theorem dL_isWell_402 : decode cL_isWell 402 = .ok (.isub, 1) := by decide +kernel
theorem dL_isWell_403 : decode cL_isWell 403 = .ok (.iadd, 1) := by decide +kernel
theorem dL_isWell_404 : decode cL_isWell 404 = .ok (.istore 7, 2) := by decide +kernel
theorem dL_isWell_406 : decode cL_isWell 406 = .ok (.iinc 8 1, 3) := by decide +kernel
theorem dL_isWell_409 : decode cL_isWell 409 = .ok (.goto (-44), 3) := by decide +kernel
theorem dL_isWell_412 : decode cL_isWell 412 = .ok (.iload 6, 2) := by decide +kernel
theorem dL_isWell_414 : decode cL_isWell 414 = .ok (.ifCond .eq 95, 3) := by decide +kernel
theorem dL_isWell_417 : decode cL_isWell 417 = .ok (.iload_n 1, 1) := by decide +kernel
theorem dL_isWell_418 : decode cL_isWell 418 = .ok (.aload_n 0, 1) := by decide +kernel
theorem dL_isWell_419 : decode cL_isWell 419 = .ok (.iconst 5, 1) := by decide +kernel
theorem dL_isWell_420 : decode cL_isWell 420 = .ok (.invokevirtual 28, 3) := by decide +kernel
theorem dL_isWell_423 : decode cL_isWell 423 = .ok (.if_icmp .ne 86, 3) := by decide +kernel
theorem dL_isWell_426 : decode cL_isWell 426 = .ok (.iload_n 3, 1) := by decide +kernel
theorem dL_isWell_427 : decode cL_isWell 427 = .ok (.iload_n 1, 1) := by decide +kernel
theorem dL_isWell_428 : decode cL_isWell 428 = .ok (.if_icmp .ne 81, 3) := by decide +kernel
theorem dL_isWell_431 : decode cL_isWell 431 = .ok (.iload 4, 2) := by decide +kernel
theorem dL_isWell_433 : decode cL_isWell 433 = .ok (.iload_n 2, 1) := by decide +kernel
theorem dL_isWell_434 : decode cL_isWell 434 = .ok (.if_icmp .ne 75, 3) := by decide +kernel
theorem dL_isWell_437 : decode cL_isWell 437 = .ok (.iload 7, 2) := by decide +kernel
theorem dL_isWell_439 : decode cL_isWell 439 = .ok (.iload_n 2, 1) := by decide +kernel
theorem dL_isWell_440 : decode cL_isWell 440 = .ok (.if_icmp .ne 69, 3) := by decide +kernel
theorem dL_isWell_443 : decode cL_isWell 443 = .ok (.iload_n 1, 1) := by decide +kernel
theorem dL_isWell_444 : decode cL_isWell 444 = .ok (.aload_n 0, 1) := by decide +kernel
theorem dL_isWell_445 : decode cL_isWell 445 = .ok (.iconst 0, 1) := by decide +kernel
theorem dL_isWell_446 : decode cL_isWell 446 = .ok (.iconst 5, 1) := by decide +kernel
theorem dL_isWell_447 : decode cL_isWell 447 = .ok (.invokevirtual 46, 3) := by decide +kernel
theorem dL_isWell_450 : decode cL_isWell 450 = .ok (.isub, 1) := by decide +kernel
theorem dL_isWell_451 : decode cL_isWell 451 = .ok (.aload_n 0, 1) := by decide +kernel
theorem dL_isWell_452 : decode cL_isWell 452 = .ok (.bipush 6, 2) := by decide +kernel
theorem dL_isWell_454 : decode cL_isWell 454 = .ok (.invokevirtual 28, 3) := by decide +kernel
theorem dL_isWell_457 : decode cL_isWell 457 = .ok (.if_icmp .ne 52, 3) := by decide +kernel
theorem dL_isWell_460 : decode cL_isWell 460 = .ok (.iload 5, 2) := by decide +kernel
theorem dL_isWell_462 : decode cL_isWell 462 = .ok (.ifCond .eq 43, 3) := by decide +kernel
theorem dL_isWell_465 : decode cL_isWell 465 = .ok (.aload_n 0, 1) := by decide +kernel
theorem dL_isWell_466 : decode cL_isWell 466 = .ok (.iload 5, 2) := by decide +kernel
theorem dL_isWell_468 : decode cL_isWell 468 = .ok (.iconst 1, 1) := by decide +kernel
theorem dL_isWell_469 : decode cL_isWell 469 = .ok (.isub, 1) := by decide +kernel
theorem dL_isWell_470 : decode cL_isWell 470 = .ok (.iconst 2, 1) := by decide +kernel
theorem dL_isWell_471 : decode cL_isWell 471 = .ok (.invokevirtual 53, 3) := by decide +kernel
theorem dL_isWell_474 : decode cL_isWell 474 = .ok (.aload_n 0, 1) := by decide +kernel
theorem dL_isWell_475 : decode cL_isWell 475 = .ok (.iconst 0, 1) := by decide +kernel
theorem dL_isWell_476 : decode cL_isWell 476 = .ok (.iconst 0, 1) := by decide +kernel
theorem dL_isWell_477 : decode cL_isWell 477 = .ok (.invokevirtual 62, 3) := by decide +kernel
theorem dL_isWell_480 : decode cL_isWell 480 = .ok (.iconst 1, 1) := by decide +kernel
theorem dL_isWell_481 : decode cL_isWell 481 = .ok (.isub, 1) := by decide +kernel
theorem dL_isWell_482 : decode cL_isWell 482 = .ok (.if_icmp .ne 27, 3) := by decide +kernel
theorem dL_isWell_485 : decode cL_isWell 485 = .ok (.aload_n 0, 1) := by decide +kernel
theorem dL_isWell_486 : decode cL_isWell 486 = .ok (.iload 5, 2) := by decide +kernel
theorem dL_isWell_488 : decode cL_isWell 488 = .ok (.iconst 1, 1) := by decide +kernel
theorem dL_isWell_489 : decode cL_isWell 489 = .ok (.isub, 1) := by decide +kernel
theorem dL_isWell_490 : decode cL_isWell 490 = .ok (.iconst 3, 1) := by decide +kernel
theorem dL_isWell_491 : decode cL_isWell 491 = .ok (.invokevirtual 53, 3) := by decide +kernel
theorem dL_isWell_494 : decode cL_isWell 494 = .ok (.aload_n 0, 1) := by decide +kernel
theorem dL_isWell_495 : decode cL_isWell 495 = .ok (.iconst 1, 1) := by decide +kernel
theorem dL_isWell_496 : decode cL_isWell 496 = .ok (.iconst 0, 1) := by decide +kernel
theorem dL_isWell_497 : decode cL_isWell 497 = .ok (.invokevirtual 62, 3) := by decide +kernel
theorem dL_isWell_500 : decode cL_isWell 500 = .ok (.iconst 1, 1) := by decide +kernel
theorem dL_isWell_501 : decode cL_isWell 501 = .ok (.isub, 1) := by decide +kernel
theorem dL_isWell_502 : decode cL_isWell 502 = .ok (.if_icmp .ne 7, 3) := by decide +kernel
theorem dL_isWell_505 : decode cL_isWell 505 = .ok (.iconst 1, 1) := by decide +kernel
theorem dL_isWell_506 : decode cL_isWell 506 = .ok (.goto 4, 3) := by decide +kernel
theorem dL_isWell_509 : decode cL_isWell 509 = .ok (.iconst 0, 1) := by decide +kernel
theorem dL_isWell_510 : decode cL_isWell 510 = .ok (.ireturn, 1) := by decide +kernel
theorem dL_law_0 : decode cL_law 0 = .ok (.new 19, 3) := by decide +kernel
theorem dL_law_3 : decode cL_law 3 = .ok (.dup, 1) := by decide +kernel
theorem dL_law_4 : decode cL_law 4 = .ok (.invokespecial 97, 3) := by decide +kernel
theorem dL_law_7 : decode cL_law 7 = .ok (.astore_n 1, 1) := by decide +kernel
theorem dL_law_8 : decode cL_law 8 = .ok (.new 19, 3) := by decide +kernel
theorem dL_law_11 : decode cL_law 11 = .ok (.dup, 1) := by decide +kernel
theorem dL_law_12 : decode cL_law 12 = .ok (.invokespecial 97, 3) := by decide +kernel
theorem dL_law_15 : decode cL_law 15 = .ok (.astore_n 2, 1) := by decide +kernel
theorem dL_law_16 : decode cL_law 16 = .ok (.iconst 1, 1) := by decide +kernel
theorem dL_law_17 : decode cL_law 17 = .ok (.istore_n 3, 1) := by decide +kernel
theorem dL_law_18 : decode cL_law 18 = .ok (.iconst 1, 1) := by decide +kernel
theorem dL_law_19 : decode cL_law 19 = .ok (.istore 4, 2) := by decide +kernel
theorem dL_law_21 : decode cL_law 21 = .ok (.iload 4, 2) := by decide +kernel
theorem dL_law_23 : decode cL_law 23 = .ok (.bipush 7, 2) := by decide +kernel
theorem dL_law_25 : decode cL_law 25 = .ok (.if_icmp .ge 68, 3) := by decide +kernel
theorem dL_law_28 : decode cL_law 28 = .ok (.iload_n 3, 1) := by decide +kernel
theorem dL_law_29 : decode cL_law 29 = .ok (.ifCond .eq 56, 3) := by decide +kernel
theorem dL_law_32 : decode cL_law 32 = .ok (.aload_n 2, 1) := by decide +kernel
theorem dL_law_33 : decode cL_law 33 = .ok (.iload 4, 2) := by decide +kernel
theorem dL_law_35 : decode cL_law 35 = .ok (.aload_n 1, 1) := by decide +kernel
theorem dL_law_36 : decode cL_law 36 = .ok (.iload 4, 2) := by decide +kernel
theorem dL_law_38 : decode cL_law 38 = .ok (.invokestatic 9, 3) := by decide +kernel
theorem dL_law_41 : decode cL_law 41 = .ok (.iconst 0, 1) := by decide +kernel
theorem dL_law_42 : decode cL_law 42 = .ok (.invokevirtual 46, 3) := by decide +kernel
theorem dL_law_45 : decode cL_law 45 = .ok (.aload_n 1, 1) := by decide +kernel
theorem dL_law_46 : decode cL_law 46 = .ok (.iload 4, 2) := by decide +kernel
theorem dL_law_48 : decode cL_law 48 = .ok (.invokestatic 9, 3) := by decide +kernel
theorem dL_law_51 : decode cL_law 51 = .ok (.iconst 1, 1) := by decide +kernel
theorem dL_law_52 : decode cL_law 52 = .ok (.invokevirtual 46, 3) := by decide +kernel
theorem dL_law_55 : decode cL_law 55 = .ok (.aload_n 1, 1) := by decide +kernel
theorem dL_law_56 : decode cL_law 56 = .ok (.iload 4, 2) := by decide +kernel
theorem dL_law_58 : decode cL_law 58 = .ok (.invokestatic 9, 3) := by decide +kernel
theorem dL_law_61 : decode cL_law 61 = .ok (.iconst 2, 1) := by decide +kernel
theorem dL_law_62 : decode cL_law 62 = .ok (.invokevirtual 46, 3) := by decide +kernel
theorem dL_law_65 : decode cL_law 65 = .ok (.invokevirtual 49, 3) := by decide +kernel
theorem dL_law_68 : decode cL_law 68 = .ok (.ifCond .le 17, 3) := by decide +kernel
theorem dL_law_71 : decode cL_law 71 = .ok (.aload_n 1, 1) := by decide +kernel
theorem dL_law_72 : decode cL_law 72 = .ok (.iconst 3, 1) := by decide +kernel
theorem dL_law_73 : decode cL_law 73 = .ok (.iconst 1, 1) := by decide +kernel
theorem dL_law_74 : decode cL_law 74 = .ok (.invokevirtual 43, 3) := by decide +kernel
theorem dL_law_77 : decode cL_law 77 = .ok (.iconst 1, 1) := by decide +kernel
theorem dL_law_78 : decode cL_law 78 = .ok (.if_icmp .ne 7, 3) := by decide +kernel
theorem dL_law_81 : decode cL_law 81 = .ok (.iconst 1, 1) := by decide +kernel
theorem dL_law_82 : decode cL_law 82 = .ok (.goto 4, 3) := by decide +kernel
theorem dL_law_85 : decode cL_law 85 = .ok (.iconst 0, 1) := by decide +kernel
theorem dL_law_86 : decode cL_law 86 = .ok (.istore_n 3, 1) := by decide +kernel
theorem dL_law_87 : decode cL_law 87 = .ok (.iinc 4 1, 3) := by decide +kernel
theorem dL_law_90 : decode cL_law 90 = .ok (.goto (-69), 3) := by decide +kernel
theorem dL_law_93 : decode cL_law 93 = .ok (.iconst 0, 1) := by decide +kernel
theorem dL_law_94 : decode cL_law 94 = .ok (.istore 4, 2) := by decide +kernel
theorem dL_law_96 : decode cL_law 96 = .ok (.iload 4, 2) := by decide +kernel
theorem dL_law_98 : decode cL_law 98 = .ok (.bipush 44, 2) := by decide +kernel
theorem dL_law_100 : decode cL_law 100 = .ok (.if_icmp .ge 57, 3) := by decide +kernel
theorem dL_law_103 : decode cL_law 103 = .ok (.iload_n 3, 1) := by decide +kernel
theorem dL_law_104 : decode cL_law 104 = .ok (.ifCond .eq 53, 3) := by decide +kernel
theorem dL_law_107 : decode cL_law 107 = .ok (.aload_n 1, 1) := by decide +kernel
theorem dL_law_108 : decode cL_law 108 = .ok (.aload_n 2, 1) := by decide +kernel
theorem dL_law_109 : decode cL_law 109 = .ok (.aload_n 0, 1) := by decide +kernel
theorem dL_law_110 : decode cL_law 110 = .ok (.iload 4, 2) := by decide +kernel
theorem dL_law_112 : decode cL_law 112 = .ok (.invokestatic 98, 3) := by decide +kernel
theorem dL_law_115 : decode cL_law 115 = .ok (.aload_n 0, 1) := by decide +kernel
theorem dL_law_116 : decode cL_law 116 = .ok (.iload 4, 2) := by decide +kernel
theorem dL_law_118 : decode cL_law 118 = .ok (.iconst 1, 1) := by decide +kernel
theorem dL_law_119 : decode cL_law 119 = .ok (.iadd, 1) := by decide +kernel
theorem dL_law_120 : decode cL_law 120 = .ok (.invokestatic 98, 3) := by decide +kernel
theorem dL_law_123 : decode cL_law 123 = .ok (.iconst 2, 1) := by decide +kernel
theorem dL_law_124 : decode cL_law 124 = .ok (.ishr, 1) := by decide +kernel
theorem dL_law_125 : decode cL_law 125 = .ok (.invokestatic 102, 3) := by decide +kernel
theorem dL_law_128 : decode cL_law 128 = .ok (.ifCond .eq 21, 3) := by decide +kernel
theorem dL_law_131 : decode cL_law 131 = .ok (.iload 4, 2) := by decide +kernel
theorem dL_law_133 : decode cL_law 133 = .ok (.iconst 3, 1) := by decide +kernel
theorem dL_law_134 : decode cL_law 134 = .ok (.irem, 1) := by decide +kernel
theorem dL_law_135 : decode cL_law 135 = .ok (.ifCond .gt 10, 3) := by decide +kernel
theorem dL_law_138 : decode cL_law 138 = .ok (.aload_n 1, 1) := by decide +kernel
theorem dL_law_139 : decode cL_law 139 = .ok (.invokestatic 105, 3) := by decide +kernel
theorem dL_law_142 : decode cL_law 142 = .ok (.ifCond .eq 7, 3) := by decide +kernel
theorem dL_law_145 : decode cL_law 145 = .ok (.iconst 1, 1) := by decide +kernel
theorem dL_law_146 : decode cL_law 146 = .ok (.goto 4, 3) := by decide +kernel
theorem dL_law_149 : decode cL_law 149 = .ok (.iconst 0, 1) := by decide +kernel
theorem dL_law_150 : decode cL_law 150 = .ok (.istore_n 3, 1) := by decide +kernel
theorem dL_law_151 : decode cL_law 151 = .ok (.iinc 4 1, 3) := by decide +kernel
theorem dL_law_154 : decode cL_law 154 = .ok (.goto (-58), 3) := by decide +kernel
theorem dL_law_157 : decode cL_law 157 = .ok (.iload_n 3, 1) := by decide +kernel
theorem dL_law_158 : decode cL_law 158 = .ok (.ifCond .eq 28, 3) := by decide +kernel
theorem dL_law_161 : decode cL_law 161 = .ok (.aload_n 1, 1) := by decide +kernel
theorem dL_law_162 : decode cL_law 162 = .ok (.invokestatic 105, 3) := by decide +kernel
theorem dL_law_165 : decode cL_law 165 = .ok (.ifCond .eq 21, 3) := by decide +kernel
theorem dL_law_168 : decode cL_law 168 = .ok (.aload_n 1, 1) := by decide +kernel
theorem dL_law_169 : decode cL_law 169 = .ok (.aload_n 2, 1) := by decide +kernel
theorem dL_law_170 : decode cL_law 170 = .ok (.aload_n 0, 1) := by decide +kernel
theorem dL_law_171 : decode cL_law 171 = .ok (.bipush 44, 2) := by decide +kernel
theorem dL_law_173 : decode cL_law 173 = .ok (.invokestatic 98, 3) := by decide +kernel
theorem dL_law_176 : decode cL_law 176 = .ok (.invokestatic 109, 3) := by decide +kernel
theorem dL_law_179 : decode cL_law 179 = .ok (.ifCond .eq 7, 3) := by decide +kernel
theorem dL_law_182 : decode cL_law 182 = .ok (.iconst 1, 1) := by decide +kernel
theorem dL_law_183 : decode cL_law 183 = .ok (.goto 4, 3) := by decide +kernel
theorem dL_law_186 : decode cL_law 186 = .ok (.iconst 0, 1) := by decide +kernel
theorem dL_law_187 : decode cL_law 187 = .ok (.ireturn, 1) := by decide +kernel
end
section
theorem k0 : Cond.selects RX4 yX4_broken yX4_broken ∈ gT := gT_i 0 (by decide +kernel) rfl
theorem k1 : Cond.selects RX1 yX1_findFirstLine yX1_findFirstLine ∈ gT := gT_i 1 (by decide +kernel) rfl
theorem k2 : Cond.selects RX1 yX1_badnessOf yX1_badnessOf ∈ gT := gT_i 2 (by decide +kernel) rfl
theorem k3 : Cond.selects RX4 yX4_isWord yX4_isWord ∈ gT := gT_i 3 (by decide +kernel) rfl
theorem k4 : Cond.selects RX4 yX4_leastBadnessOf yX4_leastBadnessOf ∈ gT := gT_i 4 (by decide +kernel) rfl
theorem k5 : Cond.initialized RL ∈ gT := gT_i 5 (by decide +kernel) rfl
theorem k6 : Cond.initialized RX4 ∈ gT := gT_i 6 (by decide +kernel) rfl
theorem k7 : Cond.initialized RX3 ∈ gT := gT_i 7 (by decide +kernel) rfl
theorem k8 : Cond.initialized RX1 ∈ gT := gT_i 8 (by decide +kernel) rfl
theorem k9 : Cond.initialized RX2 ∈ gT := gT_i 9 (by decide +kernel) rfl
theorem k10 : Cond.initialized RX0 ∈ gT := gT_i 10 (by decide +kernel) rfl
theorem k11 : Cond.initialized "java/lang/Math" ∈ gT := gT_i 11 (by decide +kernel) rfl
theorem k12 : Cond.initialized "java/lang/System" ∈ gT := gT_i 12 (by decide +kernel) rfl
theorem k13 : Cond.classLink RL 19 RX4 ∈ gT := gT_i 13 (by decide +kernel) rfl
theorem k14 : Cond.instantiable RX4 8 ∈ gT := gT_i 14 (by decide +kernel) rfl
theorem k15 : Cond.methodLink RL 97 yX4_init ∈ gT := gT_i 15 (by decide +kernel) rfl
theorem k16 : Cond.instanceMethod yX4_init ∈ gT := gT_i 16 (by decide +kernel) rfl
theorem k17 : Cond.code yX4_init cX4_init 1 none ∈ gT := gT_i 17 (by decide +kernel) rfl
theorem k18 : Cond.methodLink RX4 1 objectInit ∈ gT := gT_i 18 (by decide +kernel) rfl
theorem k19 : Cond.instanceMethod objectInit ∈ gT := gT_i 19 (by decide +kernel) rfl
theorem k20 : Cond.code objectInit ⟨#[0xb1]⟩ 1 none ∈ gT := gT_i 20 (by decide +kernel) rfl
theorem k21 : Cond.classLink RX4 7 RX3 ∈ gT := gT_i 21 (by decide +kernel) rfl
theorem k22 : Cond.instantiable RX3 7 ∈ gT := gT_i 22 (by decide +kernel) rfl
theorem k23 : Cond.methodLinkNest RX4 9 yX3_init RX4 ∈ lw_tbl := List.mem_of_getElem? (i := 23) (by decide +kernel)
theorem k24 : Cond.instanceMethod yX3_init ∈ gT := gT_i 24 (by decide +kernel) rfl
theorem k25 : Cond.code yX3_init cX3_init 1 none ∈ gT := gT_i 25 (by decide +kernel) rfl
theorem k26 : Cond.methodLink RX3 3 objectInit ∈ gT := gT_i 26 (by decide +kernel) rfl
theorem k27 : Cond.fieldLink RX3 9 "HungStops$Sheet" "settings" "[I" ∈ gT := gT_i 27 (by decide +kernel) rfl
theorem k28 : Cond.fieldLink RX1 49 "HungStops$Sheet" "settings" "[I" ∈ gT := gT_i 28 (by decide +kernel) rfl
theorem k29 : Cond.fieldLink RX4 62 "HungStops$Sheet" "settings" "[I" ∈ gT := gT_i 29 (by decide +kernel) rfl
theorem k30 : Cond.fieldLink RX3 15 "HungStops$Sheet" "widths" "[I" ∈ gT := gT_i 30 (by decide +kernel) rfl
theorem k31 : Cond.fieldLink RX4 72 "HungStops$Sheet" "widths" "[I" ∈ gT := gT_i 31 (by decide +kernel) rfl
theorem k32 : Cond.fieldLink RX3 18 "HungStops$Sheet" "lefts" "[I" ∈ gT := gT_i 32 (by decide +kernel) rfl
theorem k33 : Cond.fieldLink RX4 75 "HungStops$Sheet" "lefts" "[I" ∈ gT := gT_i 33 (by decide +kernel) rfl
theorem k34 : Cond.fieldLink RX3 21 "HungStops$Sheet" "rights" "[I" ∈ gT := gT_i 34 (by decide +kernel) rfl
theorem k35 : Cond.fieldLink RX4 78 "HungStops$Sheet" "rights" "[I" ∈ gT := gT_i 35 (by decide +kernel) rfl
theorem k36 : Cond.fieldLink RX3 24 "HungStops$Sheet" "signs" "[C" ∈ gT := gT_i 36 (by decide +kernel) rfl
theorem k37 : Cond.fieldLink RX3 28 "HungStops$Sheet" "lengths" "[I" ∈ gT := gT_i 37 (by decide +kernel) rfl
theorem k38 : Cond.fieldLink RX4 129 "HungStops$Sheet" "lengths" "[I" ∈ gT := gT_i 38 (by decide +kernel) rfl
theorem k39 : Cond.fieldLink RX3 31 "HungStops$Sheet" "words" "I" ∈ gT := gT_i 39 (by decide +kernel) rfl
theorem k40 : Cond.fieldLink RX1 46 "HungStops$Sheet" "words" "I" ∈ gT := gT_i 40 (by decide +kernel) rfl
theorem k41 : Cond.fieldLink RX4 85 "HungStops$Sheet" "words" "I" ∈ gT := gT_i 41 (by decide +kernel) rfl
theorem k42 : Cond.arrayClass .int ∈ gT := gT_i 57 (by decide +kernel) rfl
theorem k43 : Cond.arrayClass .char ∈ gT := gT_i 58 (by decide +kernel) rfl
theorem k44 : Cond.classLink RX4 19 RX1 ∈ gT := gT_i 59 (by decide +kernel) rfl
theorem k45 : Cond.instantiable RX1 11 ∈ gT := gT_i 60 (by decide +kernel) rfl
theorem k46 : Cond.methodLinkNest RX4 21 yX1_init RX4 ∈ lw_tbl := List.mem_of_getElem? (i := 61) (by decide +kernel)
theorem k47 : Cond.instanceMethod yX1_init ∈ gT := gT_i 62 (by decide +kernel) rfl
theorem k48 : Cond.code yX1_init cX1_init 1 none ∈ gT := gT_i 63 (by decide +kernel) rfl
theorem k49 : Cond.methodLink RX1 3 objectInit ∈ gT := gT_i 64 (by decide +kernel) rfl
theorem k50 : Cond.fieldLink RX1 9 "HungStops$Layout" "places" "[I" ∈ gT := gT_i 65 (by decide +kernel) rfl
theorem k51 : Cond.fieldLink RX1 15 "HungStops$Layout" "leftHangs" "[I" ∈ gT := gT_i 66 (by decide +kernel) rfl
theorem k52 : Cond.fieldLink RX1 18 "HungStops$Layout" "rightHangs" "[I" ∈ gT := gT_i 67 (by decide +kernel) rfl
theorem k53 : Cond.fieldLink RX1 21 "HungStops$Layout" "words" "I" ∈ gT := gT_i 68 (by decide +kernel) rfl
theorem k54 : Cond.fieldLink RX1 25 "HungStops$Layout" "measure" "I" ∈ gT := gT_i 69 (by decide +kernel) rfl
theorem k55 : Cond.fieldLink RX4 174 "HungStops$Layout" "measure" "I" ∈ gT := gT_i 70 (by decide +kernel) rfl
theorem k56 : Cond.fieldLink RX1 28 "HungStops$Layout" "space" "I" ∈ gT := gT_i 71 (by decide +kernel) rfl
theorem k57 : Cond.fieldLink RX1 31 "HungStops$Layout" "loose" "I" ∈ gT := gT_i 72 (by decide +kernel) rfl
theorem k58 : Cond.fieldLink RX1 34 "HungStops$Layout" "starts" "[I" ∈ gT := gT_i 73 (by decide +kernel) rfl
theorem k59 : Cond.fieldLink RX1 37 "HungStops$Layout" "lines" "I" ∈ gT := gT_i 74 (by decide +kernel) rfl
theorem k60 : Cond.fieldLink RX4 117 "HungStops$Layout" "lines" "I" ∈ gT := gT_i 75 (by decide +kernel) rfl
theorem k61 : Cond.fieldLink RX1 40 "HungStops$Layout" "leastFrom" "[I" ∈ gT := gT_i 76 (by decide +kernel) rfl
theorem k62 : Cond.fieldLink RX1 43 "HungStops$Layout" "nextStart" "[I" ∈ gT := gT_i 77 (by decide +kernel) rfl
theorem k63 : Cond.classLink RX4 29 RX2 ∈ gT := gT_i 101 (by decide +kernel) rfl
theorem k64 : Cond.instantiable RX2 2 ∈ gT := gT_i 102 (by decide +kernel) rfl
theorem k65 : Cond.methodLinkNest RX4 31 yX2_init RX4 ∈ lw_tbl := List.mem_of_getElem? (i := 103) (by decide +kernel)
theorem k66 : Cond.instanceMethod yX2_init ∈ gT := gT_i 104 (by decide +kernel) rfl
theorem k67 : Cond.code yX2_init cX2_init 1 none ∈ gT := gT_i 105 (by decide +kernel) rfl
theorem k68 : Cond.methodLink RX2 3 objectInit ∈ gT := gT_i 106 (by decide +kernel) rfl
theorem k69 : Cond.fieldLink RX2 9 "HungStops$Pad" "text" "[C" ∈ gT := gT_i 107 (by decide +kernel) rfl
theorem k70 : Cond.fieldLink RX2 15 "HungStops$Pad" "length" "I" ∈ gT := gT_i 108 (by decide +kernel) rfl
theorem k71 : Cond.fieldLink RX4 95 "HungStops$Pad" "length" "I" ∈ gT := gT_i 109 (by decide +kernel) rfl
theorem k72 : Cond.classLink RX4 36 RX0 ∈ gT := gT_i 115 (by decide +kernel) rfl
theorem k73 : Cond.instantiable RX0 3 ∈ gT := gT_i 116 (by decide +kernel) rfl
theorem k74 : Cond.methodLink RX4 38 yX0_init ∈ gT := gT_i 117 (by decide +kernel) rfl
theorem k75 : Cond.instanceMethod yX0_init ∈ gT := gT_i 118 (by decide +kernel) rfl
theorem k76 : Cond.code yX0_init cX0_init 2 none ∈ gT := gT_i 119 (by decide +kernel) rfl
theorem k77 : Cond.methodLink RX0 3 objectInit ∈ gT := gT_i 120 (by decide +kernel) rfl
theorem k78 : Cond.classLink RX0 9 RX3 ∈ gT := gT_i 121 (by decide +kernel) rfl
theorem k79 : Cond.arrayOver (.object "HungStops$Sheet") ∈ lw_tbl := List.mem_of_getElem? (i := 122) (by decide +kernel)
theorem k80 : Cond.methodLinkNest RX0 24 yX3_init RX4 ∈ lw_tbl := List.mem_of_getElem? (i := 123) (by decide +kernel)
theorem k81 : Cond.fieldLink RX0 11 "HungStops$History" "states" "[LHungStops$Sheet;" ∈ gT := gT_i 124 (by decide +kernel) rfl
theorem k82 : Cond.fieldLink RX0 17 "HungStops$History" "next" "I" ∈ gT := gT_i 125 (by decide +kernel) rfl
theorem k83 : Cond.fieldLink RX0 21 "HungStops$History" "size" "I" ∈ gT := gT_i 126 (by decide +kernel) rfl
theorem k84 : Cond.fieldLink RX4 165 "HungStops$History" "size" "I" ∈ gT := gT_i 127 (by decide +kernel) rfl
theorem k85 : Cond.fieldLink RX4 10 "HungStops" "now" "LHungStops$Sheet;" ∈ gT := gT_i 135 (by decide +kernel) rfl
theorem k86 : Cond.fieldLink RX4 16 "HungStops" "trial" "LHungStops$Sheet;" ∈ gT := gT_i 136 (by decide +kernel) rfl
theorem k87 : Cond.fieldLink RX4 22 "HungStops" "greedy" "LHungStops$Layout;" ∈ gT := gT_i 137 (by decide +kernel) rfl
theorem k88 : Cond.fieldLink RX4 26 "HungStops" "best" "LHungStops$Layout;" ∈ gT := gT_i 138 (by decide +kernel) rfl
theorem k89 : Cond.fieldLink RX4 32 "HungStops" "pad" "LHungStops$Pad;" ∈ gT := gT_i 139 (by decide +kernel) rfl
theorem k90 : Cond.fieldLink RX4 39 "HungStops" "history" "LHungStops$History;" ∈ gT := gT_i 140 (by decide +kernel) rfl
theorem k91 : Cond.fieldLink RX4 43 "HungStops" "slots" "[LHungStops$Sheet;" ∈ gT := gT_i 141 (by decide +kernel) rfl
theorem k92 : Cond.fieldLink RX4 47 "HungStops" "filled" "[Z" ∈ gT := gT_i 142 (by decide +kernel) rfl
theorem k93 : Cond.arrayClass .boolean ∈ gT := gT_i 160 (by decide +kernel) rfl
theorem k94 : Cond.methodLink RL 43 yX4_set ∈ gT := gT_i 161 (by decide +kernel) rfl
theorem k95 : Cond.instanceMethod yX4_set ∈ gT := gT_i 162 (by decide +kernel) rfl
theorem k96 : Cond.selects RX4 yX4_set yX4_set ∈ gT := gT_i 163 (by decide +kernel) rfl
theorem k97 : Cond.code yX4_set cX4_set 4 (some .int) ∈ gT := gT_i 164 (by decide +kernel) rfl
theorem k98 : Cond.fieldLink RX4 51 "HungStops" "LEAST_VALUE" "[I" ∈ gT := gT_i 165 (by decide +kernel) rfl
theorem k99 : Cond.laysStatic RX4 "LEAST_VALUE" "[I" ∈ lw_tbl := List.mem_of_getElem? (i := 166) (by decide +kernel)
theorem k100 : Cond.fieldLink RX4 55 "HungStops" "GREATEST_VALUE" "[I" ∈ gT := gT_i 167 (by decide +kernel) rfl
theorem k101 : Cond.laysStatic RX4 "GREATEST_VALUE" "[I" ∈ lw_tbl := List.mem_of_getElem? (i := 168) (by decide +kernel)
theorem k102 : Cond.methodLink RX4 58 yX0_record ∈ gT := gT_i 169 (by decide +kernel) rfl
theorem k103 : Cond.instanceMethod yX0_record ∈ gT := gT_i 170 (by decide +kernel) rfl
theorem k104 : Cond.selects RX0 yX0_record yX0_record ∈ gT := gT_i 171 (by decide +kernel) rfl
theorem k105 : Cond.code yX0_record cX0_record 2 none ∈ gT := gT_i 172 (by decide +kernel) rfl
theorem k106 : Cond.methodLink RX0 25 yX3_copyFrom ∈ gT := gT_i 173 (by decide +kernel) rfl
theorem k107 : Cond.instanceMethod yX3_copyFrom ∈ gT := gT_i 174 (by decide +kernel) rfl
theorem k108 : Cond.selects RX3 yX3_copyFrom yX3_copyFrom ∈ gT := gT_i 175 (by decide +kernel) rfl
theorem k109 : Cond.code yX3_copyFrom cX3_copyFrom 2 none ∈ gT := gT_i 176 (by decide +kernel) rfl
theorem k110 : Cond.methodLink RX3 35 arraycopyName ∈ gT := gT_i 177 (by decide +kernel) rfl
theorem k111 : Cond.static arraycopyName ∈ gT := gT_i 178 (by decide +kernel) rfl
theorem k112 : Cond.native arraycopyName ∈ gT := gT_i 179 (by decide +kernel) rfl
theorem k113 : Cond.methodLink RL 49 yX4_sort ∈ gT := gT_i 180 (by decide +kernel) rfl
theorem k114 : Cond.instanceMethod yX4_sort ∈ gT := gT_i 181 (by decide +kernel) rfl
theorem k115 : Cond.selects RX4 yX4_sort yX4_sort ∈ gT := gT_i 182 (by decide +kernel) rfl
theorem k116 : Cond.code yX4_sort cX4_sort 6 (some .int) ∈ gT := gT_i 183 (by decide +kernel) rfl
theorem k117 : Cond.methodLink RX4 65 yX4_isSort ∈ gT := gT_i 184 (by decide +kernel) rfl
theorem k118 : Cond.static yX4_isSort ∈ gT := gT_i 185 (by decide +kernel) rfl
theorem k119 : Cond.code yX4_isSort cX4_isSort 1 (some .boolean) ∈ gT := gT_i 186 (by decide +kernel) rfl
theorem k120 : Cond.methodLink RX4 69 yX4_isShare ∈ gT := gT_i 187 (by decide +kernel) rfl
theorem k121 : Cond.static yX4_isShare ∈ gT := gT_i 188 (by decide +kernel) rfl
theorem k122 : Cond.code yX4_isShare cX4_isShare 1 (some .boolean) ∈ gT := gT_i 189 (by decide +kernel) rfl
theorem k123 : Cond.methodLink RL 46 yX4_sortOf ∈ gT := gT_i 190 (by decide +kernel) rfl
theorem k124 : Cond.instanceMethod yX4_sortOf ∈ gT := gT_i 191 (by decide +kernel) rfl
theorem k125 : Cond.selects RX4 yX4_sortOf yX4_sortOf ∈ gT := gT_i 192 (by decide +kernel) rfl
theorem k126 : Cond.code yX4_sortOf cX4_sortOf 3 (some .int) ∈ gT := gT_i 193 (by decide +kernel) rfl
theorem k127 : Cond.methodLink RX4 120 yX3_hangAtLeft ∈ gT := gT_i 194 (by decide +kernel) rfl
theorem k128 : Cond.instanceMethod yX3_hangAtLeft ∈ gT := gT_i 195 (by decide +kernel) rfl
theorem k129 : Cond.selects RX3 yX3_hangAtLeft yX3_hangAtLeft ∈ gT := gT_i 196 (by decide +kernel) rfl
theorem k130 : Cond.code yX3_hangAtLeft cX3_hangAtLeft 2 (some .int) ∈ gT := gT_i 197 (by decide +kernel) rfl
theorem k131 : Cond.methodLink RX4 123 yX3_hangAtRight ∈ gT := gT_i 198 (by decide +kernel) rfl
theorem k132 : Cond.instanceMethod yX3_hangAtRight ∈ gT := gT_i 199 (by decide +kernel) rfl
theorem k133 : Cond.selects RX3 yX3_hangAtRight yX3_hangAtRight ∈ gT := gT_i 200 (by decide +kernel) rfl
theorem k134 : Cond.code yX3_hangAtRight cX3_hangAtRight 2 (some .int) ∈ gT := gT_i 201 (by decide +kernel) rfl
theorem k135 : Cond.methodLink RX4 126 yX3_countOf ∈ gT := gT_i 202 (by decide +kernel) rfl
theorem k136 : Cond.instanceMethod yX3_countOf ∈ gT := gT_i 203 (by decide +kernel) rfl
theorem k137 : Cond.selects RX3 yX3_countOf yX3_countOf ∈ gT := gT_i 204 (by decide +kernel) rfl
theorem k138 : Cond.code yX3_countOf cX3_countOf 5 (some .int) ∈ gT := gT_i 205 (by decide +kernel) rfl
theorem k139 : Cond.methodLink RX3 55 yX3_sortAt ∈ gT := gT_i 206 (by decide +kernel) rfl
theorem k140 : Cond.instanceMethod yX3_sortAt ∈ gT := gT_i 207 (by decide +kernel) rfl
theorem k141 : Cond.selects RX3 yX3_sortAt yX3_sortAt ∈ gT := gT_i 208 (by decide +kernel) rfl
theorem k142 : Cond.code yX3_sortAt cX3_sortAt 3 (some .int) ∈ gT := gT_i 209 (by decide +kernel) rfl
theorem k143 : Cond.methodLink RX3 41 yX3_signAt ∈ gT := gT_i 210 (by decide +kernel) rfl
theorem k144 : Cond.instanceMethod yX3_signAt ∈ gT := gT_i 211 (by decide +kernel) rfl
theorem k145 : Cond.selects RX3 yX3_signAt yX3_signAt ∈ gT := gT_i 212 (by decide +kernel) rfl
theorem k146 : Cond.code yX3_signAt cX3_signAt 3 (some .char) ∈ gT := gT_i 213 (by decide +kernel) rfl
theorem k147 : Cond.methodLinkNest RX3 45 yX4_sortWith RX4 ∈ lw_tbl := List.mem_of_getElem? (i := 214) (by decide +kernel)
theorem k148 : Cond.static yX4_sortWith ∈ gT := gT_i 215 (by decide +kernel) rfl
theorem k149 : Cond.code yX4_sortWith cX4_sortWith 1 (some .int) ∈ gT := gT_i 216 (by decide +kernel) rfl
theorem k150 : Cond.methodLink RX3 49 Lib.Math.max.name ∈ gT := gT_i 217 (by decide +kernel) rfl
theorem k151 : Cond.static Lib.Math.max.name ∈ gT := gT_i 218 (by decide +kernel) rfl
theorem k152 : Cond.code Lib.Math.max.name Lib.Math.max.code 2 (some .int) ∈ gT := gT_i 219 (by decide +kernel) rfl
theorem k153 : Cond.methodLink RL 98 yL_cell ∈ gT := gT_i 220 (by decide +kernel) rfl
theorem k154 : Cond.static yL_cell ∈ gT := gT_i 221 (by decide +kernel) rfl
theorem k155 : Cond.code yL_cell cL_cell 2 (some .int) ∈ gT := gT_i 222 (by decide +kernel) rfl
theorem k156 : Cond.constant RL 7 (2144462789) ∈ gT := gT_i 223 (by decide +kernel) rfl
theorem k157 : Cond.methodLink RL 9 yL_there ∈ gT := gT_i 224 (by decide +kernel) rfl
theorem k158 : Cond.static yL_there ∈ gT := gT_i 225 (by decide +kernel) rfl
theorem k159 : Cond.code yL_there cL_there 1 (some .int) ∈ gT := gT_i 226 (by decide +kernel) rfl
theorem k160 : Cond.methodLink RL 102 yL_isStep ∈ gT := gT_i 227 (by decide +kernel) rfl
theorem k161 : Cond.static yL_isStep ∈ gT := gT_i 228 (by decide +kernel) rfl
theorem k163 : Cond.methodLink RL 28 yX4_count ∈ gT := gT_i 230 (by decide +kernel) rfl
theorem k164 : Cond.instanceMethod yX4_count ∈ gT := gT_i 231 (by decide +kernel) rfl
theorem k165 : Cond.selects RX4 yX4_count yX4_count ∈ gT := gT_i 232 (by decide +kernel) rfl
theorem k166 : Cond.code yX4_count cX4_count 2 (some .int) ∈ gT := gT_i 233 (by decide +kernel) rfl
theorem k167 : Cond.methodLink RX4 158 yX3_countSigns ∈ gT := gT_i 234 (by decide +kernel) rfl
theorem k168 : Cond.instanceMethod yX3_countSigns ∈ gT := gT_i 235 (by decide +kernel) rfl
theorem k169 : Cond.selects RX3 yX3_countSigns yX3_countSigns ∈ gT := gT_i 236 (by decide +kernel) rfl
theorem k170 : Cond.code yX3_countSigns cX3_countSigns 3 (some .int) ∈ gT := gT_i 237 (by decide +kernel) rfl
theorem k171 : Cond.methodLink RX4 113 yX4_broken ∈ gT := gT_i 238 (by decide +kernel) rfl
theorem k172 : Cond.instanceMethod yX4_broken ∈ gT := gT_i 240 (by decide +kernel) rfl
theorem k173 : Cond.code yX4_broken cX4_broken 3 (some (.object "HungStops$Layout")) ∈ gT := gT_i 241 (by decide +kernel) rfl
theorem k174 : Cond.methodLink RX4 168 yX1_weigh ∈ gT := gT_i 242 (by decide +kernel) rfl
theorem k175 : Cond.instanceMethod yX1_weigh ∈ gT := gT_i 243 (by decide +kernel) rfl
theorem k176 : Cond.selects RX1 yX1_weigh yX1_weigh ∈ gT := gT_i 244 (by decide +kernel) rfl
theorem k177 : Cond.code yX1_weigh cX1_weigh 3 none ∈ gT := gT_i 245 (by decide +kernel) rfl
theorem k178 : Cond.methodLink RX1 52 yX3_widthOf ∈ gT := gT_i 246 (by decide +kernel) rfl
theorem k179 : Cond.instanceMethod yX3_widthOf ∈ gT := gT_i 247 (by decide +kernel) rfl
theorem k180 : Cond.selects RX3 yX3_widthOf yX3_widthOf ∈ gT := gT_i 248 (by decide +kernel) rfl
theorem k181 : Cond.code yX3_widthOf cX3_widthOf 4 (some .int) ∈ gT := gT_i 249 (by decide +kernel) rfl
theorem k182 : Cond.methodLink RX1 56 yX3_leftHangOf ∈ gT := gT_i 250 (by decide +kernel) rfl
theorem k183 : Cond.instanceMethod yX3_leftHangOf ∈ gT := gT_i 251 (by decide +kernel) rfl
theorem k184 : Cond.selects RX3 yX3_leftHangOf yX3_leftHangOf ∈ gT := gT_i 252 (by decide +kernel) rfl
theorem k185 : Cond.code yX3_leftHangOf cX3_leftHangOf 2 (some .int) ∈ gT := gT_i 253 (by decide +kernel) rfl
theorem k186 : Cond.methodLink RX3 58 yX3_hangAtLeft ∈ gT := gT_i 254 (by decide +kernel) rfl
theorem k187 : Cond.methodLink RX1 59 yX3_rightHangOf ∈ gT := gT_i 255 (by decide +kernel) rfl
theorem k188 : Cond.instanceMethod yX3_rightHangOf ∈ gT := gT_i 256 (by decide +kernel) rfl
theorem k189 : Cond.selects RX3 yX3_rightHangOf yX3_rightHangOf ∈ gT := gT_i 257 (by decide +kernel) rfl
theorem k190 : Cond.code yX3_rightHangOf cX3_rightHangOf 2 (some .int) ∈ gT := gT_i 258 (by decide +kernel) rfl
theorem k191 : Cond.methodLink RX3 61 yX3_hangAtRight ∈ gT := gT_i 259 (by decide +kernel) rfl
theorem k192 : Cond.methodLink RX4 177 yX1_fillGreedily ∈ gT := gT_i 260 (by decide +kernel) rfl
theorem k193 : Cond.instanceMethod yX1_fillGreedily ∈ gT := gT_i 261 (by decide +kernel) rfl
theorem k194 : Cond.selects RX1 yX1_fillGreedily yX1_fillGreedily ∈ gT := gT_i 262 (by decide +kernel) rfl
theorem k195 : Cond.code yX1_fillGreedily cX1_fillGreedily 2 none ∈ gT := gT_i 263 (by decide +kernel) rfl
theorem k196 : Cond.methodLink RX1 66 yX1_bodyOf ∈ gT := gT_i 264 (by decide +kernel) rfl
theorem k197 : Cond.instanceMethod yX1_bodyOf ∈ gT := gT_i 265 (by decide +kernel) rfl
theorem k198 : Cond.selects RX1 yX1_bodyOf yX1_bodyOf ∈ gT := gT_i 266 (by decide +kernel) rfl
theorem k199 : Cond.code yX1_bodyOf cX1_bodyOf 3 (some .int) ∈ gT := gT_i 267 (by decide +kernel) rfl
theorem k200 : Cond.methodLink RX1 62 yX1_widthFrom ∈ gT := gT_i 268 (by decide +kernel) rfl
theorem k201 : Cond.instanceMethod yX1_widthFrom ∈ gT := gT_i 269 (by decide +kernel) rfl
theorem k202 : Cond.selects RX1 yX1_widthFrom yX1_widthFrom ∈ gT := gT_i 270 (by decide +kernel) rfl
theorem k203 : Cond.code yX1_widthFrom cX1_widthFrom 3 (some .int) ∈ gT := gT_i 271 (by decide +kernel) rfl
theorem k204 : Cond.methodLink RX4 198 yX1_breakBest ∈ gT := gT_i 272 (by decide +kernel) rfl
theorem k205 : Cond.instanceMethod yX1_breakBest ∈ gT := gT_i 273 (by decide +kernel) rfl
theorem k206 : Cond.selects RX1 yX1_breakBest yX1_breakBest ∈ gT := gT_i 274 (by decide +kernel) rfl
theorem k207 : Cond.code yX1_breakBest cX1_breakBest 3 none ∈ gT := gT_i 275 (by decide +kernel) rfl
theorem k208 : Cond.methodLink RX1 69 yX1_leastBadness ∈ gT := gT_i 276 (by decide +kernel) rfl
theorem k209 : Cond.instanceMethod yX1_leastBadness ∈ gT := gT_i 277 (by decide +kernel) rfl
theorem k210 : Cond.selects RX1 yX1_leastBadness yX1_leastBadness ∈ gT := gT_i 278 (by decide +kernel) rfl
theorem k211 : Cond.code yX1_leastBadness cX1_leastBadness 2 (some .int) ∈ gT := gT_i 279 (by decide +kernel) rfl
theorem k212 : Cond.methodLink RX1 73 yX1_findFirstLine ∈ gT := gT_i 280 (by decide +kernel) rfl
theorem k213 : Cond.instanceMethod yX1_findFirstLine ∈ gT := gT_i 282 (by decide +kernel) rfl
theorem k214 : Cond.code yX1_findFirstLine cX1_findFirstLine 4 none ∈ gT := gT_i 283 (by decide +kernel) rfl
theorem k215 : Cond.methodLink RX1 77 yX1_badnessOf ∈ gT := gT_i 284 (by decide +kernel) rfl
theorem k216 : Cond.instanceMethod yX1_badnessOf ∈ gT := gT_i 286 (by decide +kernel) rfl
theorem k217 : Cond.code yX1_badnessOf cX1_badnessOf 4 (some .int) ∈ gT := gT_i 287 (by decide +kernel) rfl
theorem k218 : Cond.methodLink RX4 161 yX1_breaksLike ∈ gT := gT_i 288 (by decide +kernel) rfl
theorem k219 : Cond.instanceMethod yX1_breaksLike ∈ gT := gT_i 289 (by decide +kernel) rfl
theorem k220 : Cond.selects RX1 yX1_breaksLike yX1_breaksLike ∈ gT := gT_i 290 (by decide +kernel) rfl
theorem k221 : Cond.code yX1_breaksLike cX1_breaksLike 3 (some .boolean) ∈ gT := gT_i 291 (by decide +kernel) rfl
theorem k222 : Cond.methodLink RL 24 yL_up ∈ gT := gT_i 292 (by decide +kernel) rfl
theorem k223 : Cond.static yL_up ∈ gT := gT_i 293 (by decide +kernel) rfl
theorem k224 : Cond.code yL_up cL_up 2 (some .int) ∈ gT := gT_i 294 (by decide +kernel) rfl
theorem k225 : Cond.constant RL 8 (2147483647) ∈ gT := gT_i 295 (by decide +kernel) rfl
theorem k226 : Cond.methodLink RL 53 yX4_word ∈ gT := gT_i 296 (by decide +kernel) rfl
theorem k227 : Cond.instanceMethod yX4_word ∈ gT := gT_i 297 (by decide +kernel) rfl
theorem k228 : Cond.selects RX4 yX4_word yX4_word ∈ gT := gT_i 298 (by decide +kernel) rfl
theorem k229 : Cond.code yX4_word cX4_word 3 (some .int) ∈ gT := gT_i 299 (by decide +kernel) rfl
theorem k230 : Cond.methodLink RX4 98 yX4_isWord ∈ gT := gT_i 300 (by decide +kernel) rfl
theorem k231 : Cond.instanceMethod yX4_isWord ∈ gT := gT_i 302 (by decide +kernel) rfl
theorem k232 : Cond.code yX4_isWord cX4_isWord 2 (some .boolean) ∈ gT := gT_i 303 (by decide +kernel) rfl
theorem k233 : Cond.methodLink RX4 101 yX3_widthOf ∈ gT := gT_i 304 (by decide +kernel) rfl
theorem k234 : Cond.methodLink RX4 132 yX1_lineWith ∈ gT := gT_i 305 (by decide +kernel) rfl
theorem k235 : Cond.instanceMethod yX1_lineWith ∈ gT := gT_i 306 (by decide +kernel) rfl
theorem k236 : Cond.selects RX1 yX1_lineWith yX1_lineWith ∈ gT := gT_i 307 (by decide +kernel) rfl
theorem k237 : Cond.code yX1_lineWith cX1_lineWith 4 (some .int) ∈ gT := gT_i 308 (by decide +kernel) rfl
theorem k238 : Cond.methodLink RX4 135 yX3_signAt ∈ gT := gT_i 309 (by decide +kernel) rfl
theorem k239 : Cond.methodLink RL 56 yX4_drop ∈ gT := gT_i 310 (by decide +kernel) rfl
theorem k240 : Cond.instanceMethod yX4_drop ∈ gT := gT_i 311 (by decide +kernel) rfl
theorem k241 : Cond.selects RX4 yX4_drop yX4_drop ∈ gT := gT_i 312 (by decide +kernel) rfl
theorem k242 : Cond.code yX4_drop cX4_drop 3 (some .int) ∈ gT := gT_i 313 (by decide +kernel) rfl
theorem k243 : Cond.methodLink RX4 105 yX3_takeOut ∈ gT := gT_i 314 (by decide +kernel) rfl
theorem k244 : Cond.instanceMethod yX3_takeOut ∈ gT := gT_i 315 (by decide +kernel) rfl
theorem k245 : Cond.selects RX3 yX3_takeOut yX3_takeOut ∈ gT := gT_i 316 (by decide +kernel) rfl
theorem k246 : Cond.code yX3_takeOut cX3_takeOut 3 none ∈ gT := gT_i 317 (by decide +kernel) rfl
theorem k247 : Cond.methodLink RL 59 yX4_swap ∈ gT := gT_i 318 (by decide +kernel) rfl
theorem k248 : Cond.instanceMethod yX4_swap ∈ gT := gT_i 319 (by decide +kernel) rfl
theorem k249 : Cond.selects RX4 yX4_swap yX4_swap ∈ gT := gT_i 320 (by decide +kernel) rfl
theorem k250 : Cond.code yX4_swap cX4_swap 3 (some .int) ∈ gT := gT_i 321 (by decide +kernel) rfl
theorem k251 : Cond.methodLink RX4 109 yX3_exchange ∈ gT := gT_i 322 (by decide +kernel) rfl
theorem k252 : Cond.instanceMethod yX3_exchange ∈ gT := gT_i 323 (by decide +kernel) rfl
theorem k253 : Cond.selects RX3 yX3_exchange yX3_exchange ∈ gT := gT_i 324 (by decide +kernel) rfl
theorem k254 : Cond.code yX3_exchange cX3_exchange 5 none ∈ gT := gT_i 325 (by decide +kernel) rfl
theorem k255 : Cond.methodLink RL 62 yX4_lines ∈ gT := gT_i 326 (by decide +kernel) rfl
theorem k256 : Cond.instanceMethod yX4_lines ∈ gT := gT_i 327 (by decide +kernel) rfl
theorem k257 : Cond.selects RX4 yX4_lines yX4_lines ∈ gT := gT_i 328 (by decide +kernel) rfl
theorem k258 : Cond.code yX4_lines cX4_lines 3 (some .int) ∈ gT := gT_i 329 (by decide +kernel) rfl
theorem k259 : Cond.methodLink RX4 139 yX4_isWay ∈ gT := gT_i 330 (by decide +kernel) rfl
theorem k260 : Cond.static yX4_isWay ∈ gT := gT_i 331 (by decide +kernel) rfl
theorem k261 : Cond.code yX4_isWay cX4_isWay 1 (some .boolean) ∈ gT := gT_i 332 (by decide +kernel) rfl
theorem k262 : Cond.methodLink RX4 146 yX1_badness ∈ gT := gT_i 333 (by decide +kernel) rfl
theorem k263 : Cond.instanceMethod yX1_badness ∈ gT := gT_i 334 (by decide +kernel) rfl
theorem k264 : Cond.selects RX1 yX1_badness yX1_badness ∈ gT := gT_i 335 (by decide +kernel) rfl
theorem k265 : Cond.code yX1_badness cX1_badness 3 (some .int) ∈ gT := gT_i 336 (by decide +kernel) rfl
theorem k266 : Cond.methodLink RX1 80 yX1_lastWord ∈ gT := gT_i 337 (by decide +kernel) rfl
theorem k267 : Cond.instanceMethod yX1_lastWord ∈ gT := gT_i 338 (by decide +kernel) rfl
theorem k268 : Cond.selects RX1 yX1_lastWord yX1_lastWord ∈ gT := gT_i 339 (by decide +kernel) rfl
theorem k269 : Cond.code yX1_lastWord cX1_lastWord 2 (some .int) ∈ gT := gT_i 340 (by decide +kernel) rfl
theorem k270 : Cond.methodLink RX4 149 yX1_countIndented ∈ gT := gT_i 341 (by decide +kernel) rfl
theorem k271 : Cond.instanceMethod yX1_countIndented ∈ gT := gT_i 342 (by decide +kernel) rfl
theorem k272 : Cond.selects RX1 yX1_countIndented yX1_countIndented ∈ gT := gT_i 343 (by decide +kernel) rfl
theorem k273 : Cond.code yX1_countIndented cX1_countIndented 3 (some .int) ∈ gT := gT_i 344 (by decide +kernel) rfl
theorem k274 : Cond.methodLink RX1 90 yX1_looksIndented ∈ gT := gT_i 345 (by decide +kernel) rfl
theorem k275 : Cond.instanceMethod yX1_looksIndented ∈ gT := gT_i 346 (by decide +kernel) rfl
theorem k276 : Cond.selects RX1 yX1_looksIndented yX1_looksIndented ∈ gT := gT_i 347 (by decide +kernel) rfl
theorem k277 : Cond.code yX1_looksIndented cX1_looksIndented 2 (some .boolean) ∈ gT := gT_i 348 (by decide +kernel) rfl
theorem k278 : Cond.methodLink RX1 86 yX1_fits ∈ gT := gT_i 349 (by decide +kernel) rfl
theorem k279 : Cond.instanceMethod yX1_fits ∈ gT := gT_i 350 (by decide +kernel) rfl
theorem k280 : Cond.selects RX1 yX1_fits yX1_fits ∈ gT := gT_i 351 (by decide +kernel) rfl
theorem k281 : Cond.code yX1_fits cX1_fits 2 (some .boolean) ∈ gT := gT_i 352 (by decide +kernel) rfl
theorem k282 : Cond.methodLink RX1 83 yX1_bodyOfLine ∈ gT := gT_i 353 (by decide +kernel) rfl
theorem k283 : Cond.instanceMethod yX1_bodyOfLine ∈ gT := gT_i 354 (by decide +kernel) rfl
theorem k284 : Cond.selects RX1 yX1_bodyOfLine yX1_bodyOfLine ∈ gT := gT_i 355 (by decide +kernel) rfl
theorem k285 : Cond.code yX1_bodyOfLine cX1_bodyOfLine 2 (some .int) ∈ gT := gT_i 356 (by decide +kernel) rfl
theorem k286 : Cond.methodLink RX4 152 yX1_countUnfit ∈ gT := gT_i 357 (by decide +kernel) rfl
theorem k287 : Cond.instanceMethod yX1_countUnfit ∈ gT := gT_i 358 (by decide +kernel) rfl
theorem k288 : Cond.selects RX1 yX1_countUnfit yX1_countUnfit ∈ gT := gT_i 359 (by decide +kernel) rfl
theorem k289 : Cond.code yX1_countUnfit cX1_countUnfit 3 (some .int) ∈ gT := gT_i 360 (by decide +kernel) rfl
theorem k290 : Cond.methodLink RX4 155 yX1_greatestBody ∈ gT := gT_i 361 (by decide +kernel) rfl
theorem k291 : Cond.instanceMethod yX1_greatestBody ∈ gT := gT_i 362 (by decide +kernel) rfl
theorem k292 : Cond.selects RX1 yX1_greatestBody yX1_greatestBody ∈ gT := gT_i 363 (by decide +kernel) rfl
theorem k293 : Cond.code yX1_greatestBody cX1_greatestBody 3 (some .int) ∈ gT := gT_i 364 (by decide +kernel) rfl
theorem k294 : Cond.methodLink RX1 93 Lib.Math.max.name ∈ gT := gT_i 365 (by decide +kernel) rfl
theorem k295 : Cond.methodLink RL 65 yX4_clear ∈ gT := gT_i 366 (by decide +kernel) rfl
theorem k296 : Cond.instanceMethod yX4_clear ∈ gT := gT_i 367 (by decide +kernel) rfl
theorem k297 : Cond.selects RX4 yX4_clear yX4_clear ∈ gT := gT_i 368 (by decide +kernel) rfl
theorem k298 : Cond.code yX4_clear cX4_clear 2 (some .int) ∈ gT := gT_i 369 (by decide +kernel) rfl
theorem k299 : Cond.methodLink RL 68 yX4_save ∈ gT := gT_i 370 (by decide +kernel) rfl
theorem k300 : Cond.instanceMethod yX4_save ∈ gT := gT_i 371 (by decide +kernel) rfl
theorem k301 : Cond.selects RX4 yX4_save yX4_save ∈ gT := gT_i 372 (by decide +kernel) rfl
theorem k302 : Cond.code yX4_save cX4_save 2 (some .int) ∈ gT := gT_i 373 (by decide +kernel) rfl
theorem k303 : Cond.methodLink RX4 180 yX3_copyFrom ∈ gT := gT_i 374 (by decide +kernel) rfl
theorem k304 : Cond.methodLink RL 71 yX4_restore ∈ gT := gT_i 375 (by decide +kernel) rfl
theorem k305 : Cond.instanceMethod yX4_restore ∈ gT := gT_i 376 (by decide +kernel) rfl
theorem k306 : Cond.selects RX4 yX4_restore yX4_restore ∈ gT := gT_i 377 (by decide +kernel) rfl
theorem k307 : Cond.code yX4_restore cX4_restore 2 (some .int) ∈ gT := gT_i 378 (by decide +kernel) rfl
theorem k308 : Cond.methodLink RL 74 yL_isRead ∈ gT := gT_i 379 (by decide +kernel) rfl
theorem k309 : Cond.static yL_isRead ∈ gT := gT_i 380 (by decide +kernel) rfl
theorem k311 : Cond.methodLink RL 18 yX4_wipe ∈ gT := gT_i 382 (by decide +kernel) rfl
theorem k312 : Cond.instanceMethod yX4_wipe ∈ gT := gT_i 383 (by decide +kernel) rfl
theorem k313 : Cond.selects RX4 yX4_wipe yX4_wipe ∈ gT := gT_i 384 (by decide +kernel) rfl
theorem k314 : Cond.code yX4_wipe cX4_wipe 2 (some .int) ∈ gT := gT_i 385 (by decide +kernel) rfl
theorem k315 : Cond.constantLong RL 31 (95) ∈ gT := gT_i 386 (by decide +kernel) rfl
theorem k316 : Cond.methodLink RL 33 yX4_put ∈ gT := gT_i 387 (by decide +kernel) rfl
theorem k317 : Cond.instanceMethod yX4_put ∈ gT := gT_i 388 (by decide +kernel) rfl
theorem k318 : Cond.selects RX4 yX4_put yX4_put ∈ gT := gT_i 389 (by decide +kernel) rfl
theorem k319 : Cond.code yX4_put cX4_put 4 (some .int) ∈ gT := gT_i 390 (by decide +kernel) rfl
theorem k320 : Cond.methodLink RX4 187 yX2_lengthOf ∈ gT := gT_i 391 (by decide +kernel) rfl
theorem k321 : Cond.static yX2_lengthOf ∈ gT := gT_i 392 (by decide +kernel) rfl
theorem k322 : Cond.code yX2_lengthOf cX2_lengthOf 7 (some .int) ∈ gT := gT_i 393 (by decide +kernel) rfl
theorem k323 : Cond.constantLong RX2 19 (255) ∈ gT := gT_i 394 (by decide +kernel) rfl
theorem k324 : Cond.methodLink RX4 191 yX2_append ∈ gT := gT_i 395 (by decide +kernel) rfl
theorem k325 : Cond.instanceMethod yX2_append ∈ gT := gT_i 396 (by decide +kernel) rfl
theorem k326 : Cond.selects RX2 yX2_append yX2_append ∈ gT := gT_i 397 (by decide +kernel) rfl
theorem k327 : Cond.code yX2_append cX2_append 5 none ∈ gT := gT_i 398 (by decide +kernel) rfl
theorem k328 : Cond.methodLink RL 15 yL_code ∈ gT := gT_i 399 (by decide +kernel) rfl
theorem k329 : Cond.static yL_code ∈ gT := gT_i 400 (by decide +kernel) rfl
theorem k330 : Cond.code yL_code cL_code 1 (some .int) ∈ gT := gT_i 401 (by decide +kernel) rfl
theorem k331 : Cond.methodLink RL 37 yL_other ∈ gT := gT_i 402 (by decide +kernel) rfl
theorem k332 : Cond.static yL_other ∈ gT := gT_i 403 (by decide +kernel) rfl
theorem k333 : Cond.code yL_other cL_other 1 (some .int) ∈ gT := gT_i 404 (by decide +kernel) rfl
theorem k334 : Cond.methodLink RL 40 yX4_read ∈ gT := gT_i 405 (by decide +kernel) rfl
theorem k335 : Cond.instanceMethod yX4_read ∈ gT := gT_i 406 (by decide +kernel) rfl
theorem k336 : Cond.selects RX4 yX4_read yX4_read ∈ gT := gT_i 407 (by decide +kernel) rfl
theorem k337 : Cond.code yX4_read cX4_read 1 (some .int) ∈ gT := gT_i 408 (by decide +kernel) rfl
theorem k338 : Cond.methodLink RX4 81 yX2_firstFault ∈ gT := gT_i 409 (by decide +kernel) rfl
theorem k339 : Cond.instanceMethod yX2_firstFault ∈ gT := gT_i 410 (by decide +kernel) rfl
theorem k340 : Cond.selects RX2 yX2_firstFault yX2_firstFault ∈ gT := gT_i 411 (by decide +kernel) rfl
theorem k341 : Cond.code yX2_firstFault cX2_firstFault 3 (some .int) ∈ gT := gT_i 412 (by decide +kernel) rfl
theorem k342 : Cond.methodLinkNest RX2 21 yX4_sortWith RX4 ∈ lw_tbl := List.mem_of_getElem? (i := 413) (by decide +kernel)
theorem k343 : Cond.methodLink RX4 89 yX2_countWords ∈ gT := gT_i 414 (by decide +kernel) rfl
theorem k344 : Cond.instanceMethod yX2_countWords ∈ gT := gT_i 415 (by decide +kernel) rfl
theorem k345 : Cond.selects RX2 yX2_countWords yX2_countWords ∈ gT := gT_i 416 (by decide +kernel) rfl
theorem k346 : Cond.code yX2_countWords cX2_countWords 3 (some .int) ∈ gT := gT_i 417 (by decide +kernel) rfl
theorem k347 : Cond.methodLink RX4 92 yX2_addWordsTo ∈ gT := gT_i 418 (by decide +kernel) rfl
theorem k348 : Cond.instanceMethod yX2_addWordsTo ∈ gT := gT_i 419 (by decide +kernel) rfl
theorem k349 : Cond.selects RX2 yX2_addWordsTo yX2_addWordsTo ∈ gT := gT_i 420 (by decide +kernel) rfl
theorem k350 : Cond.code yX2_addWordsTo cX2_addWordsTo 3 none ∈ gT := gT_i 421 (by decide +kernel) rfl
theorem k351 : Cond.methodLink RX2 25 yX3_beginWord ∈ gT := gT_i 422 (by decide +kernel) rfl
theorem k352 : Cond.instanceMethod yX3_beginWord ∈ gT := gT_i 423 (by decide +kernel) rfl
theorem k353 : Cond.selects RX3 yX3_beginWord yX3_beginWord ∈ gT := gT_i 424 (by decide +kernel) rfl
theorem k354 : Cond.code yX3_beginWord cX3_beginWord 1 none ∈ gT := gT_i 425 (by decide +kernel) rfl
theorem k355 : Cond.methodLink RX2 30 yX3_addSign ∈ gT := gT_i 426 (by decide +kernel) rfl
theorem k356 : Cond.instanceMethod yX3_addSign ∈ gT := gT_i 427 (by decide +kernel) rfl
theorem k357 : Cond.selects RX3 yX3_addSign yX3_addSign ∈ gT := gT_i 428 (by decide +kernel) rfl
theorem k358 : Cond.code yX3_addSign cX3_addSign 3 none ∈ gT := gT_i 429 (by decide +kernel) rfl
theorem k359 : Cond.methodLink RL 109 yL_areAlike ∈ gT := gT_i 430 (by decide +kernel) rfl
theorem k360 : Cond.static yL_areAlike ∈ gT := gT_i 431 (by decide +kernel) rfl
theorem k362 : Cond.methodLink RL 78 yX4_worstWord ∈ gT := gT_i 433 (by decide +kernel) rfl
theorem k363 : Cond.instanceMethod yX4_worstWord ∈ gT := gT_i 434 (by decide +kernel) rfl
theorem k364 : Cond.selects RX4 yX4_worstWord yX4_worstWord ∈ gT := gT_i 435 (by decide +kernel) rfl
theorem k365 : Cond.code yX4_worstWord cX4_worstWord 5 (some .int) ∈ gT := gT_i 436 (by decide +kernel) rfl
theorem k366 : Cond.methodLink RX4 183 yX4_leastBadnessOf ∈ gT := gT_i 437 (by decide +kernel) rfl
theorem k367 : Cond.instanceMethod yX4_leastBadnessOf ∈ gT := gT_i 439 (by decide +kernel) rfl
theorem k368 : Cond.code yX4_leastBadnessOf cX4_leastBadnessOf 2 (some .int) ∈ gT := gT_i 440 (by decide +kernel) rfl
theorem k369 : Cond.methodLink RX4 201 yX1_leastBadness ∈ gT := gT_i 441 (by decide +kernel) rfl
theorem k370 : Cond.methodLink RL 81 yX4_leastMeasure ∈ gT := gT_i 442 (by decide +kernel) rfl
theorem k371 : Cond.instanceMethod yX4_leastMeasure ∈ gT := gT_i 443 (by decide +kernel) rfl
theorem k372 : Cond.selects RX4 yX4_leastMeasure yX4_leastMeasure ∈ gT := gT_i 444 (by decide +kernel) rfl
theorem k373 : Cond.code yX4_leastMeasure cX4_leastMeasure 3 (some .int) ∈ gT := gT_i 445 (by decide +kernel) rfl
theorem k374 : Cond.methodLink RL 84 yX4_bestShare ∈ gT := gT_i 446 (by decide +kernel) rfl
theorem k375 : Cond.instanceMethod yX4_bestShare ∈ gT := gT_i 447 (by decide +kernel) rfl
theorem k376 : Cond.selects RX4 yX4_bestShare yX4_bestShare ∈ gT := gT_i 448 (by decide +kernel) rfl
theorem k377 : Cond.code yX4_bestShare cX4_bestShare 8 (some .int) ∈ gT := gT_i 449 (by decide +kernel) rfl
theorem k378 : Cond.methodLink RL 87 yX4_line ∈ gT := gT_i 450 (by decide +kernel) rfl
theorem k379 : Cond.instanceMethod yX4_line ∈ gT := gT_i 451 (by decide +kernel) rfl
theorem k380 : Cond.selects RX4 yX4_line yX4_line ∈ gT := gT_i 452 (by decide +kernel) rfl
theorem k381 : Cond.code yX4_line cX4_line 5 (some .int) ∈ gT := gT_i 453 (by decide +kernel) rfl
theorem k382 : Cond.methodLink RX4 142 yX1_tellLine ∈ gT := gT_i 454 (by decide +kernel) rfl
theorem k383 : Cond.instanceMethod yX1_tellLine ∈ gT := gT_i 455 (by decide +kernel) rfl
theorem k384 : Cond.selects RX1 yX1_tellLine yX1_tellLine ∈ gT := gT_i 456 (by decide +kernel) rfl
theorem k385 : Cond.code yX1_tellLine cX1_tellLine 3 (some .int) ∈ gT := gT_i 457 (by decide +kernel) rfl
theorem k386 : Cond.methodLink RL 91 yL_signOf ∈ gT := gT_i 458 (by decide +kernel) rfl
theorem k387 : Cond.static yL_signOf ∈ gT := gT_i 459 (by decide +kernel) rfl
theorem k388 : Cond.code yL_signOf cL_signOf 3 (some .int) ∈ gT := gT_i 460 (by decide +kernel) rfl
theorem k389 : Cond.methodLink RL 105 yL_isWell ∈ gT := gT_i 461 (by decide +kernel) rfl
theorem k390 : Cond.static yL_isWell ∈ gT := gT_i 462 (by decide +kernel) rfl
theorem k392 : Cond.methodLink RL 94 yX4_body ∈ gT := gT_i 464 (by decide +kernel) rfl
theorem k393 : Cond.instanceMethod yX4_body ∈ gT := gT_i 465 (by decide +kernel) rfl
theorem k394 : Cond.selects RX4 yX4_body yX4_body ∈ gT := gT_i 466 (by decide +kernel) rfl
theorem k395 : Cond.code yX4_body cX4_body 3 (some .int) ∈ gT := gT_i 467 (by decide +kernel) rfl
theorem k396 : Cond.methodLink RX4 171 yX1_bodyOf ∈ gT := gT_i 468 (by decide +kernel) rfl
theorem iX0 : ∀ w ∈ u_ws RX0 TX0 3, w ∈ gT := fun w h => gT_mem ((by decide +kernel : ∀ w ∈ u_ws RX0 TX0 3, w ∈ lw_tbl) w h) ((by decide +kernel : ∀ w ∈ u_ws RX0 TX0 3, goodWord w = true) w h)
theorem iX1 : ∀ w ∈ u_ws RX1 TX1 11, w ∈ gT := fun w h => gT_mem ((by decide +kernel : ∀ w ∈ u_ws RX1 TX1 11, w ∈ lw_tbl) w h) ((by decide +kernel : ∀ w ∈ u_ws RX1 TX1 11, goodWord w = true) w h)
theorem iX2 : ∀ w ∈ u_ws RX2 TX2 2, w ∈ gT := fun w h => gT_mem ((by decide +kernel : ∀ w ∈ u_ws RX2 TX2 2, w ∈ lw_tbl) w h) ((by decide +kernel : ∀ w ∈ u_ws RX2 TX2 2, goodWord w = true) w h)
theorem iX3 : ∀ w ∈ u_ws RX3 TX3 7, w ∈ gT := fun w h => gT_mem ((by decide +kernel : ∀ w ∈ u_ws RX3 TX3 7, w ∈ lw_tbl) w h) ((by decide +kernel : ∀ w ∈ u_ws RX3 TX3 7, goodWord w = true) w h)
theorem iX4 : ∀ w ∈ u_ws RX4 TX4 8, w ∈ gT := fun w h => gT_mem ((by decide +kernel : ∀ w ∈ u_ws RX4 TX4 8, w ∈ lw_tbl) w h) ((by decide +kernel : ∀ w ∈ u_ws RX4 TX4 8, goodWord w = true) w h)
end
section
set_option maxRecDepth 100000 in
theorem k162 : Cond.code yL_isStep cL_isStep 11 (some .boolean) ∈ gT := gT_i 229 rfl rfl
set_option maxRecDepth 100000 in
theorem k310 : Cond.code yL_isRead cL_isRead 12 (some .boolean) ∈ gT := gT_i 381 rfl rfl
set_option maxRecDepth 100000 in
theorem k361 : Cond.code yL_areAlike cL_areAlike 7 (some .boolean) ∈ gT := gT_i 432 rfl rfl
set_option maxRecDepth 100000 in
theorem k391 : Cond.code yL_isWell cL_isWell 9 (some .boolean) ∈ gT := gT_i 463 rfl rfl
end
