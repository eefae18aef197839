-- names, field tables, method names and codes: the program's own, as the task prints them (NAMES.whole, SKELETON's PART A)
-- ===== PART A: goes FIRST, ahead of the names: the tables' words, and 'selects' of the private methods out of them =====
/-- a private method of a class that the tables say can be made, by its rows of tables_1 -/
def lw_okq (q : MethodName × Nat) : Prop := (q.1.cls ≠ "java/lang/invoke/MethodHandle" ∧ q.1.cls ≠ "java/lang/invoke/VarHandle") ∧ Cond.instantiable q.1.cls q.2 ∈ tables_1 ∧ Cond.privateMethod q.1 ∈ tables_1 ∧ Cond.instanceMethod q.1 ∈ tables_1
theorem lw_p0 : lw_okq (⟨"HungStops", "broken", "(I)LHungStops$Layout;"⟩, 8) := ⟨⟨by decide +kernel, by decide +kernel⟩, List.mem_of_getElem? (i := 9) (by decide +kernel), List.mem_of_getElem? (i := 234) (by decide +kernel), List.mem_of_getElem? (i := 235) (by decide +kernel)⟩
theorem lw_p1 : lw_okq (⟨"HungStops$Layout", "findFirstLine", "(I)V"⟩, 11) := ⟨⟨by decide +kernel, by decide +kernel⟩, List.mem_of_getElem? (i := 55) (by decide +kernel), List.mem_of_getElem? (i := 276) (by decide +kernel), List.mem_of_getElem? (i := 277) (by decide +kernel)⟩
theorem lw_p2 : lw_okq (⟨"HungStops$Layout", "badnessOf", "(II)I"⟩, 11) := ⟨⟨by decide +kernel, by decide +kernel⟩, List.mem_of_getElem? (i := 55) (by decide +kernel), List.mem_of_getElem? (i := 280) (by decide +kernel), List.mem_of_getElem? (i := 281) (by decide +kernel)⟩
theorem lw_p3 : lw_okq (⟨"HungStops", "isWord", "(I)Z"⟩, 8) := ⟨⟨by decide +kernel, by decide +kernel⟩, List.mem_of_getElem? (i := 9) (by decide +kernel), List.mem_of_getElem? (i := 296) (by decide +kernel), List.mem_of_getElem? (i := 297) (by decide +kernel)⟩
theorem lw_p4 : lw_okq (⟨"HungStops", "leastBadnessOf", "(LHungStops$Sheet;)I"⟩, 8) := ⟨⟨by decide +kernel, by decide +kernel⟩, List.mem_of_getElem? (i := 9) (by decide +kernel), List.mem_of_getElem? (i := 433) (by decide +kernel), List.mem_of_getElem? (i := 434) (by decide +kernel)⟩
def lw_privs_1 : List (MethodName × Nat) := [(⟨"HungStops", "broken", "(I)LHungStops$Layout;"⟩, 8), (⟨"HungStops$Layout", "findFirstLine", "(I)V"⟩, 11), (⟨"HungStops$Layout", "badnessOf", "(II)I"⟩, 11), (⟨"HungStops", "isWord", "(I)Z"⟩, 8), (⟨"HungStops", "leastBadnessOf", "(LHungStops$Sheet;)I"⟩, 8)]
theorem lw_r1 : ∀ q ∈ lw_privs_1, lw_okq q := List.forall_mem_cons.mpr ⟨lw_p0, List.forall_mem_cons.mpr ⟨lw_p1, List.forall_mem_cons.mpr ⟨lw_p2, List.forall_mem_cons.mpr ⟨lw_p3, List.forall_mem_cons.mpr ⟨lw_p4, fun _ h => absurd h List.not_mem_nil⟩⟩⟩⟩⟩
def lw_privs : List (MethodName × Nat) := lw_privs_1
def lw_tbl : List Cond := k2_sels lw_privs ++ tables_1
theorem lw_privs_ok : ∀ q ∈ lw_privs, lw_okq q := lw_r1
def RX0 : String := "HungStops$History"
def TX0 : u_T := fun k => match k with
  | 0 => ("HungStops$History", "states", "[LHungStops$Sheet;", true)
  | 1 => ("HungStops$History", "next", "I", false)
  | _ => ("HungStops$History", "size", "I", false)
def tyX0 : Nat → FieldType := fun k => match k with
  | 0 => .array (.object "HungStops$Sheet")
  | 1 => .int
  | _ => .int
theorem nmX0 : ∀ a, a < 3 → ∀ b, b < 3 → a ≠ b → (TX0 a).2.1 ≠ (TX0 b).2.1 := by decide +kernel
theorem tyX0_ok : ∀ k, k < 3 → parseFieldDescriptor (TX0 k).2.2.1 = some (tyX0 k) := by decide +kernel
abbrev cX0_init : ByteArray := prog_2_method_1_code
def yX0_init : MethodName := ⟨RX0, "<init>", "()V"⟩
abbrev cX0_record : ByteArray := prog_2_method_2_code
def yX0_record : MethodName := ⟨RX0, "record", "(LHungStops$Sheet;)V"⟩
def RX1 : String := "HungStops$Layout"
def TX1 : u_T := fun k => match k with
  | 0 => ("HungStops$Layout", "places", "[I", true)
  | 1 => ("HungStops$Layout", "leftHangs", "[I", true)
  | 2 => ("HungStops$Layout", "rightHangs", "[I", true)
  | 3 => ("HungStops$Layout", "words", "I", false)
  | 4 => ("HungStops$Layout", "measure", "I", false)
  | 5 => ("HungStops$Layout", "space", "I", false)
  | 6 => ("HungStops$Layout", "loose", "I", false)
  | 7 => ("HungStops$Layout", "starts", "[I", true)
  | 8 => ("HungStops$Layout", "lines", "I", false)
  | 9 => ("HungStops$Layout", "leastFrom", "[I", true)
  | _ => ("HungStops$Layout", "nextStart", "[I", true)
def tyX1 : Nat → FieldType := fun k => match k with
  | 0 => .array .int
  | 1 => .array .int
  | 2 => .array .int
  | 3 => .int
  | 4 => .int
  | 5 => .int
  | 6 => .int
  | 7 => .array .int
  | 8 => .int
  | 9 => .array .int
  | _ => .array .int
theorem nmX1 : ∀ a, a < 11 → ∀ b, b < 11 → a ≠ b → (TX1 a).2.1 ≠ (TX1 b).2.1 := by decide +kernel
theorem tyX1_ok : ∀ k, k < 11 → parseFieldDescriptor (TX1 k).2.2.1 = some (tyX1 k) := by decide +kernel
abbrev cX1_init : ByteArray := prog_3_method_1_code
def yX1_init : MethodName := ⟨RX1, "<init>", "()V"⟩
abbrev cX1_weigh : ByteArray := prog_3_method_2_code
def yX1_weigh : MethodName := ⟨RX1, "weigh", "(LHungStops$Sheet;)V"⟩
abbrev cX1_widthFrom : ByteArray := prog_3_method_3_code
def yX1_widthFrom : MethodName := ⟨RX1, "widthFrom", "(II)I"⟩
abbrev cX1_bodyOf : ByteArray := prog_3_method_4_code
def yX1_bodyOf : MethodName := ⟨RX1, "bodyOf", "(II)I"⟩
abbrev cX1_fillGreedily : ByteArray := prog_3_method_5_code
def yX1_fillGreedily : MethodName := ⟨RX1, "fillGreedily", "()V"⟩
abbrev cX1_breakBest : ByteArray := prog_3_method_6_code
def yX1_breakBest : MethodName := ⟨RX1, "breakBest", "()V"⟩
abbrev cX1_leastBadness : ByteArray := prog_3_method_7_code
def yX1_leastBadness : MethodName := ⟨RX1, "leastBadness", "()I"⟩
abbrev cX1_findFirstLine : ByteArray := prog_3_method_8_code
def yX1_findFirstLine : MethodName := ⟨RX1, "findFirstLine", "(I)V"⟩
abbrev cX1_badnessOf : ByteArray := prog_3_method_9_code
def yX1_badnessOf : MethodName := ⟨RX1, "badnessOf", "(II)I"⟩
abbrev cX1_lineWith : ByteArray := prog_3_method_10_code
def yX1_lineWith : MethodName := ⟨RX1, "lineWith", "(I)I"⟩
abbrev cX1_lastWord : ByteArray := prog_3_method_11_code
def yX1_lastWord : MethodName := ⟨RX1, "lastWord", "(I)I"⟩
abbrev cX1_bodyOfLine : ByteArray := prog_3_method_12_code
def yX1_bodyOfLine : MethodName := ⟨RX1, "bodyOfLine", "(I)I"⟩
abbrev cX1_fits : ByteArray := prog_3_method_13_code
def yX1_fits : MethodName := ⟨RX1, "fits", "(I)Z"⟩
abbrev cX1_looksIndented : ByteArray := prog_3_method_14_code
def yX1_looksIndented : MethodName := ⟨RX1, "looksIndented", "(I)Z"⟩
abbrev cX1_tellLine : ByteArray := prog_3_method_15_code
def yX1_tellLine : MethodName := ⟨RX1, "tellLine", "(II)I"⟩
abbrev cX1_badness : ByteArray := prog_3_method_16_code
def yX1_badness : MethodName := ⟨RX1, "badness", "()I"⟩
abbrev cX1_countIndented : ByteArray := prog_3_method_17_code
def yX1_countIndented : MethodName := ⟨RX1, "countIndented", "()I"⟩
abbrev cX1_countUnfit : ByteArray := prog_3_method_18_code
def yX1_countUnfit : MethodName := ⟨RX1, "countUnfit", "()I"⟩
abbrev cX1_greatestBody : ByteArray := prog_3_method_19_code
def yX1_greatestBody : MethodName := ⟨RX1, "greatestBody", "()I"⟩
abbrev cX1_breaksLike : ByteArray := prog_3_method_20_code
def yX1_breaksLike : MethodName := ⟨RX1, "breaksLike", "(LHungStops$Layout;)Z"⟩
def RX2 : String := "HungStops$Pad"
def TX2 : u_T := fun k => match k with
  | 0 => ("HungStops$Pad", "text", "[C", true)
  | _ => ("HungStops$Pad", "length", "I", false)
def tyX2 : Nat → FieldType := fun k => match k with
  | 0 => .array .char
  | _ => .int
theorem nmX2 : ∀ a, a < 2 → ∀ b, b < 2 → a ≠ b → (TX2 a).2.1 ≠ (TX2 b).2.1 := by decide +kernel
theorem tyX2_ok : ∀ k, k < 2 → parseFieldDescriptor (TX2 k).2.2.1 = some (tyX2 k) := by decide +kernel
abbrev cX2_init : ByteArray := prog_4_method_1_code
def yX2_init : MethodName := ⟨RX2, "<init>", "()V"⟩
abbrev cX2_lengthOf : ByteArray := prog_4_method_2_code
def yX2_lengthOf : MethodName := ⟨RX2, "lengthOf", "(J)I"⟩
abbrev cX2_append : ByteArray := prog_4_method_3_code
def yX2_append : MethodName := ⟨RX2, "append", "(JI)V"⟩
abbrev cX2_firstFault : ByteArray := prog_4_method_4_code
def yX2_firstFault : MethodName := ⟨RX2, "firstFault", "()I"⟩
abbrev cX2_countWords : ByteArray := prog_4_method_5_code
def yX2_countWords : MethodName := ⟨RX2, "countWords", "()I"⟩
abbrev cX2_addWordsTo : ByteArray := prog_4_method_6_code
def yX2_addWordsTo : MethodName := ⟨RX2, "addWordsTo", "(LHungStops$Sheet;)V"⟩
def RX3 : String := "HungStops$Sheet"
def TX3 : u_T := fun k => match k with
  | 0 => ("HungStops$Sheet", "settings", "[I", true)
  | 1 => ("HungStops$Sheet", "widths", "[I", true)
  | 2 => ("HungStops$Sheet", "lefts", "[I", true)
  | 3 => ("HungStops$Sheet", "rights", "[I", true)
  | 4 => ("HungStops$Sheet", "signs", "[C", true)
  | 5 => ("HungStops$Sheet", "lengths", "[I", true)
  | _ => ("HungStops$Sheet", "words", "I", false)
def tyX3 : Nat → FieldType := fun k => match k with
  | 0 => .array .int
  | 1 => .array .int
  | 2 => .array .int
  | 3 => .array .int
  | 4 => .array .char
  | 5 => .array .int
  | _ => .int
theorem nmX3 : ∀ a, a < 7 → ∀ b, b < 7 → a ≠ b → (TX3 a).2.1 ≠ (TX3 b).2.1 := by decide +kernel
theorem tyX3_ok : ∀ k, k < 7 → parseFieldDescriptor (TX3 k).2.2.1 = some (tyX3 k) := by decide +kernel
abbrev cX3_init : ByteArray := prog_5_method_1_code
def yX3_init : MethodName := ⟨RX3, "<init>", "()V"⟩
abbrev cX3_copyFrom : ByteArray := prog_5_method_2_code
def yX3_copyFrom : MethodName := ⟨RX3, "copyFrom", "(LHungStops$Sheet;)V"⟩
abbrev cX3_beginWord : ByteArray := prog_5_method_3_code
def yX3_beginWord : MethodName := ⟨RX3, "beginWord", "()V"⟩
abbrev cX3_addSign : ByteArray := prog_5_method_4_code
def yX3_addSign : MethodName := ⟨RX3, "addSign", "(C)V"⟩
abbrev cX3_takeOut : ByteArray := prog_5_method_5_code
def yX3_takeOut : MethodName := ⟨RX3, "takeOut", "(I)V"⟩
abbrev cX3_exchange : ByteArray := prog_5_method_6_code
def yX3_exchange : MethodName := ⟨RX3, "exchange", "(II)V"⟩
abbrev cX3_signAt : ByteArray := prog_5_method_7_code
def yX3_signAt : MethodName := ⟨RX3, "signAt", "(II)C"⟩
abbrev cX3_sortAt : ByteArray := prog_5_method_8_code
def yX3_sortAt : MethodName := ⟨RX3, "sortAt", "(II)I"⟩
abbrev cX3_widthOf : ByteArray := prog_5_method_9_code
def yX3_widthOf : MethodName := ⟨RX3, "widthOf", "(I)I"⟩
abbrev cX3_countSigns : ByteArray := prog_5_method_10_code
def yX3_countSigns : MethodName := ⟨RX3, "countSigns", "()I"⟩
abbrev cX3_countOf : ByteArray := prog_5_method_11_code
def yX3_countOf : MethodName := ⟨RX3, "countOf", "(I)I"⟩
abbrev cX3_hangAtLeft : ByteArray := prog_5_method_12_code
def yX3_hangAtLeft : MethodName := ⟨RX3, "hangAtLeft", "(I)I"⟩
abbrev cX3_hangAtRight : ByteArray := prog_5_method_13_code
def yX3_hangAtRight : MethodName := ⟨RX3, "hangAtRight", "(I)I"⟩
abbrev cX3_leftHangOf : ByteArray := prog_5_method_14_code
def yX3_leftHangOf : MethodName := ⟨RX3, "leftHangOf", "(I)I"⟩
abbrev cX3_rightHangOf : ByteArray := prog_5_method_15_code
def yX3_rightHangOf : MethodName := ⟨RX3, "rightHangOf", "(I)I"⟩
def RX4 : String := "HungStops"
def TX4 : u_T := fun k => match k with
  | 0 => ("HungStops", "now", "LHungStops$Sheet;", true)
  | 1 => ("HungStops", "trial", "LHungStops$Sheet;", true)
  | 2 => ("HungStops", "greedy", "LHungStops$Layout;", true)
  | 3 => ("HungStops", "best", "LHungStops$Layout;", true)
  | 4 => ("HungStops", "pad", "LHungStops$Pad;", true)
  | 5 => ("HungStops", "history", "LHungStops$History;", true)
  | 6 => ("HungStops", "slots", "[LHungStops$Sheet;", true)
  | _ => ("HungStops", "filled", "[Z", true)
def tyX4 : Nat → FieldType := fun k => match k with
  | 0 => .object "HungStops$Sheet"
  | 1 => .object "HungStops$Sheet"
  | 2 => .object "HungStops$Layout"
  | 3 => .object "HungStops$Layout"
  | 4 => .object "HungStops$Pad"
  | 5 => .object "HungStops$History"
  | 6 => .array (.object "HungStops$Sheet")
  | _ => .array .boolean
theorem nmX4 : ∀ a, a < 8 → ∀ b, b < 8 → a ≠ b → (TX4 a).2.1 ≠ (TX4 b).2.1 := by decide +kernel
theorem tyX4_ok : ∀ k, k < 8 → parseFieldDescriptor (TX4 k).2.2.1 = some (tyX4 k) := by decide +kernel
abbrev cX4_init : ByteArray := prog_1_method_1_code
def yX4_init : MethodName := ⟨RX4, "<init>", "()V"⟩
abbrev cX4_set : ByteArray := prog_1_method_2_code
def yX4_set : MethodName := ⟨RX4, "set", "(II)I"⟩
abbrev cX4_sort : ByteArray := prog_1_method_3_code
def yX4_sort : MethodName := ⟨RX4, "sort", "(IIII)I"⟩
abbrev cX4_read : ByteArray := prog_1_method_4_code
def yX4_read : MethodName := ⟨RX4, "read", "()I"⟩
abbrev cX4_drop : ByteArray := prog_1_method_5_code
def yX4_drop : MethodName := ⟨RX4, "drop", "(I)I"⟩
abbrev cX4_swap : ByteArray := prog_1_method_6_code
def yX4_swap : MethodName := ⟨RX4, "swap", "(II)I"⟩
abbrev cX4_clear : ByteArray := prog_1_method_7_code
def yX4_clear : MethodName := ⟨RX4, "clear", "()I"⟩
abbrev cX4_sortOf : ByteArray := prog_1_method_8_code
def yX4_sortOf : MethodName := ⟨RX4, "sortOf", "(II)I"⟩
abbrev cX4_word : ByteArray := prog_1_method_9_code
def yX4_word : MethodName := ⟨RX4, "word", "(II)I"⟩
abbrev cX4_line : ByteArray := prog_1_method_10_code
def yX4_line : MethodName := ⟨RX4, "line", "(III)I"⟩
abbrev cX4_lines : ByteArray := prog_1_method_11_code
def yX4_lines : MethodName := ⟨RX4, "lines", "(II)I"⟩
abbrev cX4_count : ByteArray := prog_1_method_12_code
def yX4_count : MethodName := ⟨RX4, "count", "(I)I"⟩
abbrev cX4_body : ByteArray := prog_1_method_13_code
def yX4_body : MethodName := ⟨RX4, "body", "(II)I"⟩
abbrev cX4_leastMeasure : ByteArray := prog_1_method_14_code
def yX4_leastMeasure : MethodName := ⟨RX4, "leastMeasure", "(I)I"⟩
abbrev cX4_bestShare : ByteArray := prog_1_method_15_code
def yX4_bestShare : MethodName := ⟨RX4, "bestShare", "(I)I"⟩
abbrev cX4_worstWord : ByteArray := prog_1_method_16_code
def yX4_worstWord : MethodName := ⟨RX4, "worstWord", "()I"⟩
abbrev cX4_put : ByteArray := prog_1_method_17_code
def yX4_put : MethodName := ⟨RX4, "put", "(J)I"⟩
abbrev cX4_wipe : ByteArray := prog_1_method_18_code
def yX4_wipe : MethodName := ⟨RX4, "wipe", "()I"⟩
abbrev cX4_save : ByteArray := prog_1_method_21_code
def yX4_save : MethodName := ⟨RX4, "save", "(I)I"⟩
abbrev cX4_restore : ByteArray := prog_1_method_22_code
def yX4_restore : MethodName := ⟨RX4, "restore", "(I)I"⟩
abbrev cX4_isSort : ByteArray := prog_1_method_23_code
def yX4_isSort : MethodName := ⟨RX4, "isSort", "(I)Z"⟩
abbrev cX4_isShare : ByteArray := prog_1_method_24_code
def yX4_isShare : MethodName := ⟨RX4, "isShare", "(I)Z"⟩
abbrev cX4_isWay : ByteArray := prog_1_method_25_code
def yX4_isWay : MethodName := ⟨RX4, "isWay", "(I)Z"⟩
abbrev cX4_isWord : ByteArray := prog_1_method_26_code
def yX4_isWord : MethodName := ⟨RX4, "isWord", "(I)Z"⟩
abbrev cX4_sortWith : ByteArray := prog_1_method_27_code
def yX4_sortWith : MethodName := ⟨RX4, "sortWith", "(I)I"⟩
abbrev cX4_broken : ByteArray := prog_1_method_28_code
def yX4_broken : MethodName := ⟨RX4, "broken", "(I)LHungStops$Layout;"⟩
abbrev cX4_leastBadnessOf : ByteArray := prog_1_method_29_code
def yX4_leastBadnessOf : MethodName := ⟨RX4, "leastBadnessOf", "(LHungStops$Sheet;)I"⟩
def RX5 : String := "HungStopsModel"
def TX5 : u_T := fun k => match k with
  | _ => ("", "", "", false)
def tyX5 : Nat → FieldType := fun k => match k with
  | _ => .int
theorem nmX5 : ∀ a, a < 0 → ∀ b, b < 0 → a ≠ b → (TX5 a).2.1 ≠ (TX5 b).2.1 := by decide +kernel
theorem tyX5_ok : ∀ k, k < 0 → parseFieldDescriptor (TX5 k).2.2.1 = some (tyX5 k) := by decide +kernel
def RL : String := "HungStopsLaw"
abbrev cL_cell : ByteArray := method_2_code
def yL_cell : MethodName := ⟨RL, "cell", "([II)I"⟩
abbrev cL_up : ByteArray := method_3_code
def yL_up : MethodName := ⟨RL, "up", "(II)I"⟩
abbrev cL_there : ByteArray := method_4_code
def yL_there : MethodName := ⟨RL, "there", "(I)I"⟩
abbrev cL_code : ByteArray := method_5_code
def yL_code : MethodName := ⟨RL, "code", "(I)I"⟩
abbrev cL_other : ByteArray := method_6_code
def yL_other : MethodName := ⟨RL, "other", "(I)I"⟩
abbrev cL_signOf : ByteArray := method_7_code
def yL_signOf : MethodName := ⟨RL, "signOf", "(I)I"⟩
abbrev cL_isRead : ByteArray := method_8_code
def yL_isRead : MethodName := ⟨RL, "isRead", "(LHungStops;LHungStops;II)Z"⟩
abbrev cL_isStep : ByteArray := method_9_code
def yL_isStep : MethodName := ⟨RL, "isStep", "(LHungStops;LHungStops;II)Z"⟩
abbrev cL_areAlike : ByteArray := method_10_code
def yL_areAlike : MethodName := ⟨RL, "areAlike", "(LHungStops;LHungStops;I)Z"⟩
abbrev cL_isWell : ByteArray := method_11_code
def yL_isWell : MethodName := ⟨RL, "isWell", "(LHungStops;)Z"⟩
abbrev cL_law : ByteArray := code
def yL_law : MethodName := ⟨RL, "law", "([I)Z"⟩
def gT : List Cond := lw_tbl.filter goodWord
theorem gT_mem {w : Cond} (h : w ∈ lw_tbl) (g : goodWord w = true) : w ∈ gT := List.mem_filter.mpr ⟨h, g⟩
theorem gT_i {w : Cond} (i : Nat) (h : lw_tbl[i]? = some w) (g : goodWord w = true) : w ∈ gT := gT_mem (List.mem_of_getElem? h) g
theorem gT_all : ∀ w ∈ gT, w ∈ gT ∧ ((w.onTables && w.keeps) = true ∨ ∃ ty, w = .arrayClass ty) := fun w h => ⟨h, good_of_word (List.mem_filter.mp h).2⟩
abbrev kcl : List vw_C := [(RX0, TX0, 3), (RX1, TX1, 11), (RX2, TX2, 2), (RX3, TX3, 7), (RX4, TX4, 8)]
