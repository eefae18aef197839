section
-- names, field tables, method names and codes: the program's own, as the task prints them (NAMES.whole, SKELETON's PART A)
-- ===== PART A: goes FIRST, ahead of the names: the tables' words, and 'selects' of the private methods out of them =====
/-- a private method of a class that the tables say can be made, by its rows of tables_1 -/
def lw_okq (q : MethodName × Nat) : Prop := (q.1.cls ≠ "java/lang/invoke/MethodHandle" ∧ q.1.cls ≠ "java/lang/invoke/VarHandle") ∧ Cond.instantiable q.1.cls q.2 ∈ tables_1 ∧ Cond.privateMethod q.1 ∈ tables_1 ∧ Cond.instanceMethod q.1 ∈ tables_1
theorem lw_p0 : lw_okq (⟨"HungStops", "isWord", "(I)Z"⟩, 8) := ⟨⟨by decide +kernel, by decide +kernel⟩, List.mem_of_getElem? (i := 10) (by decide +kernel), List.mem_of_getElem? (i := 218) (by decide +kernel), List.mem_of_getElem? (i := 219) (by decide +kernel)⟩
theorem lw_p1 : lw_okq (⟨"HungStops", "broken", "(I)LHungStops$Layout;"⟩, 8) := ⟨⟨by decide +kernel, by decide +kernel⟩, List.mem_of_getElem? (i := 10) (by decide +kernel), List.mem_of_getElem? (i := 250) (by decide +kernel), List.mem_of_getElem? (i := 251) (by decide +kernel)⟩
theorem lw_p2 : lw_okq (⟨"HungStops$Layout", "findFirstLine", "(I)V"⟩, 11) := ⟨⟨by decide +kernel, by decide +kernel⟩, List.mem_of_getElem? (i := 56) (by decide +kernel), List.mem_of_getElem? (i := 295) (by decide +kernel), List.mem_of_getElem? (i := 296) (by decide +kernel)⟩
theorem lw_p3 : lw_okq (⟨"HungStops$Layout", "badnessOf", "(II)I"⟩, 11) := ⟨⟨by decide +kernel, by decide +kernel⟩, List.mem_of_getElem? (i := 56) (by decide +kernel), List.mem_of_getElem? (i := 299) (by decide +kernel), List.mem_of_getElem? (i := 300) (by decide +kernel)⟩
theorem lw_p4 : lw_okq (⟨"HungStops", "leastBadnessOf", "(LHungStops$Sheet;)I"⟩, 8) := ⟨⟨by decide +kernel, by decide +kernel⟩, List.mem_of_getElem? (i := 10) (by decide +kernel), List.mem_of_getElem? (i := 400) (by decide +kernel), List.mem_of_getElem? (i := 401) (by decide +kernel)⟩
theorem lw_p5 : lw_okq (⟨"HungStopsModel", "changes", "()V"⟩, 18) := ⟨⟨by decide +kernel, by decide +kernel⟩, List.mem_of_getElem? (i := 445) (by decide +kernel), List.mem_of_getElem? (i := 519) (by decide +kernel), List.mem_of_getElem? (i := 520) (by decide +kernel)⟩
theorem lw_p6 : lw_okq (⟨"HungStopsModel", "isWord", "(I)Z"⟩, 18) := ⟨⟨by decide +kernel, by decide +kernel⟩, List.mem_of_getElem? (i := 445) (by decide +kernel), List.mem_of_getElem? (i := 536) (by decide +kernel), List.mem_of_getElem? (i := 537) (by decide +kernel)⟩
theorem lw_p7 : lw_okq (⟨"HungStopsModel", "widthOf", "(I)I"⟩, 18) := ⟨⟨by decide +kernel, by decide +kernel⟩, List.mem_of_getElem? (i := 445) (by decide +kernel), List.mem_of_getElem? (i := 540) (by decide +kernel), List.mem_of_getElem? (i := 541) (by decide +kernel)⟩
theorem lw_p8 : lw_okq (⟨"HungStopsModel", "signs", "(I)I"⟩, 18) := ⟨⟨by decide +kernel, by decide +kernel⟩, List.mem_of_getElem? (i := 445) (by decide +kernel), List.mem_of_getElem? (i := 544) (by decide +kernel), List.mem_of_getElem? (i := 545) (by decide +kernel)⟩
theorem lw_p9 : lw_okq (⟨"HungStopsModel", "signAt", "(II)I"⟩, 18) := ⟨⟨by decide +kernel, by decide +kernel⟩, List.mem_of_getElem? (i := 445) (by decide +kernel), List.mem_of_getElem? (i := 548) (by decide +kernel), List.mem_of_getElem? (i := 549) (by decide +kernel)⟩
theorem lw_p10 : lw_okq (⟨"HungStopsModel", "takesOut", "(I)V"⟩, 18) := ⟨⟨by decide +kernel, by decide +kernel⟩, List.mem_of_getElem? (i := 445) (by decide +kernel), List.mem_of_getElem? (i := 557) (by decide +kernel), List.mem_of_getElem? (i := 558) (by decide +kernel)⟩
theorem lw_p11 : lw_okq (⟨"HungStopsModel", "fills", "()V"⟩, 18) := ⟨⟨by decide +kernel, by decide +kernel⟩, List.mem_of_getElem? (i := 445) (by decide +kernel), List.mem_of_getElem? (i := 565) (by decide +kernel), List.mem_of_getElem? (i := 566) (by decide +kernel)⟩
theorem lw_p12 : lw_okq (⟨"HungStopsModel", "measures", "()V"⟩, 18) := ⟨⟨by decide +kernel, by decide +kernel⟩, List.mem_of_getElem? (i := 445) (by decide +kernel), List.mem_of_getElem? (i := 569) (by decide +kernel), List.mem_of_getElem? (i := 570) (by decide +kernel)⟩
theorem lw_p13 : lw_okq (⟨"HungStopsModel", "hangsLeft", "(I)I"⟩, 18) := ⟨⟨by decide +kernel, by decide +kernel⟩, List.mem_of_getElem? (i := 445) (by decide +kernel), List.mem_of_getElem? (i := 573) (by decide +kernel), List.mem_of_getElem? (i := 574) (by decide +kernel)⟩
theorem lw_p14 : lw_okq (⟨"HungStopsModel", "hang", "(II)I"⟩, 18) := ⟨⟨by decide +kernel, by decide +kernel⟩, List.mem_of_getElem? (i := 445) (by decide +kernel), List.mem_of_getElem? (i := 577) (by decide +kernel), List.mem_of_getElem? (i := 578) (by decide +kernel)⟩
theorem lw_p15 : lw_okq (⟨"HungStopsModel", "hangsRight", "(I)I"⟩, 18) := ⟨⟨by decide +kernel, by decide +kernel⟩, List.mem_of_getElem? (i := 445) (by decide +kernel), List.mem_of_getElem? (i := 581) (by decide +kernel), List.mem_of_getElem? (i := 582) (by decide +kernel)⟩
def lw_privs_1 : List (MethodName × Nat) := [(⟨"HungStops", "isWord", "(I)Z"⟩, 8), (⟨"HungStops", "broken", "(I)LHungStops$Layout;"⟩, 8), (⟨"HungStops$Layout", "findFirstLine", "(I)V"⟩, 11), (⟨"HungStops$Layout", "badnessOf", "(II)I"⟩, 11), (⟨"HungStops", "leastBadnessOf", "(LHungStops$Sheet;)I"⟩, 8), (⟨"HungStopsModel", "changes", "()V"⟩, 18), (⟨"HungStopsModel", "isWord", "(I)Z"⟩, 18), (⟨"HungStopsModel", "widthOf", "(I)I"⟩, 18), (⟨"HungStopsModel", "signs", "(I)I"⟩, 18), (⟨"HungStopsModel", "signAt", "(II)I"⟩, 18), (⟨"HungStopsModel", "takesOut", "(I)V"⟩, 18), (⟨"HungStopsModel", "fills", "()V"⟩, 18), (⟨"HungStopsModel", "measures", "()V"⟩, 18), (⟨"HungStopsModel", "hangsLeft", "(I)I"⟩, 18), (⟨"HungStopsModel", "hang", "(II)I"⟩, 18), (⟨"HungStopsModel", "hangsRight", "(I)I"⟩, 18)]
theorem lw_r1 : ∀ q ∈ lw_privs_1, lw_okq q := List.forall_mem_cons.mpr ⟨lw_p0, List.forall_mem_cons.mpr ⟨lw_p1, List.forall_mem_cons.mpr ⟨lw_p2, List.forall_mem_cons.mpr ⟨lw_p3, List.forall_mem_cons.mpr ⟨lw_p4, List.forall_mem_cons.mpr ⟨lw_p5, List.forall_mem_cons.mpr ⟨lw_p6, List.forall_mem_cons.mpr ⟨lw_p7, List.forall_mem_cons.mpr ⟨lw_p8, List.forall_mem_cons.mpr ⟨lw_p9, List.forall_mem_cons.mpr ⟨lw_p10, List.forall_mem_cons.mpr ⟨lw_p11, List.forall_mem_cons.mpr ⟨lw_p12, List.forall_mem_cons.mpr ⟨lw_p13, List.forall_mem_cons.mpr ⟨lw_p14, List.forall_mem_cons.mpr ⟨lw_p15, fun _ h => absurd h List.not_mem_nil⟩⟩⟩⟩⟩⟩⟩⟩⟩⟩⟩⟩⟩⟩⟩⟩
theorem lw_p16 : lw_okq (⟨"HungStopsModel", "bodyOf", "(II)I"⟩, 18) := ⟨⟨by decide +kernel, by decide +kernel⟩, List.mem_of_getElem? (i := 445) (by decide +kernel), List.mem_of_getElem? (i := 585) (by decide +kernel), List.mem_of_getElem? (i := 586) (by decide +kernel)⟩
theorem lw_p17 : lw_okq (⟨"HungStopsModel", "widthOfLine", "(II)I"⟩, 18) := ⟨⟨by decide +kernel, by decide +kernel⟩, List.mem_of_getElem? (i := 445) (by decide +kernel), List.mem_of_getElem? (i := 589) (by decide +kernel), List.mem_of_getElem? (i := 590) (by decide +kernel)⟩
theorem lw_p18 : lw_okq (⟨"HungStopsModel", "often", "(I)I"⟩, 18) := ⟨⟨by decide +kernel, by decide +kernel⟩, List.mem_of_getElem? (i := 445) (by decide +kernel), List.mem_of_getElem? (i := 601) (by decide +kernel), List.mem_of_getElem? (i := 602) (by decide +kernel)⟩
theorem lw_p19 : lw_okq (⟨"HungStopsModel", "lineOf", "(II)I"⟩, 18) := ⟨⟨by decide +kernel, by decide +kernel⟩, List.mem_of_getElem? (i := 445) (by decide +kernel), List.mem_of_getElem? (i := 609) (by decide +kernel), List.mem_of_getElem? (i := 610) (by decide +kernel)⟩
theorem lw_p20 : lw_okq (⟨"HungStopsModel", "breaks", "(I)V"⟩, 18) := ⟨⟨by decide +kernel, by decide +kernel⟩, List.mem_of_getElem? (i := 445) (by decide +kernel), List.mem_of_getElem? (i := 613) (by decide +kernel), List.mem_of_getElem? (i := 614) (by decide +kernel)⟩
theorem lw_p21 : lw_okq (⟨"HungStopsModel", "breaksBest", "()V"⟩, 18) := ⟨⟨by decide +kernel, by decide +kernel⟩, List.mem_of_getElem? (i := 445) (by decide +kernel), List.mem_of_getElem? (i := 617) (by decide +kernel), List.mem_of_getElem? (i := 618) (by decide +kernel)⟩
theorem lw_p22 : lw_okq (⟨"HungStopsModel", "worksOutFrom", "(I)V"⟩, 18) := ⟨⟨by decide +kernel, by decide +kernel⟩, List.mem_of_getElem? (i := 445) (by decide +kernel), List.mem_of_getElem? (i := 621) (by decide +kernel), List.mem_of_getElem? (i := 622) (by decide +kernel)⟩
theorem lw_p23 : lw_okq (⟨"HungStopsModel", "badnessOf", "(II)I"⟩, 18) := ⟨⟨by decide +kernel, by decide +kernel⟩, List.mem_of_getElem? (i := 445) (by decide +kernel), List.mem_of_getElem? (i := 625) (by decide +kernel), List.mem_of_getElem? (i := 626) (by decide +kernel)⟩
theorem lw_p24 : lw_okq (⟨"HungStopsModel", "lastOf", "(I)I"⟩, 18) := ⟨⟨by decide +kernel, by decide +kernel⟩, List.mem_of_getElem? (i := 445) (by decide +kernel), List.mem_of_getElem? (i := 637) (by decide +kernel), List.mem_of_getElem? (i := 638) (by decide +kernel)⟩
theorem lw_p25 : lw_okq (⟨"HungStopsModel", "fits", "(I)Z"⟩, 18) := ⟨⟨by decide +kernel, by decide +kernel⟩, List.mem_of_getElem? (i := 445) (by decide +kernel), List.mem_of_getElem? (i := 641) (by decide +kernel), List.mem_of_getElem? (i := 642) (by decide +kernel)⟩
theorem lw_p26 : lw_okq (⟨"HungStopsModel", "bodyOfLine", "(I)I"⟩, 18) := ⟨⟨by decide +kernel, by decide +kernel⟩, List.mem_of_getElem? (i := 445) (by decide +kernel), List.mem_of_getElem? (i := 645) (by decide +kernel), List.mem_of_getElem? (i := 646) (by decide +kernel)⟩
theorem lw_p27 : lw_okq (⟨"HungStopsModel", "looksIndented", "(I)Z"⟩, 18) := ⟨⟨by decide +kernel, by decide +kernel⟩, List.mem_of_getElem? (i := 445) (by decide +kernel), List.mem_of_getElem? (i := 649) (by decide +kernel), List.mem_of_getElem? (i := 650) (by decide +kernel)⟩
theorem lw_p28 : lw_okq (⟨"HungStopsModel", "ofLines", "(I)I"⟩, 18) := ⟨⟨by decide +kernel, by decide +kernel⟩, List.mem_of_getElem? (i := 445) (by decide +kernel), List.mem_of_getElem? (i := 658) (by decide +kernel), List.mem_of_getElem? (i := 659) (by decide +kernel)⟩
theorem lw_p29 : lw_okq (⟨"HungStopsModel", "allSigns", "()I"⟩, 18) := ⟨⟨by decide +kernel, by decide +kernel⟩, List.mem_of_getElem? (i := 445) (by decide +kernel), List.mem_of_getElem? (i := 666) (by decide +kernel), List.mem_of_getElem? (i := 667) (by decide +kernel)⟩
theorem lw_p30 : lw_okq (⟨"HungStopsModel", "areAlike", "()I"⟩, 18) := ⟨⟨by decide +kernel, by decide +kernel⟩, List.mem_of_getElem? (i := 445) (by decide +kernel), List.mem_of_getElem? (i := 670) (by decide +kernel), List.mem_of_getElem? (i := 671) (by decide +kernel)⟩
theorem lw_p31 : lw_okq (⟨"HungStopsModel", "bestBadness", "()I"⟩, 18) := ⟨⟨by decide +kernel, by decide +kernel⟩, List.mem_of_getElem? (i := 445) (by decide +kernel), List.mem_of_getElem? (i := 687) (by decide +kernel), List.mem_of_getElem? (i := 688) (by decide +kernel)⟩
def lw_privs_2 : List (MethodName × Nat) := [(⟨"HungStopsModel", "bodyOf", "(II)I"⟩, 18), (⟨"HungStopsModel", "widthOfLine", "(II)I"⟩, 18), (⟨"HungStopsModel", "often", "(I)I"⟩, 18), (⟨"HungStopsModel", "lineOf", "(II)I"⟩, 18), (⟨"HungStopsModel", "breaks", "(I)V"⟩, 18), (⟨"HungStopsModel", "breaksBest", "()V"⟩, 18), (⟨"HungStopsModel", "worksOutFrom", "(I)V"⟩, 18), (⟨"HungStopsModel", "badnessOf", "(II)I"⟩, 18), (⟨"HungStopsModel", "lastOf", "(I)I"⟩, 18), (⟨"HungStopsModel", "fits", "(I)Z"⟩, 18), (⟨"HungStopsModel", "bodyOfLine", "(I)I"⟩, 18), (⟨"HungStopsModel", "looksIndented", "(I)Z"⟩, 18), (⟨"HungStopsModel", "ofLines", "(I)I"⟩, 18), (⟨"HungStopsModel", "allSigns", "()I"⟩, 18), (⟨"HungStopsModel", "areAlike", "()I"⟩, 18), (⟨"HungStopsModel", "bestBadness", "()I"⟩, 18)]
theorem lw_r2 : ∀ q ∈ lw_privs_2, lw_okq q := List.forall_mem_cons.mpr ⟨lw_p16, List.forall_mem_cons.mpr ⟨lw_p17, List.forall_mem_cons.mpr ⟨lw_p18, List.forall_mem_cons.mpr ⟨lw_p19, List.forall_mem_cons.mpr ⟨lw_p20, List.forall_mem_cons.mpr ⟨lw_p21, List.forall_mem_cons.mpr ⟨lw_p22, List.forall_mem_cons.mpr ⟨lw_p23, List.forall_mem_cons.mpr ⟨lw_p24, List.forall_mem_cons.mpr ⟨lw_p25, List.forall_mem_cons.mpr ⟨lw_p26, List.forall_mem_cons.mpr ⟨lw_p27, List.forall_mem_cons.mpr ⟨lw_p28, List.forall_mem_cons.mpr ⟨lw_p29, List.forall_mem_cons.mpr ⟨lw_p30, List.forall_mem_cons.mpr ⟨lw_p31, fun _ h => absurd h List.not_mem_nil⟩⟩⟩⟩⟩⟩⟩⟩⟩⟩⟩⟩⟩⟩⟩⟩
theorem lw_p32 : lw_okq (⟨"HungStopsModel", "keeps", "()V"⟩, 18) := ⟨⟨by decide +kernel, by decide +kernel⟩, List.mem_of_getElem? (i := 445) (by decide +kernel), List.mem_of_getElem? (i := 695) (by decide +kernel), List.mem_of_getElem? (i := 696) (by decide +kernel)⟩
theorem lw_p33 : lw_okq (⟨"HungStopsModel", "comesBack", "()V"⟩, 18) := ⟨⟨by decide +kernel, by decide +kernel⟩, List.mem_of_getElem? (i := 445) (by decide +kernel), List.mem_of_getElem? (i := 699) (by decide +kernel), List.mem_of_getElem? (i := 700) (by decide +kernel)⟩
theorem lw_p34 : lw_okq (⟨"HungStopsModel", "wordEnd", "(I)I"⟩, 18) := ⟨⟨by decide +kernel, by decide +kernel⟩, List.mem_of_getElem? (i := 445) (by decide +kernel), List.mem_of_getElem? (i := 721) (by decide +kernel), List.mem_of_getElem? (i := 722) (by decide +kernel)⟩
def lw_privs_3 : List (MethodName × Nat) := [(⟨"HungStopsModel", "keeps", "()V"⟩, 18), (⟨"HungStopsModel", "comesBack", "()V"⟩, 18), (⟨"HungStopsModel", "wordEnd", "(I)I"⟩, 18)]
theorem lw_r3 : ∀ q ∈ lw_privs_3, lw_okq q := List.forall_mem_cons.mpr ⟨lw_p32, List.forall_mem_cons.mpr ⟨lw_p33, List.forall_mem_cons.mpr ⟨lw_p34, fun _ h => absurd h List.not_mem_nil⟩⟩⟩
def lw_privs : List (MethodName × Nat) := lw_privs_1 ++ (lw_privs_2 ++ (lw_privs_3))
def lw_tbl : List Cond := k2_sels lw_privs ++ tables_1
theorem lw_privs_ok : ∀ q ∈ lw_privs, lw_okq q := by
  show ∀ q ∈ lw_privs_1 ++ (lw_privs_2 ++ (lw_privs_3)), lw_okq q
  exact List.forall_mem_append.mpr ⟨lw_r1, List.forall_mem_append.mpr ⟨lw_r2, lw_r3⟩⟩
def RX0 : String := "HungStops$History"
def TX0 : u_T := fun k => match k with
  | 0 => ("HungStops$History", "states", "[LHungStops$Sheet;", true)
  | 1 => ("HungStops$History", "next", "I", false)
  | _ => ("HungStops$History", "size", "I", false)
def tyX0 : Nat → FieldType := fun k => match k with
  | 0 => .array (.object "HungStops$Sheet")
  | 1 => .int
  | _ => .int
theorem nmX0 : ∀ a, a < 3 → ∀ b, b < 3 → a ≠ b → (TX0 a).2.1 ≠ (TX0 b).2.1 := by decide +kernel
theorem tyX0_ok : ∀ k, k < 3 → parseFieldDescriptor (TX0 k).2.2.1 = some (tyX0 k) := by decide +kernel
abbrev cX0_init : ByteArray := prog_2_method_1_code
def yX0_init : MethodName := ⟨RX0, "<init>", "()V"⟩
abbrev cX0_record : ByteArray := prog_2_method_2_code
def yX0_record : MethodName := ⟨RX0, "record", "(LHungStops$Sheet;)V"⟩
abbrev cX0_takeBack : ByteArray := prog_2_method_3_code
def yX0_takeBack : MethodName := ⟨RX0, "takeBack", "(LHungStops$Sheet;)V"⟩
def RX1 : String := "HungStops$Layout"
def TX1 : u_T := fun k => match k with
  | 0 => ("HungStops$Layout", "places", "[I", true)
  | 1 => ("HungStops$Layout", "leftHangs", "[I", true)
  | 2 => ("HungStops$Layout", "rightHangs", "[I", true)
  | 3 => ("HungStops$Layout", "words", "I", false)
  | 4 => ("HungStops$Layout", "measure", "I", false)
  | 5 => ("HungStops$Layout", "space", "I", false)
  | 6 => ("HungStops$Layout", "loose", "I", false)
  | 7 => ("HungStops$Layout", "starts", "[I", true)
  | 8 => ("HungStops$Layout", "lines", "I", false)
  | 9 => ("HungStops$Layout", "leastFrom", "[I", true)
  | _ => ("HungStops$Layout", "nextStart", "[I", true)
def tyX1 : Nat → FieldType := fun k => match k with
  | 0 => .array .int
  | 1 => .array .int
  | 2 => .array .int
  | 3 => .int
  | 4 => .int
  | 5 => .int
  | 6 => .int
  | 7 => .array .int
  | 8 => .int
  | 9 => .array .int
  | _ => .array .int
theorem nmX1 : ∀ a, a < 11 → ∀ b, b < 11 → a ≠ b → (TX1 a).2.1 ≠ (TX1 b).2.1 := by decide +kernel
theorem tyX1_ok : ∀ k, k < 11 → parseFieldDescriptor (TX1 k).2.2.1 = some (tyX1 k) := by decide +kernel
abbrev cX1_init : ByteArray := prog_3_method_1_code
def yX1_init : MethodName := ⟨RX1, "<init>", "()V"⟩
abbrev cX1_weigh : ByteArray := prog_3_method_2_code
def yX1_weigh : MethodName := ⟨RX1, "weigh", "(LHungStops$Sheet;)V"⟩
abbrev cX1_widthFrom : ByteArray := prog_3_method_3_code
def yX1_widthFrom : MethodName := ⟨RX1, "widthFrom", "(II)I"⟩
abbrev cX1_bodyOf : ByteArray := prog_3_method_4_code
def yX1_bodyOf : MethodName := ⟨RX1, "bodyOf", "(II)I"⟩
abbrev cX1_fillGreedily : ByteArray := prog_3_method_5_code
def yX1_fillGreedily : MethodName := ⟨RX1, "fillGreedily", "()V"⟩
abbrev cX1_breakBest : ByteArray := prog_3_method_6_code
def yX1_breakBest : MethodName := ⟨RX1, "breakBest", "()V"⟩
abbrev cX1_leastBadness : ByteArray := prog_3_method_7_code
def yX1_leastBadness : MethodName := ⟨RX1, "leastBadness", "()I"⟩
abbrev cX1_findFirstLine : ByteArray := prog_3_method_8_code
def yX1_findFirstLine : MethodName := ⟨RX1, "findFirstLine", "(I)V"⟩
abbrev cX1_badnessOf : ByteArray := prog_3_method_9_code
def yX1_badnessOf : MethodName := ⟨RX1, "badnessOf", "(II)I"⟩
abbrev cX1_lineWith : ByteArray := prog_3_method_10_code
def yX1_lineWith : MethodName := ⟨RX1, "lineWith", "(I)I"⟩
abbrev cX1_lastWord : ByteArray := prog_3_method_11_code
def yX1_lastWord : MethodName := ⟨RX1, "lastWord", "(I)I"⟩
abbrev cX1_bodyOfLine : ByteArray := prog_3_method_12_code
def yX1_bodyOfLine : MethodName := ⟨RX1, "bodyOfLine", "(I)I"⟩
abbrev cX1_fits : ByteArray := prog_3_method_13_code
def yX1_fits : MethodName := ⟨RX1, "fits", "(I)Z"⟩
abbrev cX1_looksIndented : ByteArray := prog_3_method_14_code
def yX1_looksIndented : MethodName := ⟨RX1, "looksIndented", "(I)Z"⟩
abbrev cX1_tellLine : ByteArray := prog_3_method_15_code
def yX1_tellLine : MethodName := ⟨RX1, "tellLine", "(II)I"⟩
abbrev cX1_badness : ByteArray := prog_3_method_16_code
def yX1_badness : MethodName := ⟨RX1, "badness", "()I"⟩
abbrev cX1_countIndented : ByteArray := prog_3_method_17_code
def yX1_countIndented : MethodName := ⟨RX1, "countIndented", "()I"⟩
abbrev cX1_countUnfit : ByteArray := prog_3_method_18_code
def yX1_countUnfit : MethodName := ⟨RX1, "countUnfit", "()I"⟩
abbrev cX1_greatestBody : ByteArray := prog_3_method_19_code
def yX1_greatestBody : MethodName := ⟨RX1, "greatestBody", "()I"⟩
abbrev cX1_breaksLike : ByteArray := prog_3_method_20_code
def yX1_breaksLike : MethodName := ⟨RX1, "breaksLike", "(LHungStops$Layout;)Z"⟩
def RX2 : String := "HungStops$Pad"
def TX2 : u_T := fun k => match k with
  | 0 => ("HungStops$Pad", "text", "[C", true)
  | _ => ("HungStops$Pad", "length", "I", false)
def tyX2 : Nat → FieldType := fun k => match k with
  | 0 => .array .char
  | _ => .int
theorem nmX2 : ∀ a, a < 2 → ∀ b, b < 2 → a ≠ b → (TX2 a).2.1 ≠ (TX2 b).2.1 := by decide +kernel
theorem tyX2_ok : ∀ k, k < 2 → parseFieldDescriptor (TX2 k).2.2.1 = some (tyX2 k) := by decide +kernel
abbrev cX2_init : ByteArray := prog_4_method_1_code
def yX2_init : MethodName := ⟨RX2, "<init>", "()V"⟩
abbrev cX2_lengthOf : ByteArray := prog_4_method_2_code
def yX2_lengthOf : MethodName := ⟨RX2, "lengthOf", "(J)I"⟩
abbrev cX2_append : ByteArray := prog_4_method_3_code
def yX2_append : MethodName := ⟨RX2, "append", "(JI)V"⟩
abbrev cX2_firstFault : ByteArray := prog_4_method_4_code
def yX2_firstFault : MethodName := ⟨RX2, "firstFault", "()I"⟩
abbrev cX2_countWords : ByteArray := prog_4_method_5_code
def yX2_countWords : MethodName := ⟨RX2, "countWords", "()I"⟩
abbrev cX2_addWordsTo : ByteArray := prog_4_method_6_code
def yX2_addWordsTo : MethodName := ⟨RX2, "addWordsTo", "(LHungStops$Sheet;)V"⟩
def RX3 : String := "HungStops$Sheet"
def TX3 : u_T := fun k => match k with
  | 0 => ("HungStops$Sheet", "settings", "[I", true)
  | 1 => ("HungStops$Sheet", "widths", "[I", true)
  | 2 => ("HungStops$Sheet", "lefts", "[I", true)
  | 3 => ("HungStops$Sheet", "rights", "[I", true)
  | 4 => ("HungStops$Sheet", "signs", "[C", true)
  | 5 => ("HungStops$Sheet", "lengths", "[I", true)
  | _ => ("HungStops$Sheet", "words", "I", false)
def tyX3 : Nat → FieldType := fun k => match k with
  | 0 => .array .int
  | 1 => .array .int
  | 2 => .array .int
  | 3 => .array .int
  | 4 => .array .char
  | 5 => .array .int
  | _ => .int
theorem nmX3 : ∀ a, a < 7 → ∀ b, b < 7 → a ≠ b → (TX3 a).2.1 ≠ (TX3 b).2.1 := by decide +kernel
theorem tyX3_ok : ∀ k, k < 7 → parseFieldDescriptor (TX3 k).2.2.1 = some (tyX3 k) := by decide +kernel
abbrev cX3_init : ByteArray := prog_5_method_1_code
def yX3_init : MethodName := ⟨RX3, "<init>", "()V"⟩
abbrev cX3_copyFrom : ByteArray := prog_5_method_2_code
def yX3_copyFrom : MethodName := ⟨RX3, "copyFrom", "(LHungStops$Sheet;)V"⟩
abbrev cX3_beginWord : ByteArray := prog_5_method_3_code
def yX3_beginWord : MethodName := ⟨RX3, "beginWord", "()V"⟩
abbrev cX3_addSign : ByteArray := prog_5_method_4_code
def yX3_addSign : MethodName := ⟨RX3, "addSign", "(C)V"⟩
abbrev cX3_takeOut : ByteArray := prog_5_method_5_code
def yX3_takeOut : MethodName := ⟨RX3, "takeOut", "(I)V"⟩
abbrev cX3_exchange : ByteArray := prog_5_method_6_code
def yX3_exchange : MethodName := ⟨RX3, "exchange", "(II)V"⟩
abbrev cX3_signAt : ByteArray := prog_5_method_7_code
def yX3_signAt : MethodName := ⟨RX3, "signAt", "(II)C"⟩
abbrev cX3_sortAt : ByteArray := prog_5_method_8_code
def yX3_sortAt : MethodName := ⟨RX3, "sortAt", "(II)I"⟩
abbrev cX3_widthOf : ByteArray := prog_5_method_9_code
def yX3_widthOf : MethodName := ⟨RX3, "widthOf", "(I)I"⟩
abbrev cX3_countSigns : ByteArray := prog_5_method_10_code
def yX3_countSigns : MethodName := ⟨RX3, "countSigns", "()I"⟩
abbrev cX3_countOf : ByteArray := prog_5_method_11_code
def yX3_countOf : MethodName := ⟨RX3, "countOf", "(I)I"⟩
abbrev cX3_hangAtLeft : ByteArray := prog_5_method_12_code
def yX3_hangAtLeft : MethodName := ⟨RX3, "hangAtLeft", "(I)I"⟩
abbrev cX3_hangAtRight : ByteArray := prog_5_method_13_code
def yX3_hangAtRight : MethodName := ⟨RX3, "hangAtRight", "(I)I"⟩
abbrev cX3_leftHangOf : ByteArray := prog_5_method_14_code
def yX3_leftHangOf : MethodName := ⟨RX3, "leftHangOf", "(I)I"⟩
abbrev cX3_rightHangOf : ByteArray := prog_5_method_15_code
def yX3_rightHangOf : MethodName := ⟨RX3, "rightHangOf", "(I)I"⟩
def RX4 : String := "HungStops"
def TX4 : u_T := fun k => match k with
  | 0 => ("HungStops", "now", "LHungStops$Sheet;", true)
  | 1 => ("HungStops", "trial", "LHungStops$Sheet;", true)
  | 2 => ("HungStops", "greedy", "LHungStops$Layout;", true)
  | 3 => ("HungStops", "best", "LHungStops$Layout;", true)
  | 4 => ("HungStops", "pad", "LHungStops$Pad;", true)
  | 5 => ("HungStops", "history", "LHungStops$History;", true)
  | 6 => ("HungStops", "slots", "[LHungStops$Sheet;", true)
  | _ => ("HungStops", "filled", "[Z", true)
def tyX4 : Nat → FieldType := fun k => match k with
  | 0 => .object "HungStops$Sheet"
  | 1 => .object "HungStops$Sheet"
  | 2 => .object "HungStops$Layout"
  | 3 => .object "HungStops$Layout"
  | 4 => .object "HungStops$Pad"
  | 5 => .object "HungStops$History"
  | 6 => .array (.object "HungStops$Sheet")
  | _ => .array .boolean
theorem nmX4 : ∀ a, a < 8 → ∀ b, b < 8 → a ≠ b → (TX4 a).2.1 ≠ (TX4 b).2.1 := by decide +kernel
theorem tyX4_ok : ∀ k, k < 8 → parseFieldDescriptor (TX4 k).2.2.1 = some (tyX4 k) := by decide +kernel
abbrev cX4_init : ByteArray := prog_1_method_1_code
def yX4_init : MethodName := ⟨RX4, "<init>", "()V"⟩
abbrev cX4_set : ByteArray := prog_1_method_2_code
def yX4_set : MethodName := ⟨RX4, "set", "(II)I"⟩
abbrev cX4_sort : ByteArray := prog_1_method_3_code
def yX4_sort : MethodName := ⟨RX4, "sort", "(IIII)I"⟩
abbrev cX4_read : ByteArray := prog_1_method_4_code
def yX4_read : MethodName := ⟨RX4, "read", "()I"⟩
abbrev cX4_drop : ByteArray := prog_1_method_5_code
def yX4_drop : MethodName := ⟨RX4, "drop", "(I)I"⟩
abbrev cX4_swap : ByteArray := prog_1_method_6_code
def yX4_swap : MethodName := ⟨RX4, "swap", "(II)I"⟩
abbrev cX4_clear : ByteArray := prog_1_method_7_code
def yX4_clear : MethodName := ⟨RX4, "clear", "()I"⟩
abbrev cX4_sortOf : ByteArray := prog_1_method_8_code
def yX4_sortOf : MethodName := ⟨RX4, "sortOf", "(II)I"⟩
abbrev cX4_word : ByteArray := prog_1_method_9_code
def yX4_word : MethodName := ⟨RX4, "word", "(II)I"⟩
abbrev cX4_line : ByteArray := prog_1_method_10_code
def yX4_line : MethodName := ⟨RX4, "line", "(III)I"⟩
abbrev cX4_lines : ByteArray := prog_1_method_11_code
def yX4_lines : MethodName := ⟨RX4, "lines", "(II)I"⟩
abbrev cX4_count : ByteArray := prog_1_method_12_code
def yX4_count : MethodName := ⟨RX4, "count", "(I)I"⟩
abbrev cX4_body : ByteArray := prog_1_method_13_code
def yX4_body : MethodName := ⟨RX4, "body", "(II)I"⟩
abbrev cX4_leastMeasure : ByteArray := prog_1_method_14_code
def yX4_leastMeasure : MethodName := ⟨RX4, "leastMeasure", "(I)I"⟩
abbrev cX4_bestShare : ByteArray := prog_1_method_15_code
def yX4_bestShare : MethodName := ⟨RX4, "bestShare", "(I)I"⟩
abbrev cX4_worstWord : ByteArray := prog_1_method_16_code
def yX4_worstWord : MethodName := ⟨RX4, "worstWord", "()I"⟩
abbrev cX4_put : ByteArray := prog_1_method_17_code
def yX4_put : MethodName := ⟨RX4, "put", "(J)I"⟩
abbrev cX4_wipe : ByteArray := prog_1_method_18_code
def yX4_wipe : MethodName := ⟨RX4, "wipe", "()I"⟩
abbrev cX4_fault : ByteArray := prog_1_method_19_code
def yX4_fault : MethodName := ⟨RX4, "fault", "()I"⟩
abbrev cX4_undo : ByteArray := prog_1_method_20_code
def yX4_undo : MethodName := ⟨RX4, "undo", "()I"⟩
abbrev cX4_save : ByteArray := prog_1_method_21_code
def yX4_save : MethodName := ⟨RX4, "save", "(I)I"⟩
abbrev cX4_restore : ByteArray := prog_1_method_22_code
def yX4_restore : MethodName := ⟨RX4, "restore", "(I)I"⟩
abbrev cX4_isSort : ByteArray := prog_1_method_23_code
def yX4_isSort : MethodName := ⟨RX4, "isSort", "(I)Z"⟩
abbrev cX4_isShare : ByteArray := prog_1_method_24_code
def yX4_isShare : MethodName := ⟨RX4, "isShare", "(I)Z"⟩
abbrev cX4_isWay : ByteArray := prog_1_method_25_code
def yX4_isWay : MethodName := ⟨RX4, "isWay", "(I)Z"⟩
abbrev cX4_isWord : ByteArray := prog_1_method_26_code
def yX4_isWord : MethodName := ⟨RX4, "isWord", "(I)Z"⟩
abbrev cX4_sortWith : ByteArray := prog_1_method_27_code
def yX4_sortWith : MethodName := ⟨RX4, "sortWith", "(I)I"⟩
abbrev cX4_broken : ByteArray := prog_1_method_28_code
def yX4_broken : MethodName := ⟨RX4, "broken", "(I)LHungStops$Layout;"⟩
abbrev cX4_leastBadnessOf : ByteArray := prog_1_method_29_code
def yX4_leastBadnessOf : MethodName := ⟨RX4, "leastBadnessOf", "(LHungStops$Sheet;)I"⟩
def RX5 : String := "HungStopsModel"
def TX5 : u_T := fun k => match k with
  | 0 => ("HungStopsModel", "all", "[I", true)
  | 1 => ("HungStopsModel", "kept", "[I", true)
  | 2 => ("HungStopsModel", "history", "[I", true)
  | 3 => ("HungStopsModel", "historyLong", "I", false)
  | 4 => ("HungStopsModel", "slots", "[I", true)
  | 5 => ("HungStopsModel", "isSaved", "[I", true)
  | 6 => ("HungStopsModel", "ahead", "[I", true)
  | 7 => ("HungStopsModel", "lefts", "[I", true)
  | 8 => ("HungStopsModel", "rights", "[I", true)
  | 9 => ("HungStopsModel", "starts", "[I", true)
  | 10 => ("HungStopsModel", "lines", "I", false)
  | 11 => ("HungStopsModel", "least", "[I", true)
  | 12 => ("HungStopsModel", "takes", "[I", true)
  | 13 => ("HungStopsModel", "text", "[I", true)
  | 14 => ("HungStopsModel", "textLong", "I", false)
  | 15 => ("HungStopsModel", "begins", "[I", true)
  | 16 => ("HungStopsModel", "lengths", "[I", true)
  | _ => ("HungStopsModel", "read", "I", false)
def tyX5 : Nat → FieldType := fun k => match k with
  | 0 => .array .int
  | 1 => .array .int
  | 2 => .array .int
  | 3 => .int
  | 4 => .array .int
  | 5 => .array .int
  | 6 => .array .int
  | 7 => .array .int
  | 8 => .array .int
  | 9 => .array .int
  | 10 => .int
  | 11 => .array .int
  | 12 => .array .int
  | 13 => .array .int
  | 14 => .int
  | 15 => .array .int
  | 16 => .array .int
  | _ => .int
theorem nmX5 : ∀ a, a < 18 → ∀ b, b < 18 → a ≠ b → (TX5 a).2.1 ≠ (TX5 b).2.1 := by decide +kernel
theorem tyX5_ok : ∀ k, k < 18 → parseFieldDescriptor (TX5 k).2.2.1 = some (tyX5 k) := by decide +kernel
abbrev cX5_init : ByteArray := prog_7_method_1_code
def yX5_init : MethodName := ⟨RX5, "<init>", "()V"⟩
abbrev cX5_in : ByteArray := prog_7_method_3_code
def yX5_in : MethodName := ⟨RX5, "in", "(JJJ)Z"⟩
abbrev cX5_changes : ByteArray := prog_7_method_4_code
def yX5_changes : MethodName := ⟨RX5, "changes", "()V"⟩
abbrev cX5_keeps : ByteArray := prog_7_method_5_code
def yX5_keeps : MethodName := ⟨RX5, "keeps", "()V"⟩
abbrev cX5_comesBack : ByteArray := prog_7_method_6_code
def yX5_comesBack : MethodName := ⟨RX5, "comesBack", "()V"⟩
abbrev cX5_isSort : ByteArray := prog_7_method_7_code
def yX5_isSort : MethodName := ⟨RX5, "isSort", "(I)Z"⟩
abbrev cX5_sortBy : ByteArray := prog_7_method_8_code
def yX5_sortBy : MethodName := ⟨RX5, "sortBy", "(I)I"⟩
abbrev cX5_isWord : ByteArray := prog_7_method_9_code
def yX5_isWord : MethodName := ⟨RX5, "isWord", "(I)Z"⟩
abbrev cX5_signs : ByteArray := prog_7_method_10_code
def yX5_signs : MethodName := ⟨RX5, "signs", "(I)I"⟩
abbrev cX5_signAt : ByteArray := prog_7_method_11_code
def yX5_signAt : MethodName := ⟨RX5, "signAt", "(II)I"⟩
abbrev cX5_widthOf : ByteArray := prog_7_method_12_code
def yX5_widthOf : MethodName := ⟨RX5, "widthOf", "(I)I"⟩
abbrev cX5_hang : ByteArray := prog_7_method_13_code
def yX5_hang : MethodName := ⟨RX5, "hang", "(II)I"⟩
abbrev cX5_hangsLeft : ByteArray := prog_7_method_14_code
def yX5_hangsLeft : MethodName := ⟨RX5, "hangsLeft", "(I)I"⟩
abbrev cX5_hangsRight : ByteArray := prog_7_method_15_code
def yX5_hangsRight : MethodName := ⟨RX5, "hangsRight", "(I)I"⟩
abbrev cX5_measures : ByteArray := prog_7_method_16_code
def yX5_measures : MethodName := ⟨RX5, "measures", "()V"⟩
abbrev cX5_widthOfLine : ByteArray := prog_7_method_17_code
def yX5_widthOfLine : MethodName := ⟨RX5, "widthOfLine", "(II)I"⟩
abbrev cX5_bodyOf : ByteArray := prog_7_method_18_code
def yX5_bodyOf : MethodName := ⟨RX5, "bodyOf", "(II)I"⟩
abbrev cX5_badnessOf : ByteArray := prog_7_method_19_code
def yX5_badnessOf : MethodName := ⟨RX5, "badnessOf", "(II)I"⟩
abbrev cX5_fills : ByteArray := prog_7_method_20_code
def yX5_fills : MethodName := ⟨RX5, "fills", "()V"⟩
abbrev cX5_worksOutFrom : ByteArray := prog_7_method_21_code
def yX5_worksOutFrom : MethodName := ⟨RX5, "worksOutFrom", "(I)V"⟩
abbrev cX5_breaksBest : ByteArray := prog_7_method_22_code
def yX5_breaksBest : MethodName := ⟨RX5, "breaksBest", "()V"⟩
abbrev cX5_breaks : ByteArray := prog_7_method_23_code
def yX5_breaks : MethodName := ⟨RX5, "breaks", "(I)V"⟩
abbrev cX5_bestBadness : ByteArray := prog_7_method_24_code
def yX5_bestBadness : MethodName := ⟨RX5, "bestBadness", "()I"⟩
abbrev cX5_lastOf : ByteArray := prog_7_method_25_code
def yX5_lastOf : MethodName := ⟨RX5, "lastOf", "(I)I"⟩
abbrev cX5_bodyOfLine : ByteArray := prog_7_method_26_code
def yX5_bodyOfLine : MethodName := ⟨RX5, "bodyOfLine", "(I)I"⟩
abbrev cX5_fits : ByteArray := prog_7_method_27_code
def yX5_fits : MethodName := ⟨RX5, "fits", "(I)Z"⟩
abbrev cX5_looksIndented : ByteArray := prog_7_method_28_code
def yX5_looksIndented : MethodName := ⟨RX5, "looksIndented", "(I)Z"⟩
abbrev cX5_isSetting : ByteArray := prog_7_method_29_code
def yX5_isSetting : MethodName := ⟨RX5, "isSetting", "(II)Z"⟩
abbrev cX5_set : ByteArray := prog_7_method_30_code
def yX5_set : MethodName := ⟨RX5, "set", "(II)I"⟩
abbrev cX5_sort : ByteArray := prog_7_method_31_code
def yX5_sort : MethodName := ⟨RX5, "sort", "(IIII)I"⟩
abbrev cX5_takesOut : ByteArray := prog_7_method_32_code
def yX5_takesOut : MethodName := ⟨RX5, "takesOut", "(I)V"⟩
abbrev cX5_drop : ByteArray := prog_7_method_33_code
def yX5_drop : MethodName := ⟨RX5, "drop", "(I)I"⟩
abbrev cX5_swap : ByteArray := prog_7_method_34_code
def yX5_swap : MethodName := ⟨RX5, "swap", "(II)I"⟩
abbrev cX5_clear : ByteArray := prog_7_method_35_code
def yX5_clear : MethodName := ⟨RX5, "clear", "()I"⟩
abbrev cX5_often : ByteArray := prog_7_method_36_code
def yX5_often : MethodName := ⟨RX5, "often", "(I)I"⟩
abbrev cX5_sortOf : ByteArray := prog_7_method_37_code
def yX5_sortOf : MethodName := ⟨RX5, "sortOf", "(II)I"⟩
abbrev cX5_lineOf : ByteArray := prog_7_method_38_code
def yX5_lineOf : MethodName := ⟨RX5, "lineOf", "(II)I"⟩
abbrev cX5_word : ByteArray := prog_7_method_39_code
def yX5_word : MethodName := ⟨RX5, "word", "(II)I"⟩
abbrev cX5_isWay : ByteArray := prog_7_method_40_code
def yX5_isWay : MethodName := ⟨RX5, "isWay", "(I)Z"⟩
abbrev cX5_line : ByteArray := prog_7_method_41_code
def yX5_line : MethodName := ⟨RX5, "line", "(III)I"⟩
abbrev cX5_ofLines : ByteArray := prog_7_method_42_code
def yX5_ofLines : MethodName := ⟨RX5, "ofLines", "(I)I"⟩
abbrev cX5_lines : ByteArray := prog_7_method_43_code
def yX5_lines : MethodName := ⟨RX5, "lines", "(II)I"⟩
abbrev cX5_areAlike : ByteArray := prog_7_method_44_code
def yX5_areAlike : MethodName := ⟨RX5, "areAlike", "()I"⟩
abbrev cX5_allSigns : ByteArray := prog_7_method_45_code
def yX5_allSigns : MethodName := ⟨RX5, "allSigns", "()I"⟩
abbrev cX5_count : ByteArray := prog_7_method_46_code
def yX5_count : MethodName := ⟨RX5, "count", "(I)I"⟩
abbrev cX5_body : ByteArray := prog_7_method_47_code
def yX5_body : MethodName := ⟨RX5, "body", "(II)I"⟩
abbrev cX5_leastMeasure : ByteArray := prog_7_method_48_code
def yX5_leastMeasure : MethodName := ⟨RX5, "leastMeasure", "(I)I"⟩
abbrev cX5_bestShare : ByteArray := prog_7_method_49_code
def yX5_bestShare : MethodName := ⟨RX5, "bestShare", "(I)I"⟩
abbrev cX5_worstWord : ByteArray := prog_7_method_50_code
def yX5_worstWord : MethodName := ⟨RX5, "worstWord", "()I"⟩
abbrev cX5_charactersOf : ByteArray := prog_7_method_51_code
def yX5_charactersOf : MethodName := ⟨RX5, "charactersOf", "(J)I"⟩
abbrev cX5_put : ByteArray := prog_7_method_52_code
def yX5_put : MethodName := ⟨RX5, "put", "(J)I"⟩
abbrev cX5_wipe : ByteArray := prog_7_method_53_code
def yX5_wipe : MethodName := ⟨RX5, "wipe", "()I"⟩
abbrev cX5_wordEnd : ByteArray := prog_7_method_54_code
def yX5_wordEnd : MethodName := ⟨RX5, "wordEnd", "(I)I"⟩
abbrev cX5_fault : ByteArray := prog_7_method_55_code
def yX5_fault : MethodName := ⟨RX5, "fault", "()I"⟩
abbrev cX5_read : ByteArray := prog_7_method_56_code
def yX5_read : MethodName := ⟨RX5, "read", "()I"⟩
abbrev cX5_undo : ByteArray := prog_7_method_57_code
def yX5_undo : MethodName := ⟨RX5, "undo", "()I"⟩
abbrev cX5_isSlot : ByteArray := prog_7_method_58_code
def yX5_isSlot : MethodName := ⟨RX5, "isSlot", "(I)Z"⟩
abbrev cX5_save : ByteArray := prog_7_method_59_code
def yX5_save : MethodName := ⟨RX5, "save", "(I)I"⟩
abbrev cX5_restore : ByteArray := prog_7_method_60_code
def yX5_restore : MethodName := ⟨RX5, "restore", "(I)I"⟩
def RL : String := "HungStopsLaw"
abbrev cL_law : ByteArray := code
def yL_law : MethodName := ⟨RL, "law", "([I)Z"⟩
def gT : List Cond := lw_tbl.filter goodWord
theorem gT_mem {w : Cond} (h : w ∈ lw_tbl) (g : goodWord w = true) : w ∈ gT := List.mem_filter.mpr ⟨h, g⟩
theorem gT_i {w : Cond} (i : Nat) (h : lw_tbl[i]? = some w) (g : goodWord w = true) : w ∈ gT := gT_mem (List.mem_of_getElem? h) g
theorem gT_all : ∀ w ∈ gT, w ∈ gT ∧ ((w.onTables && w.keeps) = true ∨ ∃ ty, w = .arrayClass ty) := fun w h => ⟨h, good_of_word (List.mem_filter.mp h).2⟩
abbrev kcl : List vw_C := [(RX0, TX0, 3), (RX1, TX1, 11), (RX2, TX2, 2), (RX3, TX3, 7), (RX4, TX4, 8), (RX5, TX5, 18)]
end
section
theorem dX0_init_0 : decode cX0_init 0 = .ok (.aload_n 0, 1) := by decide +kernel
theorem dX0_init_1 : decode cX0_init 1 = .ok (.invokespecial 3, 3) := by decide +kernel
theorem dX0_init_4 : decode cX0_init 4 = .ok (.aload_n 0, 1) := by decide +kernel
theorem dX0_init_5 : decode cX0_init 5 = .ok (.bipush 6, 2) := by decide +kernel
theorem dX0_init_7 : decode cX0_init 7 = .ok (.anewarray 9, 3) := by decide +kernel
theorem dX0_init_10 : decode cX0_init 10 = .ok (.putfield 11, 3) := by decide +kernel
theorem dX0_init_13 : decode cX0_init 13 = .ok (.aload_n 0, 1) := by decide +kernel
theorem dX0_init_14 : decode cX0_init 14 = .ok (.iconst 0, 1) := by decide +kernel
theorem dX0_init_15 : decode cX0_init 15 = .ok (.putfield 17, 3) := by decide +kernel
theorem dX0_init_18 : decode cX0_init 18 = .ok (.aload_n 0, 1) := by decide +kernel
theorem dX0_init_19 : decode cX0_init 19 = .ok (.iconst 0, 1) := by decide +kernel
theorem dX0_init_20 : decode cX0_init 20 = .ok (.putfield 21, 3) := by decide +kernel
theorem dX0_init_23 : decode cX0_init 23 = .ok (.iconst 0, 1) := by decide +kernel
theorem dX0_init_24 : decode cX0_init 24 = .ok (.istore_n 1, 1) := by decide +kernel
theorem dX0_init_25 : decode cX0_init 25 = .ok (.iload_n 1, 1) := by decide +kernel
theorem dX0_init_26 : decode cX0_init 26 = .ok (.bipush 6, 2) := by decide +kernel
theorem dX0_init_28 : decode cX0_init 28 = .ok (.if_icmp .ge 22, 3) := by decide +kernel
theorem dX0_init_31 : decode cX0_init 31 = .ok (.aload_n 0, 1) := by decide +kernel
theorem dX0_init_32 : decode cX0_init 32 = .ok (.getfield 11, 3) := by decide +kernel
theorem dX0_init_35 : decode cX0_init 35 = .ok (.iload_n 1, 1) := by decide +kernel
theorem dX0_init_36 : decode cX0_init 36 = .ok (.new 9, 3) := by decide +kernel
theorem dX0_init_39 : decode cX0_init 39 = .ok (.dup, 1) := by decide +kernel
theorem dX0_init_40 : decode cX0_init 40 = .ok (.invokespecial 24, 3) := by decide +kernel
theorem dX0_init_43 : decode cX0_init 43 = .ok (.aastore, 1) := by decide +kernel
theorem dX0_init_44 : decode cX0_init 44 = .ok (.iinc 1 1, 3) := by decide +kernel
theorem dX0_init_47 : decode cX0_init 47 = .ok (.goto (-22), 3) := by decide +kernel
theorem dX0_init_50 : decode cX0_init 50 = .ok (.return_, 1) := by decide +kernel
theorem dX0_record_0 : decode cX0_record 0 = .ok (.aload_n 0, 1) := by decide +kernel
theorem dX0_record_1 : decode cX0_record 1 = .ok (.getfield 11, 3) := by decide +kernel
theorem dX0_record_4 : decode cX0_record 4 = .ok (.aload_n 0, 1) := by decide +kernel
theorem dX0_record_5 : decode cX0_record 5 = .ok (.getfield 17, 3) := by decide +kernel
theorem dX0_record_8 : decode cX0_record 8 = .ok (.aaload, 1) := by decide +kernel
theorem dX0_record_9 : decode cX0_record 9 = .ok (.aload_n 1, 1) := by decide +kernel
theorem dX0_record_10 : decode cX0_record 10 = .ok (.invokevirtual 25, 3) := by decide +kernel
theorem dX0_record_13 : decode cX0_record 13 = .ok (.aload_n 0, 1) := by decide +kernel
theorem dX0_record_14 : decode cX0_record 14 = .ok (.aload_n 0, 1) := by decide +kernel
theorem dX0_record_15 : decode cX0_record 15 = .ok (.getfield 17, 3) := by decide +kernel
theorem dX0_record_18 : decode cX0_record 18 = .ok (.iconst 1, 1) := by decide +kernel
theorem dX0_record_19 : decode cX0_record 19 = .ok (.iadd, 1) := by decide +kernel
theorem dX0_record_20 : decode cX0_record 20 = .ok (.bipush 6, 2) := by decide +kernel
theorem dX0_record_22 : decode cX0_record 22 = .ok (.irem, 1) := by decide +kernel
theorem dX0_record_23 : decode cX0_record 23 = .ok (.putfield 17, 3) := by decide +kernel
theorem dX0_record_26 : decode cX0_record 26 = .ok (.aload_n 0, 1) := by decide +kernel
theorem dX0_record_27 : decode cX0_record 27 = .ok (.getfield 21, 3) := by decide +kernel
theorem dX0_record_30 : decode cX0_record 30 = .ok (.bipush 6, 2) := by decide +kernel
theorem dX0_record_32 : decode cX0_record 32 = .ok (.if_icmp .ge 13, 3) := by decide +kernel
theorem dX0_record_35 : decode cX0_record 35 = .ok (.aload_n 0, 1) := by decide +kernel
theorem dX0_record_36 : decode cX0_record 36 = .ok (.dup, 1) := by decide +kernel
theorem dX0_record_37 : decode cX0_record 37 = .ok (.getfield 21, 3) := by decide +kernel
theorem dX0_record_40 : decode cX0_record 40 = .ok (.iconst 1, 1) := by decide +kernel
theorem dX0_record_41 : decode cX0_record 41 = .ok (.iadd, 1) := by decide +kernel
theorem dX0_record_42 : decode cX0_record 42 = .ok (.putfield 21, 3) := by decide +kernel
theorem dX0_record_45 : decode cX0_record 45 = .ok (.return_, 1) := by decide +kernel
theorem dX0_takeBack_0 : decode cX0_takeBack 0 = .ok (.aload_n 0, 1) := by decide +kernel
theorem dX0_takeBack_1 : decode cX0_takeBack 1 = .ok (.getfield 21, 3) := by decide +kernel
theorem dX0_takeBack_4 : decode cX0_takeBack 4 = .ok (.ifCond .ne 4, 3) := by decide +kernel
theorem dX0_takeBack_7 : decode cX0_takeBack 7 = .ok (.return_, 1) := by decide +kernel
theorem dX0_takeBack_8 : decode cX0_takeBack 8 = .ok (.aload_n 0, 1) := by decide +kernel
theorem dX0_takeBack_9 : decode cX0_takeBack 9 = .ok (.aload_n 0, 1) := by decide +kernel
theorem dX0_takeBack_10 : decode cX0_takeBack 10 = .ok (.getfield 17, 3) := by decide +kernel
theorem dX0_takeBack_13 : decode cX0_takeBack 13 = .ok (.bipush 6, 2) := by decide +kernel
theorem dX0_takeBack_15 : decode cX0_takeBack 15 = .ok (.iadd, 1) := by decide +kernel
theorem dX0_takeBack_16 : decode cX0_takeBack 16 = .ok (.iconst 1, 1) := by decide +kernel
theorem dX0_takeBack_17 : decode cX0_takeBack 17 = .ok (.isub, 1) := by decide +kernel
theorem dX0_takeBack_18 : decode cX0_takeBack 18 = .ok (.bipush 6, 2) := by decide +kernel
theorem dX0_takeBack_20 : decode cX0_takeBack 20 = .ok (.irem, 1) := by decide +kernel
theorem dX0_takeBack_21 : decode cX0_takeBack 21 = .ok (.putfield 17, 3) := by decide +kernel
theorem dX0_takeBack_24 : decode cX0_takeBack 24 = .ok (.aload_n 1, 1) := by decide +kernel
theorem dX0_takeBack_25 : decode cX0_takeBack 25 = .ok (.aload_n 0, 1) := by decide +kernel
theorem dX0_takeBack_26 : decode cX0_takeBack 26 = .ok (.getfield 11, 3) := by decide +kernel
theorem dX0_takeBack_29 : decode cX0_takeBack 29 = .ok (.aload_n 0, 1) := by decide +kernel
theorem dX0_takeBack_30 : decode cX0_takeBack 30 = .ok (.getfield 17, 3) := by decide +kernel
theorem dX0_takeBack_33 : decode cX0_takeBack 33 = .ok (.aaload, 1) := by decide +kernel
theorem dX0_takeBack_34 : decode cX0_takeBack 34 = .ok (.invokevirtual 25, 3) := by decide +kernel
theorem dX0_takeBack_37 : decode cX0_takeBack 37 = .ok (.aload_n 0, 1) := by decide +kernel
theorem dX0_takeBack_38 : decode cX0_takeBack 38 = .ok (.dup, 1) := by decide +kernel
theorem dX0_takeBack_39 : decode cX0_takeBack 39 = .ok (.getfield 21, 3) := by decide +kernel
theorem dX0_takeBack_42 : decode cX0_takeBack 42 = .ok (.iconst 1, 1) := by decide +kernel
theorem dX0_takeBack_43 : decode cX0_takeBack 43 = .ok (.isub, 1) := by decide +kernel
theorem dX0_takeBack_44 : decode cX0_takeBack 44 = .ok (.putfield 21, 3) := by decide +kernel
theorem dX0_takeBack_47 : decode cX0_takeBack 47 = .ok (.return_, 1) := by decide +kernel
theorem dX1_init_0 : decode cX1_init 0 = .ok (.aload_n 0, 1) := by decide +kernel
theorem dX1_init_1 : decode cX1_init 1 = .ok (.invokespecial 3, 3) := by decide +kernel
theorem dX1_init_4 : decode cX1_init 4 = .ok (.aload_n 0, 1) := by decide +kernel
theorem dX1_init_5 : decode cX1_init 5 = .ok (.bipush 25, 2) := by decide +kernel
theorem dX1_init_7 : decode cX1_init 7 = .ok (.newarray .int, 2) := by decide +kernel
theorem dX1_init_9 : decode cX1_init 9 = .ok (.putfield 9, 3) := by decide +kernel
theorem dX1_init_12 : decode cX1_init 12 = .ok (.aload_n 0, 1) := by decide +kernel
theorem dX1_init_13 : decode cX1_init 13 = .ok (.bipush 24, 2) := by decide +kernel
theorem dX1_init_15 : decode cX1_init 15 = .ok (.newarray .int, 2) := by decide +kernel
theorem dX1_init_17 : decode cX1_init 17 = .ok (.putfield 15, 3) := by decide +kernel
theorem dX1_init_20 : decode cX1_init 20 = .ok (.aload_n 0, 1) := by decide +kernel
theorem dX1_init_21 : decode cX1_init 21 = .ok (.bipush 24, 2) := by decide +kernel
theorem dX1_init_23 : decode cX1_init 23 = .ok (.newarray .int, 2) := by decide +kernel
theorem dX1_init_25 : decode cX1_init 25 = .ok (.putfield 18, 3) := by decide +kernel
theorem dX1_init_28 : decode cX1_init 28 = .ok (.aload_n 0, 1) := by decide +kernel
theorem dX1_init_29 : decode cX1_init 29 = .ok (.iconst 0, 1) := by decide +kernel
theorem dX1_init_30 : decode cX1_init 30 = .ok (.putfield 21, 3) := by decide +kernel
theorem dX1_init_33 : decode cX1_init 33 = .ok (.aload_n 0, 1) := by decide +kernel
theorem dX1_init_34 : decode cX1_init 34 = .ok (.iconst 0, 1) := by decide +kernel
theorem dX1_init_35 : decode cX1_init 35 = .ok (.putfield 25, 3) := by decide +kernel
theorem dX1_init_38 : decode cX1_init 38 = .ok (.aload_n 0, 1) := by decide +kernel
theorem dX1_init_39 : decode cX1_init 39 = .ok (.iconst 0, 1) := by decide +kernel
theorem dX1_init_40 : decode cX1_init 40 = .ok (.putfield 28, 3) := by decide +kernel
theorem dX1_init_43 : decode cX1_init 43 = .ok (.aload_n 0, 1) := by decide +kernel
theorem dX1_init_44 : decode cX1_init 44 = .ok (.iconst 0, 1) := by decide +kernel
theorem dX1_init_45 : decode cX1_init 45 = .ok (.putfield 31, 3) := by decide +kernel
theorem dX1_init_48 : decode cX1_init 48 = .ok (.aload_n 0, 1) := by decide +kernel
theorem dX1_init_49 : decode cX1_init 49 = .ok (.bipush 25, 2) := by decide +kernel
theorem dX1_init_51 : decode cX1_init 51 = .ok (.newarray .int, 2) := by decide +kernel
theorem dX1_init_53 : decode cX1_init 53 = .ok (.putfield 34, 3) := by decide +kernel
theorem dX1_init_56 : decode cX1_init 56 = .ok (.aload_n 0, 1) := by decide +kernel
theorem dX1_init_57 : decode cX1_init 57 = .ok (.iconst 0, 1) := by decide +kernel
theorem dX1_init_58 : decode cX1_init 58 = .ok (.putfield 37, 3) := by decide +kernel
theorem dX1_init_61 : decode cX1_init 61 = .ok (.aload_n 0, 1) := by decide +kernel
theorem dX1_init_62 : decode cX1_init 62 = .ok (.bipush 25, 2) := by decide +kernel
theorem dX1_init_64 : decode cX1_init 64 = .ok (.newarray .int, 2) := by decide +kernel
theorem dX1_init_66 : decode cX1_init 66 = .ok (.putfield 40, 3) := by decide +kernel
theorem dX1_init_69 : decode cX1_init 69 = .ok (.aload_n 0, 1) := by decide +kernel
theorem dX1_init_70 : decode cX1_init 70 = .ok (.bipush 24, 2) := by decide +kernel
theorem dX1_init_72 : decode cX1_init 72 = .ok (.newarray .int, 2) := by decide +kernel
theorem dX1_init_74 : decode cX1_init 74 = .ok (.putfield 43, 3) := by decide +kernel
theorem dX1_init_77 : decode cX1_init 77 = .ok (.return_, 1) := by decide +kernel
theorem dX1_weigh_0 : decode cX1_weigh 0 = .ok (.aload_n 0, 1) := by decide +kernel
theorem dX1_weigh_1 : decode cX1_weigh 1 = .ok (.aload_n 1, 1) := by decide +kernel
theorem dX1_weigh_2 : decode cX1_weigh 2 = .ok (.getfield 46, 3) := by decide +kernel
theorem dX1_weigh_5 : decode cX1_weigh 5 = .ok (.putfield 21, 3) := by decide +kernel
theorem dX1_weigh_8 : decode cX1_weigh 8 = .ok (.aload_n 0, 1) := by decide +kernel
theorem dX1_weigh_9 : decode cX1_weigh 9 = .ok (.aload_n 1, 1) := by decide +kernel
theorem dX1_weigh_10 : decode cX1_weigh 10 = .ok (.getfield 49, 3) := by decide +kernel
theorem dX1_weigh_13 : decode cX1_weigh 13 = .ok (.iconst 0, 1) := by decide +kernel
theorem dX1_weigh_14 : decode cX1_weigh 14 = .ok (.iaload, 1) := by decide +kernel
theorem dX1_weigh_15 : decode cX1_weigh 15 = .ok (.putfield 25, 3) := by decide +kernel
theorem dX1_weigh_18 : decode cX1_weigh 18 = .ok (.aload_n 0, 1) := by decide +kernel
theorem dX1_weigh_19 : decode cX1_weigh 19 = .ok (.aload_n 1, 1) := by decide +kernel
theorem dX1_weigh_20 : decode cX1_weigh 20 = .ok (.getfield 49, 3) := by decide +kernel
theorem dX1_weigh_23 : decode cX1_weigh 23 = .ok (.iconst 1, 1) := by decide +kernel
theorem dX1_weigh_24 : decode cX1_weigh 24 = .ok (.iaload, 1) := by decide +kernel
theorem dX1_weigh_25 : decode cX1_weigh 25 = .ok (.putfield 28, 3) := by decide +kernel
theorem dX1_weigh_28 : decode cX1_weigh 28 = .ok (.aload_n 0, 1) := by decide +kernel
theorem dX1_weigh_29 : decode cX1_weigh 29 = .ok (.aload_n 1, 1) := by decide +kernel
theorem dX1_weigh_30 : decode cX1_weigh 30 = .ok (.getfield 49, 3) := by decide +kernel
theorem dX1_weigh_33 : decode cX1_weigh 33 = .ok (.iconst 2, 1) := by decide +kernel
theorem dX1_weigh_34 : decode cX1_weigh 34 = .ok (.iaload, 1) := by decide +kernel
theorem dX1_weigh_35 : decode cX1_weigh 35 = .ok (.putfield 31, 3) := by decide +kernel
theorem dX1_weigh_38 : decode cX1_weigh 38 = .ok (.aload_n 0, 1) := by decide +kernel
theorem dX1_weigh_39 : decode cX1_weigh 39 = .ok (.getfield 9, 3) := by decide +kernel
theorem dX1_weigh_42 : decode cX1_weigh 42 = .ok (.iconst 0, 1) := by decide +kernel
theorem dX1_weigh_43 : decode cX1_weigh 43 = .ok (.iconst 0, 1) := by decide +kernel
theorem dX1_weigh_44 : decode cX1_weigh 44 = .ok (.iastore, 1) := by decide +kernel
theorem dX1_weigh_45 : decode cX1_weigh 45 = .ok (.iconst 0, 1) := by decide +kernel
theorem dX1_weigh_46 : decode cX1_weigh 46 = .ok (.istore_n 2, 1) := by decide +kernel
theorem dX1_weigh_47 : decode cX1_weigh 47 = .ok (.iload_n 2, 1) := by decide +kernel
theorem dX1_weigh_48 : decode cX1_weigh 48 = .ok (.aload_n 0, 1) := by decide +kernel
theorem dX1_weigh_49 : decode cX1_weigh 49 = .ok (.getfield 21, 3) := by decide +kernel
theorem dX1_weigh_52 : decode cX1_weigh 52 = .ok (.if_icmp .ge 56, 3) := by decide +kernel
theorem dX1_weigh_55 : decode cX1_weigh 55 = .ok (.aload_n 0, 1) := by decide +kernel
theorem dX1_weigh_56 : decode cX1_weigh 56 = .ok (.getfield 9, 3) := by decide +kernel
theorem dX1_weigh_59 : decode cX1_weigh 59 = .ok (.iload_n 2, 1) := by decide +kernel
theorem dX1_weigh_60 : decode cX1_weigh 60 = .ok (.iconst 1, 1) := by decide +kernel
theorem dX1_weigh_61 : decode cX1_weigh 61 = .ok (.iadd, 1) := by decide +kernel
theorem dX1_weigh_62 : decode cX1_weigh 62 = .ok (.aload_n 0, 1) := by decide +kernel
theorem dX1_weigh_63 : decode cX1_weigh 63 = .ok (.getfield 9, 3) := by decide +kernel
theorem dX1_weigh_66 : decode cX1_weigh 66 = .ok (.iload_n 2, 1) := by decide +kernel
theorem dX1_weigh_67 : decode cX1_weigh 67 = .ok (.iaload, 1) := by decide +kernel
theorem dX1_weigh_68 : decode cX1_weigh 68 = .ok (.aload_n 1, 1) := by decide +kernel
theorem dX1_weigh_69 : decode cX1_weigh 69 = .ok (.iload_n 2, 1) := by decide +kernel
theorem dX1_weigh_70 : decode cX1_weigh 70 = .ok (.invokevirtual 52, 3) := by decide +kernel
theorem dX1_weigh_73 : decode cX1_weigh 73 = .ok (.iadd, 1) := by decide +kernel
theorem dX1_weigh_74 : decode cX1_weigh 74 = .ok (.aload_n 0, 1) := by decide +kernel
theorem dX1_weigh_75 : decode cX1_weigh 75 = .ok (.getfield 28, 3) := by decide +kernel
theorem dX1_weigh_78 : decode cX1_weigh 78 = .ok (.iadd, 1) := by decide +kernel
theorem dX1_weigh_79 : decode cX1_weigh 79 = .ok (.iastore, 1) := by decide +kernel
theorem dX1_weigh_80 : decode cX1_weigh 80 = .ok (.aload_n 0, 1) := by decide +kernel
theorem dX1_weigh_81 : decode cX1_weigh 81 = .ok (.getfield 15, 3) := by decide +kernel
theorem dX1_weigh_84 : decode cX1_weigh 84 = .ok (.iload_n 2, 1) := by decide +kernel
theorem dX1_weigh_85 : decode cX1_weigh 85 = .ok (.aload_n 1, 1) := by decide +kernel
theorem dX1_weigh_86 : decode cX1_weigh 86 = .ok (.iload_n 2, 1) := by decide +kernel
theorem dX1_weigh_87 : decode cX1_weigh 87 = .ok (.invokevirtual 56, 3) := by decide +kernel
theorem dX1_weigh_90 : decode cX1_weigh 90 = .ok (.iastore, 1) := by decide +kernel
theorem dX1_weigh_91 : decode cX1_weigh 91 = .ok (.aload_n 0, 1) := by decide +kernel
theorem dX1_weigh_92 : decode cX1_weigh 92 = .ok (.getfield 18, 3) := by decide +kernel
theorem dX1_weigh_95 : decode cX1_weigh 95 = .ok (.iload_n 2, 1) := by decide +kernel
theorem dX1_weigh_96 : decode cX1_weigh 96 = .ok (.aload_n 1, 1) := by decide +kernel
theorem dX1_weigh_97 : decode cX1_weigh 97 = .ok (.iload_n 2, 1) := by decide +kernel
theorem dX1_weigh_98 : decode cX1_weigh 98 = .ok (.invokevirtual 59, 3) := by decide +kernel
theorem dX1_weigh_101 : decode cX1_weigh 101 = .ok (.iastore, 1) := by decide +kernel
theorem dX1_weigh_102 : decode cX1_weigh 102 = .ok (.iinc 2 1, 3) := by decide +kernel
theorem dX1_weigh_105 : decode cX1_weigh 105 = .ok (.goto (-58), 3) := by decide +kernel
theorem dX1_weigh_108 : decode cX1_weigh 108 = .ok (.return_, 1) := by decide +kernel
theorem dX1_widthFrom_0 : decode cX1_widthFrom 0 = .ok (.aload_n 0, 1) := by decide +kernel
theorem dX1_widthFrom_1 : decode cX1_widthFrom 1 = .ok (.getfield 9, 3) := by decide +kernel
theorem dX1_widthFrom_4 : decode cX1_widthFrom 4 = .ok (.iload_n 2, 1) := by decide +kernel
theorem dX1_widthFrom_5 : decode cX1_widthFrom 5 = .ok (.iconst 1, 1) := by decide +kernel
theorem dX1_widthFrom_6 : decode cX1_widthFrom 6 = .ok (.iadd, 1) := by decide +kernel
theorem dX1_widthFrom_7 : decode cX1_widthFrom 7 = .ok (.iaload, 1) := by decide +kernel
theorem dX1_widthFrom_8 : decode cX1_widthFrom 8 = .ok (.aload_n 0, 1) := by decide +kernel
theorem dX1_widthFrom_9 : decode cX1_widthFrom 9 = .ok (.getfield 9, 3) := by decide +kernel
theorem dX1_widthFrom_12 : decode cX1_widthFrom 12 = .ok (.iload_n 1, 1) := by decide +kernel
theorem dX1_widthFrom_13 : decode cX1_widthFrom 13 = .ok (.iaload, 1) := by decide +kernel
theorem dX1_widthFrom_14 : decode cX1_widthFrom 14 = .ok (.isub, 1) := by decide +kernel
theorem dX1_widthFrom_15 : decode cX1_widthFrom 15 = .ok (.aload_n 0, 1) := by decide +kernel
theorem dX1_widthFrom_16 : decode cX1_widthFrom 16 = .ok (.getfield 28, 3) := by decide +kernel
theorem dX1_widthFrom_19 : decode cX1_widthFrom 19 = .ok (.isub, 1) := by decide +kernel
theorem dX1_widthFrom_20 : decode cX1_widthFrom 20 = .ok (.ireturn, 1) := by decide +kernel
theorem dX1_bodyOf_0 : decode cX1_bodyOf 0 = .ok (.aload_n 0, 1) := by decide +kernel
theorem dX1_bodyOf_1 : decode cX1_bodyOf 1 = .ok (.iload_n 1, 1) := by decide +kernel
theorem dX1_bodyOf_2 : decode cX1_bodyOf 2 = .ok (.iload_n 2, 1) := by decide +kernel
theorem dX1_bodyOf_3 : decode cX1_bodyOf 3 = .ok (.invokevirtual 62, 3) := by decide +kernel
theorem dX1_bodyOf_6 : decode cX1_bodyOf 6 = .ok (.aload_n 0, 1) := by decide +kernel
theorem dX1_bodyOf_7 : decode cX1_bodyOf 7 = .ok (.getfield 15, 3) := by decide +kernel
theorem dX1_bodyOf_10 : decode cX1_bodyOf 10 = .ok (.iload_n 1, 1) := by decide +kernel
theorem dX1_bodyOf_11 : decode cX1_bodyOf 11 = .ok (.iaload, 1) := by decide +kernel
theorem dX1_bodyOf_12 : decode cX1_bodyOf 12 = .ok (.isub, 1) := by decide +kernel
theorem dX1_bodyOf_13 : decode cX1_bodyOf 13 = .ok (.aload_n 0, 1) := by decide +kernel
theorem dX1_bodyOf_14 : decode cX1_bodyOf 14 = .ok (.getfield 18, 3) := by decide +kernel
theorem dX1_bodyOf_17 : decode cX1_bodyOf 17 = .ok (.iload_n 2, 1) := by decide +kernel
theorem dX1_bodyOf_18 : decode cX1_bodyOf 18 = .ok (.iaload, 1) := by decide +kernel
theorem dX1_bodyOf_19 : decode cX1_bodyOf 19 = .ok (.isub, 1) := by decide +kernel
theorem dX1_bodyOf_20 : decode cX1_bodyOf 20 = .ok (.ireturn, 1) := by decide +kernel
theorem dX1_fillGreedily_0 : decode cX1_fillGreedily 0 = .ok (.aload_n 0, 1) := by decide +kernel
theorem dX1_fillGreedily_1 : decode cX1_fillGreedily 1 = .ok (.iconst 0, 1) := by decide +kernel
theorem dX1_fillGreedily_2 : decode cX1_fillGreedily 2 = .ok (.putfield 37, 3) := by decide +kernel
theorem dX1_fillGreedily_5 : decode cX1_fillGreedily 5 = .ok (.iconst 0, 1) := by decide +kernel
theorem dX1_fillGreedily_6 : decode cX1_fillGreedily 6 = .ok (.istore_n 1, 1) := by decide +kernel
theorem dX1_fillGreedily_7 : decode cX1_fillGreedily 7 = .ok (.iload_n 1, 1) := by decide +kernel
theorem dX1_fillGreedily_8 : decode cX1_fillGreedily 8 = .ok (.aload_n 0, 1) := by decide +kernel
theorem dX1_fillGreedily_9 : decode cX1_fillGreedily 9 = .ok (.getfield 21, 3) := by decide +kernel
theorem dX1_fillGreedily_12 : decode cX1_fillGreedily 12 = .ok (.if_icmp .ge 59, 3) := by decide +kernel
theorem dX1_fillGreedily_15 : decode cX1_fillGreedily 15 = .ok (.aload_n 0, 1) := by decide +kernel
theorem dX1_fillGreedily_16 : decode cX1_fillGreedily 16 = .ok (.getfield 37, 3) := by decide +kernel
theorem dX1_fillGreedily_19 : decode cX1_fillGreedily 19 = .ok (.ifCond .eq 26, 3) := by decide +kernel
theorem dX1_fillGreedily_22 : decode cX1_fillGreedily 22 = .ok (.aload_n 0, 1) := by decide +kernel
theorem dX1_fillGreedily_23 : decode cX1_fillGreedily 23 = .ok (.aload_n 0, 1) := by decide +kernel
theorem dX1_fillGreedily_24 : decode cX1_fillGreedily 24 = .ok (.getfield 34, 3) := by decide +kernel
theorem dX1_fillGreedily_27 : decode cX1_fillGreedily 27 = .ok (.aload_n 0, 1) := by decide +kernel
theorem dX1_fillGreedily_28 : decode cX1_fillGreedily 28 = .ok (.getfield 37, 3) := by decide +kernel
theorem dX1_fillGreedily_31 : decode cX1_fillGreedily 31 = .ok (.iconst 1, 1) := by decide +kernel
theorem dX1_fillGreedily_32 : decode cX1_fillGreedily 32 = .ok (.isub, 1) := by decide +kernel
theorem dX1_fillGreedily_33 : decode cX1_fillGreedily 33 = .ok (.iaload, 1) := by decide +kernel
theorem dX1_fillGreedily_34 : decode cX1_fillGreedily 34 = .ok (.iload_n 1, 1) := by decide +kernel
theorem dX1_fillGreedily_35 : decode cX1_fillGreedily 35 = .ok (.invokevirtual 66, 3) := by decide +kernel
theorem dX1_fillGreedily_38 : decode cX1_fillGreedily 38 = .ok (.aload_n 0, 1) := by decide +kernel
theorem dX1_fillGreedily_39 : decode cX1_fillGreedily 39 = .ok (.getfield 25, 3) := by decide +kernel
theorem dX1_fillGreedily_42 : decode cX1_fillGreedily 42 = .ok (.if_icmp .le 23, 3) := by decide +kernel
theorem dX1_fillGreedily_45 : decode cX1_fillGreedily 45 = .ok (.aload_n 0, 1) := by decide +kernel
theorem dX1_fillGreedily_46 : decode cX1_fillGreedily 46 = .ok (.getfield 34, 3) := by decide +kernel
theorem dX1_fillGreedily_49 : decode cX1_fillGreedily 49 = .ok (.aload_n 0, 1) := by decide +kernel
theorem dX1_fillGreedily_50 : decode cX1_fillGreedily 50 = .ok (.getfield 37, 3) := by decide +kernel
theorem dX1_fillGreedily_53 : decode cX1_fillGreedily 53 = .ok (.iload_n 1, 1) := by decide +kernel
theorem dX1_fillGreedily_54 : decode cX1_fillGreedily 54 = .ok (.iastore, 1) := by decide +kernel
theorem dX1_fillGreedily_55 : decode cX1_fillGreedily 55 = .ok (.aload_n 0, 1) := by decide +kernel
theorem dX1_fillGreedily_56 : decode cX1_fillGreedily 56 = .ok (.dup, 1) := by decide +kernel
theorem dX1_fillGreedily_57 : decode cX1_fillGreedily 57 = .ok (.getfield 37, 3) := by decide +kernel
theorem dX1_fillGreedily_60 : decode cX1_fillGreedily 60 = .ok (.iconst 1, 1) := by decide +kernel
theorem dX1_fillGreedily_61 : decode cX1_fillGreedily 61 = .ok (.iadd, 1) := by decide +kernel
theorem dX1_fillGreedily_62 : decode cX1_fillGreedily 62 = .ok (.putfield 37, 3) := by decide +kernel
theorem dX1_fillGreedily_65 : decode cX1_fillGreedily 65 = .ok (.iinc 1 1, 3) := by decide +kernel
theorem dX1_fillGreedily_68 : decode cX1_fillGreedily 68 = .ok (.goto (-61), 3) := by decide +kernel
theorem dX1_fillGreedily_71 : decode cX1_fillGreedily 71 = .ok (.aload_n 0, 1) := by decide +kernel
theorem dX1_fillGreedily_72 : decode cX1_fillGreedily 72 = .ok (.getfield 34, 3) := by decide +kernel
theorem dX1_fillGreedily_75 : decode cX1_fillGreedily 75 = .ok (.aload_n 0, 1) := by decide +kernel
theorem dX1_fillGreedily_76 : decode cX1_fillGreedily 76 = .ok (.getfield 37, 3) := by decide +kernel
theorem dX1_fillGreedily_79 : decode cX1_fillGreedily 79 = .ok (.aload_n 0, 1) := by decide +kernel
theorem dX1_fillGreedily_80 : decode cX1_fillGreedily 80 = .ok (.getfield 21, 3) := by decide +kernel
theorem dX1_fillGreedily_83 : decode cX1_fillGreedily 83 = .ok (.iastore, 1) := by decide +kernel
theorem dX1_fillGreedily_84 : decode cX1_fillGreedily 84 = .ok (.return_, 1) := by decide +kernel
theorem dX1_breakBest_0 : decode cX1_breakBest 0 = .ok (.aload_n 0, 1) := by decide +kernel
theorem dX1_breakBest_1 : decode cX1_breakBest 1 = .ok (.invokevirtual 69, 3) := by decide +kernel
theorem dX1_breakBest_4 : decode cX1_breakBest 4 = .ok (.pop, 1) := by decide +kernel
theorem dX1_breakBest_5 : decode cX1_breakBest 5 = .ok (.aload_n 0, 1) := by decide +kernel
theorem dX1_breakBest_6 : decode cX1_breakBest 6 = .ok (.iconst 0, 1) := by decide +kernel
theorem dX1_breakBest_7 : decode cX1_breakBest 7 = .ok (.putfield 37, 3) := by decide +kernel
theorem dX1_breakBest_10 : decode cX1_breakBest 10 = .ok (.iconst 0, 1) := by decide +kernel
theorem dX1_breakBest_11 : decode cX1_breakBest 11 = .ok (.istore_n 1, 1) := by decide +kernel
theorem dX1_breakBest_12 : decode cX1_breakBest 12 = .ok (.iconst 0, 1) := by decide +kernel
theorem dX1_breakBest_13 : decode cX1_breakBest 13 = .ok (.istore_n 2, 1) := by decide +kernel
theorem dX1_breakBest_14 : decode cX1_breakBest 14 = .ok (.iload_n 2, 1) := by decide +kernel
theorem dX1_breakBest_15 : decode cX1_breakBest 15 = .ok (.aload_n 0, 1) := by decide +kernel
theorem dX1_breakBest_16 : decode cX1_breakBest 16 = .ok (.getfield 21, 3) := by decide +kernel
theorem dX1_breakBest_19 : decode cX1_breakBest 19 = .ok (.if_icmp .ge 41, 3) := by decide +kernel
theorem dX1_breakBest_22 : decode cX1_breakBest 22 = .ok (.iload_n 2, 1) := by decide +kernel
theorem dX1_breakBest_23 : decode cX1_breakBest 23 = .ok (.iload_n 1, 1) := by decide +kernel
theorem dX1_breakBest_24 : decode cX1_breakBest 24 = .ok (.if_icmp .ne 30, 3) := by decide +kernel
theorem dX1_breakBest_27 : decode cX1_breakBest 27 = .ok (.aload_n 0, 1) := by decide +kernel
theorem dX1_breakBest_28 : decode cX1_breakBest 28 = .ok (.getfield 34, 3) := by decide +kernel
theorem dX1_breakBest_31 : decode cX1_breakBest 31 = .ok (.aload_n 0, 1) := by decide +kernel
theorem dX1_breakBest_32 : decode cX1_breakBest 32 = .ok (.getfield 37, 3) := by decide +kernel
theorem dX1_breakBest_35 : decode cX1_breakBest 35 = .ok (.iload_n 2, 1) := by decide +kernel
theorem dX1_breakBest_36 : decode cX1_breakBest 36 = .ok (.iastore, 1) := by decide +kernel
theorem dX1_breakBest_37 : decode cX1_breakBest 37 = .ok (.aload_n 0, 1) := by decide +kernel
theorem dX1_breakBest_38 : decode cX1_breakBest 38 = .ok (.dup, 1) := by decide +kernel
theorem dX1_breakBest_39 : decode cX1_breakBest 39 = .ok (.getfield 37, 3) := by decide +kernel
theorem dX1_breakBest_42 : decode cX1_breakBest 42 = .ok (.iconst 1, 1) := by decide +kernel
theorem dX1_breakBest_43 : decode cX1_breakBest 43 = .ok (.iadd, 1) := by decide +kernel
theorem dX1_breakBest_44 : decode cX1_breakBest 44 = .ok (.putfield 37, 3) := by decide +kernel
theorem dX1_breakBest_47 : decode cX1_breakBest 47 = .ok (.aload_n 0, 1) := by decide +kernel
theorem dX1_breakBest_48 : decode cX1_breakBest 48 = .ok (.getfield 43, 3) := by decide +kernel
theorem dX1_breakBest_51 : decode cX1_breakBest 51 = .ok (.iload_n 2, 1) := by decide +kernel
theorem dX1_breakBest_52 : decode cX1_breakBest 52 = .ok (.iaload, 1) := by decide +kernel
theorem dX1_breakBest_53 : decode cX1_breakBest 53 = .ok (.istore_n 1, 1) := by decide +kernel
theorem dX1_breakBest_54 : decode cX1_breakBest 54 = .ok (.iinc 2 1, 3) := by decide +kernel
theorem dX1_breakBest_57 : decode cX1_breakBest 57 = .ok (.goto (-43), 3) := by decide +kernel
theorem dX1_breakBest_60 : decode cX1_breakBest 60 = .ok (.aload_n 0, 1) := by decide +kernel
theorem dX1_breakBest_61 : decode cX1_breakBest 61 = .ok (.getfield 34, 3) := by decide +kernel
theorem dX1_breakBest_64 : decode cX1_breakBest 64 = .ok (.aload_n 0, 1) := by decide +kernel
theorem dX1_breakBest_65 : decode cX1_breakBest 65 = .ok (.getfield 37, 3) := by decide +kernel
theorem dX1_breakBest_68 : decode cX1_breakBest 68 = .ok (.aload_n 0, 1) := by decide +kernel
theorem dX1_breakBest_69 : decode cX1_breakBest 69 = .ok (.getfield 21, 3) := by decide +kernel
theorem dX1_breakBest_72 : decode cX1_breakBest 72 = .ok (.iastore, 1) := by decide +kernel
theorem dX1_breakBest_73 : decode cX1_breakBest 73 = .ok (.return_, 1) := by decide +kernel
theorem dX1_leastBadness_0 : decode cX1_leastBadness 0 = .ok (.aload_n 0, 1) := by decide +kernel
theorem dX1_leastBadness_1 : decode cX1_leastBadness 1 = .ok (.getfield 40, 3) := by decide +kernel
theorem dX1_leastBadness_4 : decode cX1_leastBadness 4 = .ok (.aload_n 0, 1) := by decide +kernel
theorem dX1_leastBadness_5 : decode cX1_leastBadness 5 = .ok (.getfield 21, 3) := by decide +kernel
theorem dX1_leastBadness_8 : decode cX1_leastBadness 8 = .ok (.iconst 0, 1) := by decide +kernel
theorem dX1_leastBadness_9 : decode cX1_leastBadness 9 = .ok (.iastore, 1) := by decide +kernel
theorem dX1_leastBadness_10 : decode cX1_leastBadness 10 = .ok (.aload_n 0, 1) := by decide +kernel
theorem dX1_leastBadness_11 : decode cX1_leastBadness 11 = .ok (.getfield 21, 3) := by decide +kernel
theorem dX1_leastBadness_14 : decode cX1_leastBadness 14 = .ok (.iconst 1, 1) := by decide +kernel
theorem dX1_leastBadness_15 : decode cX1_leastBadness 15 = .ok (.isub, 1) := by decide +kernel
theorem dX1_leastBadness_16 : decode cX1_leastBadness 16 = .ok (.istore_n 1, 1) := by decide +kernel
theorem dX1_leastBadness_17 : decode cX1_leastBadness 17 = .ok (.iload_n 1, 1) := by decide +kernel
theorem dX1_leastBadness_18 : decode cX1_leastBadness 18 = .ok (.ifCond .lt 14, 3) := by decide +kernel
theorem dX1_leastBadness_21 : decode cX1_leastBadness 21 = .ok (.aload_n 0, 1) := by decide +kernel
theorem dX1_leastBadness_22 : decode cX1_leastBadness 22 = .ok (.iload_n 1, 1) := by decide +kernel
theorem dX1_leastBadness_23 : decode cX1_leastBadness 23 = .ok (.invokevirtual 73, 3) := by decide +kernel
theorem dX1_leastBadness_26 : decode cX1_leastBadness 26 = .ok (.iinc 1 (-1), 3) := by decide +kernel
theorem dX1_leastBadness_29 : decode cX1_leastBadness 29 = .ok (.goto (-12), 3) := by decide +kernel
theorem dX1_leastBadness_32 : decode cX1_leastBadness 32 = .ok (.aload_n 0, 1) := by decide +kernel
theorem dX1_leastBadness_33 : decode cX1_leastBadness 33 = .ok (.getfield 40, 3) := by decide +kernel
theorem dX1_leastBadness_36 : decode cX1_leastBadness 36 = .ok (.iconst 0, 1) := by decide +kernel
theorem dX1_leastBadness_37 : decode cX1_leastBadness 37 = .ok (.iaload, 1) := by decide +kernel
theorem dX1_leastBadness_38 : decode cX1_leastBadness 38 = .ok (.ireturn, 1) := by decide +kernel
theorem dX1_findFirstLine_0 : decode cX1_findFirstLine 0 = .ok (.aload_n 0, 1) := by decide +kernel
theorem dX1_findFirstLine_1 : decode cX1_findFirstLine 1 = .ok (.getfield 40, 3) := by decide +kernel
theorem dX1_findFirstLine_4 : decode cX1_findFirstLine 4 = .ok (.iload_n 1, 1) := by decide +kernel
theorem dX1_findFirstLine_5 : decode cX1_findFirstLine 5 = .ok (.aload_n 0, 1) := by decide +kernel
theorem dX1_findFirstLine_6 : decode cX1_findFirstLine 6 = .ok (.iload_n 1, 1) := by decide +kernel
theorem dX1_findFirstLine_7 : decode cX1_findFirstLine 7 = .ok (.iload_n 1, 1) := by decide +kernel
theorem dX1_findFirstLine_8 : decode cX1_findFirstLine 8 = .ok (.invokevirtual 77, 3) := by decide +kernel
theorem dX1_findFirstLine_11 : decode cX1_findFirstLine 11 = .ok (.aload_n 0, 1) := by decide +kernel
theorem dX1_findFirstLine_12 : decode cX1_findFirstLine 12 = .ok (.getfield 40, 3) := by decide +kernel
theorem dX1_findFirstLine_15 : decode cX1_findFirstLine 15 = .ok (.iload_n 1, 1) := by decide +kernel
theorem dX1_findFirstLine_16 : decode cX1_findFirstLine 16 = .ok (.iconst 1, 1) := by decide +kernel
theorem dX1_findFirstLine_17 : decode cX1_findFirstLine 17 = .ok (.iadd, 1) := by decide +kernel
theorem dX1_findFirstLine_18 : decode cX1_findFirstLine 18 = .ok (.iaload, 1) := by decide +kernel
theorem dX1_findFirstLine_19 : decode cX1_findFirstLine 19 = .ok (.iadd, 1) := by decide +kernel
theorem dX1_findFirstLine_20 : decode cX1_findFirstLine 20 = .ok (.iastore, 1) := by decide +kernel
theorem dX1_findFirstLine_21 : decode cX1_findFirstLine 21 = .ok (.aload_n 0, 1) := by decide +kernel
theorem dX1_findFirstLine_22 : decode cX1_findFirstLine 22 = .ok (.getfield 43, 3) := by decide +kernel
theorem dX1_findFirstLine_25 : decode cX1_findFirstLine 25 = .ok (.iload_n 1, 1) := by decide +kernel
theorem dX1_findFirstLine_26 : decode cX1_findFirstLine 26 = .ok (.iload_n 1, 1) := by decide +kernel
theorem dX1_findFirstLine_27 : decode cX1_findFirstLine 27 = .ok (.iconst 1, 1) := by decide +kernel
theorem dX1_findFirstLine_28 : decode cX1_findFirstLine 28 = .ok (.iadd, 1) := by decide +kernel
theorem dX1_findFirstLine_29 : decode cX1_findFirstLine 29 = .ok (.iastore, 1) := by decide +kernel
theorem dX1_findFirstLine_30 : decode cX1_findFirstLine 30 = .ok (.iload_n 1, 1) := by decide +kernel
theorem dX1_findFirstLine_31 : decode cX1_findFirstLine 31 = .ok (.iconst 1, 1) := by decide +kernel
theorem dX1_findFirstLine_32 : decode cX1_findFirstLine 32 = .ok (.iadd, 1) := by decide +kernel
theorem dX1_findFirstLine_33 : decode cX1_findFirstLine 33 = .ok (.istore_n 2, 1) := by decide +kernel
theorem dX1_findFirstLine_34 : decode cX1_findFirstLine 34 = .ok (.iload_n 2, 1) := by decide +kernel
theorem dX1_findFirstLine_35 : decode cX1_findFirstLine 35 = .ok (.aload_n 0, 1) := by decide +kernel
theorem dX1_findFirstLine_36 : decode cX1_findFirstLine 36 = .ok (.getfield 21, 3) := by decide +kernel
theorem dX1_findFirstLine_39 : decode cX1_findFirstLine 39 = .ok (.if_icmp .ge 64, 3) := by decide +kernel
theorem dX1_findFirstLine_42 : decode cX1_findFirstLine 42 = .ok (.aload_n 0, 1) := by decide +kernel
theorem dX1_findFirstLine_43 : decode cX1_findFirstLine 43 = .ok (.iload_n 1, 1) := by decide +kernel
theorem dX1_findFirstLine_44 : decode cX1_findFirstLine 44 = .ok (.iload_n 2, 1) := by decide +kernel
theorem dX1_findFirstLine_45 : decode cX1_findFirstLine 45 = .ok (.invokevirtual 66, 3) := by decide +kernel
theorem dX1_findFirstLine_48 : decode cX1_findFirstLine 48 = .ok (.aload_n 0, 1) := by decide +kernel
theorem dX1_findFirstLine_49 : decode cX1_findFirstLine 49 = .ok (.getfield 25, 3) := by decide +kernel
theorem dX1_findFirstLine_52 : decode cX1_findFirstLine 52 = .ok (.if_icmp .gt 51, 3) := by decide +kernel
theorem dX1_findFirstLine_55 : decode cX1_findFirstLine 55 = .ok (.aload_n 0, 1) := by decide +kernel
theorem dX1_findFirstLine_56 : decode cX1_findFirstLine 56 = .ok (.iload_n 1, 1) := by decide +kernel
theorem dX1_findFirstLine_57 : decode cX1_findFirstLine 57 = .ok (.iload_n 2, 1) := by decide +kernel
theorem dX1_findFirstLine_58 : decode cX1_findFirstLine 58 = .ok (.invokevirtual 77, 3) := by decide +kernel
theorem dX1_findFirstLine_61 : decode cX1_findFirstLine 61 = .ok (.aload_n 0, 1) := by decide +kernel
theorem dX1_findFirstLine_62 : decode cX1_findFirstLine 62 = .ok (.getfield 40, 3) := by decide +kernel
theorem dX1_findFirstLine_65 : decode cX1_findFirstLine 65 = .ok (.iload_n 2, 1) := by decide +kernel
theorem dX1_findFirstLine_66 : decode cX1_findFirstLine 66 = .ok (.iconst 1, 1) := by decide +kernel
theorem dX1_findFirstLine_67 : decode cX1_findFirstLine 67 = .ok (.iadd, 1) := by decide +kernel
theorem dX1_findFirstLine_68 : decode cX1_findFirstLine 68 = .ok (.iaload, 1) := by decide +kernel
theorem dX1_findFirstLine_69 : decode cX1_findFirstLine 69 = .ok (.iadd, 1) := by decide +kernel
theorem dX1_findFirstLine_70 : decode cX1_findFirstLine 70 = .ok (.istore_n 3, 1) := by decide +kernel
theorem dX1_findFirstLine_71 : decode cX1_findFirstLine 71 = .ok (.iload_n 3, 1) := by decide +kernel
theorem dX1_findFirstLine_72 : decode cX1_findFirstLine 72 = .ok (.aload_n 0, 1) := by decide +kernel
theorem dX1_findFirstLine_73 : decode cX1_findFirstLine 73 = .ok (.getfield 40, 3) := by decide +kernel
theorem dX1_findFirstLine_76 : decode cX1_findFirstLine 76 = .ok (.iload_n 1, 1) := by decide +kernel
theorem dX1_findFirstLine_77 : decode cX1_findFirstLine 77 = .ok (.iaload, 1) := by decide +kernel
theorem dX1_findFirstLine_78 : decode cX1_findFirstLine 78 = .ok (.if_icmp .gt 19, 3) := by decide +kernel
theorem dX1_findFirstLine_81 : decode cX1_findFirstLine 81 = .ok (.aload_n 0, 1) := by decide +kernel
theorem dX1_findFirstLine_82 : decode cX1_findFirstLine 82 = .ok (.getfield 40, 3) := by decide +kernel
theorem dX1_findFirstLine_85 : decode cX1_findFirstLine 85 = .ok (.iload_n 1, 1) := by decide +kernel
theorem dX1_findFirstLine_86 : decode cX1_findFirstLine 86 = .ok (.iload_n 3, 1) := by decide +kernel
theorem dX1_findFirstLine_87 : decode cX1_findFirstLine 87 = .ok (.iastore, 1) := by decide +kernel
theorem dX1_findFirstLine_88 : decode cX1_findFirstLine 88 = .ok (.aload_n 0, 1) := by decide +kernel
theorem dX1_findFirstLine_89 : decode cX1_findFirstLine 89 = .ok (.getfield 43, 3) := by decide +kernel
theorem dX1_findFirstLine_92 : decode cX1_findFirstLine 92 = .ok (.iload_n 1, 1) := by decide +kernel
theorem dX1_findFirstLine_93 : decode cX1_findFirstLine 93 = .ok (.iload_n 2, 1) := by decide +kernel
theorem dX1_findFirstLine_94 : decode cX1_findFirstLine 94 = .ok (.iconst 1, 1) := by decide +kernel
theorem dX1_findFirstLine_95 : decode cX1_findFirstLine 95 = .ok (.iadd, 1) := by decide +kernel
theorem dX1_findFirstLine_96 : decode cX1_findFirstLine 96 = .ok (.iastore, 1) := by decide +kernel
theorem dX1_findFirstLine_97 : decode cX1_findFirstLine 97 = .ok (.iinc 2 1, 3) := by decide +kernel
theorem dX1_findFirstLine_100 : decode cX1_findFirstLine 100 = .ok (.goto (-66), 3) := by decide +kernel
theorem dX1_findFirstLine_103 : decode cX1_findFirstLine 103 = .ok (.return_, 1) := by decide +kernel
theorem dX1_badnessOf_0 : decode cX1_badnessOf 0 = .ok (.aload_n 0, 1) := by decide +kernel
theorem dX1_badnessOf_1 : decode cX1_badnessOf 1 = .ok (.getfield 25, 3) := by decide +kernel
theorem dX1_badnessOf_4 : decode cX1_badnessOf 4 = .ok (.aload_n 0, 1) := by decide +kernel
theorem dX1_badnessOf_5 : decode cX1_badnessOf 5 = .ok (.iload_n 1, 1) := by decide +kernel
theorem dX1_badnessOf_6 : decode cX1_badnessOf 6 = .ok (.iload_n 2, 1) := by decide +kernel
theorem dX1_badnessOf_7 : decode cX1_badnessOf 7 = .ok (.invokevirtual 66, 3) := by decide +kernel
theorem dX1_badnessOf_10 : decode cX1_badnessOf 10 = .ok (.isub, 1) := by decide +kernel
theorem dX1_badnessOf_11 : decode cX1_badnessOf 11 = .ok (.istore_n 3, 1) := by decide +kernel
theorem dX1_badnessOf_12 : decode cX1_badnessOf 12 = .ok (.iload_n 3, 1) := by decide +kernel
theorem dX1_badnessOf_13 : decode cX1_badnessOf 13 = .ok (.ifCond .ge 7, 3) := by decide +kernel
theorem dX1_badnessOf_16 : decode cX1_badnessOf 16 = .ok (.sipush 10000, 3) := by decide +kernel
theorem dX1_badnessOf_19 : decode cX1_badnessOf 19 = .ok (.ireturn, 1) := by decide +kernel
theorem dX1_badnessOf_20 : decode cX1_badnessOf 20 = .ok (.iload_n 2, 1) := by decide +kernel
theorem dX1_badnessOf_21 : decode cX1_badnessOf 21 = .ok (.aload_n 0, 1) := by decide +kernel
theorem dX1_badnessOf_22 : decode cX1_badnessOf 22 = .ok (.getfield 21, 3) := by decide +kernel
theorem dX1_badnessOf_25 : decode cX1_badnessOf 25 = .ok (.iconst 1, 1) := by decide +kernel
theorem dX1_badnessOf_26 : decode cX1_badnessOf 26 = .ok (.isub, 1) := by decide +kernel
theorem dX1_badnessOf_27 : decode cX1_badnessOf 27 = .ok (.if_icmp .ne 7, 3) := by decide +kernel
theorem dX1_badnessOf_30 : decode cX1_badnessOf 30 = .ok (.iconst 0, 1) := by decide +kernel
theorem dX1_badnessOf_31 : decode cX1_badnessOf 31 = .ok (.goto 6, 3) := by decide +kernel
theorem dX1_badnessOf_34 : decode cX1_badnessOf 34 = .ok (.iload_n 3, 1) := by decide +kernel
theorem dX1_badnessOf_35 : decode cX1_badnessOf 35 = .ok (.iload_n 3, 1) := by decide +kernel
theorem dX1_badnessOf_36 : decode cX1_badnessOf 36 = .ok (.imul, 1) := by decide +kernel
theorem dX1_badnessOf_37 : decode cX1_badnessOf 37 = .ok (.ireturn, 1) := by decide +kernel
theorem dX1_lineWith_0 : decode cX1_lineWith 0 = .ok (.iconst 0, 1) := by decide +kernel
theorem dX1_lineWith_1 : decode cX1_lineWith 1 = .ok (.istore_n 2, 1) := by decide +kernel
theorem dX1_lineWith_2 : decode cX1_lineWith 2 = .ok (.iconst 0, 1) := by decide +kernel
theorem dX1_lineWith_3 : decode cX1_lineWith 3 = .ok (.istore_n 3, 1) := by decide +kernel
theorem dX1_lineWith_4 : decode cX1_lineWith 4 = .ok (.iload_n 3, 1) := by decide +kernel
theorem dX1_lineWith_5 : decode cX1_lineWith 5 = .ok (.aload_n 0, 1) := by decide +kernel
theorem dX1_lineWith_6 : decode cX1_lineWith 6 = .ok (.getfield 37, 3) := by decide +kernel
theorem dX1_lineWith_9 : decode cX1_lineWith 9 = .ok (.if_icmp .ge 21, 3) := by decide +kernel
theorem dX1_lineWith_12 : decode cX1_lineWith 12 = .ok (.aload_n 0, 1) := by decide +kernel
theorem dX1_lineWith_13 : decode cX1_lineWith 13 = .ok (.getfield 34, 3) := by decide +kernel
theorem dX1_lineWith_16 : decode cX1_lineWith 16 = .ok (.iload_n 3, 1) := by decide +kernel
theorem dX1_lineWith_17 : decode cX1_lineWith 17 = .ok (.iaload, 1) := by decide +kernel
theorem dX1_lineWith_18 : decode cX1_lineWith 18 = .ok (.iload_n 1, 1) := by decide +kernel
theorem dX1_lineWith_19 : decode cX1_lineWith 19 = .ok (.if_icmp .gt 5, 3) := by decide +kernel
theorem dX1_lineWith_22 : decode cX1_lineWith 22 = .ok (.iload_n 3, 1) := by decide +kernel
theorem dX1_lineWith_23 : decode cX1_lineWith 23 = .ok (.istore_n 2, 1) := by decide +kernel
theorem dX1_lineWith_24 : decode cX1_lineWith 24 = .ok (.iinc 3 1, 3) := by decide +kernel
theorem dX1_lineWith_27 : decode cX1_lineWith 27 = .ok (.goto (-23), 3) := by decide +kernel
theorem dX1_lineWith_30 : decode cX1_lineWith 30 = .ok (.iload_n 2, 1) := by decide +kernel
theorem dX1_lineWith_31 : decode cX1_lineWith 31 = .ok (.ireturn, 1) := by decide +kernel
theorem dX1_lastWord_0 : decode cX1_lastWord 0 = .ok (.aload_n 0, 1) := by decide +kernel
theorem dX1_lastWord_1 : decode cX1_lastWord 1 = .ok (.getfield 34, 3) := by decide +kernel
theorem dX1_lastWord_4 : decode cX1_lastWord 4 = .ok (.iload_n 1, 1) := by decide +kernel
theorem dX1_lastWord_5 : decode cX1_lastWord 5 = .ok (.iconst 1, 1) := by decide +kernel
theorem dX1_lastWord_6 : decode cX1_lastWord 6 = .ok (.iadd, 1) := by decide +kernel
theorem dX1_lastWord_7 : decode cX1_lastWord 7 = .ok (.iaload, 1) := by decide +kernel
theorem dX1_lastWord_8 : decode cX1_lastWord 8 = .ok (.iconst 1, 1) := by decide +kernel
theorem dX1_lastWord_9 : decode cX1_lastWord 9 = .ok (.isub, 1) := by decide +kernel
theorem dX1_lastWord_10 : decode cX1_lastWord 10 = .ok (.ireturn, 1) := by decide +kernel
theorem dX1_bodyOfLine_0 : decode cX1_bodyOfLine 0 = .ok (.aload_n 0, 1) := by decide +kernel
theorem dX1_bodyOfLine_1 : decode cX1_bodyOfLine 1 = .ok (.aload_n 0, 1) := by decide +kernel
theorem dX1_bodyOfLine_2 : decode cX1_bodyOfLine 2 = .ok (.getfield 34, 3) := by decide +kernel
theorem dX1_bodyOfLine_5 : decode cX1_bodyOfLine 5 = .ok (.iload_n 1, 1) := by decide +kernel
theorem dX1_bodyOfLine_6 : decode cX1_bodyOfLine 6 = .ok (.iaload, 1) := by decide +kernel
theorem dX1_bodyOfLine_7 : decode cX1_bodyOfLine 7 = .ok (.aload_n 0, 1) := by decide +kernel
theorem dX1_bodyOfLine_8 : decode cX1_bodyOfLine 8 = .ok (.iload_n 1, 1) := by decide +kernel
theorem dX1_bodyOfLine_9 : decode cX1_bodyOfLine 9 = .ok (.invokevirtual 80, 3) := by decide +kernel
theorem dX1_bodyOfLine_12 : decode cX1_bodyOfLine 12 = .ok (.invokevirtual 66, 3) := by decide +kernel
theorem dX1_bodyOfLine_15 : decode cX1_bodyOfLine 15 = .ok (.ireturn, 1) := by decide +kernel
theorem dX1_fits_0 : decode cX1_fits 0 = .ok (.aload_n 0, 1) := by decide +kernel
theorem dX1_fits_1 : decode cX1_fits 1 = .ok (.iload_n 1, 1) := by decide +kernel
theorem dX1_fits_2 : decode cX1_fits 2 = .ok (.invokevirtual 83, 3) := by decide +kernel
theorem dX1_fits_5 : decode cX1_fits 5 = .ok (.aload_n 0, 1) := by decide +kernel
theorem dX1_fits_6 : decode cX1_fits 6 = .ok (.getfield 25, 3) := by decide +kernel
theorem dX1_fits_9 : decode cX1_fits 9 = .ok (.if_icmp .gt 7, 3) := by decide +kernel
theorem dX1_fits_12 : decode cX1_fits 12 = .ok (.iconst 1, 1) := by decide +kernel
theorem dX1_fits_13 : decode cX1_fits 13 = .ok (.goto 4, 3) := by decide +kernel
theorem dX1_fits_16 : decode cX1_fits 16 = .ok (.iconst 0, 1) := by decide +kernel
theorem dX1_fits_17 : decode cX1_fits 17 = .ok (.ireturn, 1) := by decide +kernel
theorem dX1_looksIndented_0 : decode cX1_looksIndented 0 = .ok (.aload_n 0, 1) := by decide +kernel
theorem dX1_looksIndented_1 : decode cX1_looksIndented 1 = .ok (.iload_n 1, 1) := by decide +kernel
theorem dX1_looksIndented_2 : decode cX1_looksIndented 2 = .ok (.invokevirtual 86, 3) := by decide +kernel
theorem dX1_looksIndented_5 : decode cX1_looksIndented 5 = .ok (.ifCond .eq 34, 3) := by decide +kernel
theorem dX1_looksIndented_8 : decode cX1_looksIndented 8 = .ok (.iload_n 1, 1) := by decide +kernel
theorem dX1_looksIndented_9 : decode cX1_looksIndented 9 = .ok (.aload_n 0, 1) := by decide +kernel
theorem dX1_looksIndented_10 : decode cX1_looksIndented 10 = .ok (.getfield 37, 3) := by decide +kernel
theorem dX1_looksIndented_13 : decode cX1_looksIndented 13 = .ok (.iconst 1, 1) := by decide +kernel
theorem dX1_looksIndented_14 : decode cX1_looksIndented 14 = .ok (.isub, 1) := by decide +kernel
theorem dX1_looksIndented_15 : decode cX1_looksIndented 15 = .ok (.if_icmp .ge 24, 3) := by decide +kernel
theorem dX1_looksIndented_18 : decode cX1_looksIndented 18 = .ok (.aload_n 0, 1) := by decide +kernel
theorem dX1_looksIndented_19 : decode cX1_looksIndented 19 = .ok (.getfield 25, 3) := by decide +kernel
theorem dX1_looksIndented_22 : decode cX1_looksIndented 22 = .ok (.aload_n 0, 1) := by decide +kernel
theorem dX1_looksIndented_23 : decode cX1_looksIndented 23 = .ok (.iload_n 1, 1) := by decide +kernel
theorem dX1_looksIndented_24 : decode cX1_looksIndented 24 = .ok (.invokevirtual 83, 3) := by decide +kernel
theorem dX1_looksIndented_27 : decode cX1_looksIndented 27 = .ok (.isub, 1) := by decide +kernel
theorem dX1_looksIndented_28 : decode cX1_looksIndented 28 = .ok (.aload_n 0, 1) := by decide +kernel
theorem dX1_looksIndented_29 : decode cX1_looksIndented 29 = .ok (.getfield 31, 3) := by decide +kernel
theorem dX1_looksIndented_32 : decode cX1_looksIndented 32 = .ok (.if_icmp .le 7, 3) := by decide +kernel
theorem dX1_looksIndented_35 : decode cX1_looksIndented 35 = .ok (.iconst 1, 1) := by decide +kernel
theorem dX1_looksIndented_36 : decode cX1_looksIndented 36 = .ok (.goto 4, 3) := by decide +kernel
theorem dX1_looksIndented_39 : decode cX1_looksIndented 39 = .ok (.iconst 0, 1) := by decide +kernel
theorem dX1_looksIndented_40 : decode cX1_looksIndented 40 = .ok (.ireturn, 1) := by decide +kernel
theorem dX1_tellLine_0 : decode cX1_tellLine 0 = .ok (.iload_n 2, 1) := by decide +kernel
theorem dX1_tellLine_1 : decode cX1_tellLine 1 = .ok (.tableswitch 154 0 7 #[47, 54, 70, 86, 98, 109, 115, 140], 47) := by decide +kernel
theorem dX1_tellLine_48 : decode cX1_tellLine 48 = .ok (.aload_n 0, 1) := by decide +kernel
theorem dX1_tellLine_49 : decode cX1_tellLine 49 = .ok (.getfield 34, 3) := by decide +kernel
theorem dX1_tellLine_52 : decode cX1_tellLine 52 = .ok (.iload_n 1, 1) := by decide +kernel
theorem dX1_tellLine_53 : decode cX1_tellLine 53 = .ok (.iaload, 1) := by decide +kernel
theorem dX1_tellLine_54 : decode cX1_tellLine 54 = .ok (.ireturn, 1) := by decide +kernel
theorem dX1_tellLine_55 : decode cX1_tellLine 55 = .ok (.aload_n 0, 1) := by decide +kernel
theorem dX1_tellLine_56 : decode cX1_tellLine 56 = .ok (.getfield 34, 3) := by decide +kernel
theorem dX1_tellLine_59 : decode cX1_tellLine 59 = .ok (.iload_n 1, 1) := by decide +kernel
theorem dX1_tellLine_60 : decode cX1_tellLine 60 = .ok (.iconst 1, 1) := by decide +kernel
theorem dX1_tellLine_61 : decode cX1_tellLine 61 = .ok (.iadd, 1) := by decide +kernel
theorem dX1_tellLine_62 : decode cX1_tellLine 62 = .ok (.iaload, 1) := by decide +kernel
theorem dX1_tellLine_63 : decode cX1_tellLine 63 = .ok (.aload_n 0, 1) := by decide +kernel
theorem dX1_tellLine_64 : decode cX1_tellLine 64 = .ok (.getfield 34, 3) := by decide +kernel
theorem dX1_tellLine_67 : decode cX1_tellLine 67 = .ok (.iload_n 1, 1) := by decide +kernel
theorem dX1_tellLine_68 : decode cX1_tellLine 68 = .ok (.iaload, 1) := by decide +kernel
theorem dX1_tellLine_69 : decode cX1_tellLine 69 = .ok (.isub, 1) := by decide +kernel
theorem dX1_tellLine_70 : decode cX1_tellLine 70 = .ok (.ireturn, 1) := by decide +kernel
theorem dX1_tellLine_71 : decode cX1_tellLine 71 = .ok (.aload_n 0, 1) := by decide +kernel
theorem dX1_tellLine_72 : decode cX1_tellLine 72 = .ok (.aload_n 0, 1) := by decide +kernel
theorem dX1_tellLine_73 : decode cX1_tellLine 73 = .ok (.getfield 34, 3) := by decide +kernel
theorem dX1_tellLine_76 : decode cX1_tellLine 76 = .ok (.iload_n 1, 1) := by decide +kernel
theorem dX1_tellLine_77 : decode cX1_tellLine 77 = .ok (.iaload, 1) := by decide +kernel
theorem dX1_tellLine_78 : decode cX1_tellLine 78 = .ok (.aload_n 0, 1) := by decide +kernel
theorem dX1_tellLine_79 : decode cX1_tellLine 79 = .ok (.iload_n 1, 1) := by decide +kernel
theorem dX1_tellLine_80 : decode cX1_tellLine 80 = .ok (.invokevirtual 80, 3) := by decide +kernel
theorem dX1_tellLine_83 : decode cX1_tellLine 83 = .ok (.invokevirtual 62, 3) := by decide +kernel
theorem dX1_tellLine_86 : decode cX1_tellLine 86 = .ok (.ireturn, 1) := by decide +kernel
theorem dX1_tellLine_87 : decode cX1_tellLine 87 = .ok (.aload_n 0, 1) := by decide +kernel
theorem dX1_tellLine_88 : decode cX1_tellLine 88 = .ok (.getfield 15, 3) := by decide +kernel
theorem dX1_tellLine_91 : decode cX1_tellLine 91 = .ok (.aload_n 0, 1) := by decide +kernel
theorem dX1_tellLine_92 : decode cX1_tellLine 92 = .ok (.getfield 34, 3) := by decide +kernel
theorem dX1_tellLine_95 : decode cX1_tellLine 95 = .ok (.iload_n 1, 1) := by decide +kernel
theorem dX1_tellLine_96 : decode cX1_tellLine 96 = .ok (.iaload, 1) := by decide +kernel
theorem dX1_tellLine_97 : decode cX1_tellLine 97 = .ok (.iaload, 1) := by decide +kernel
theorem dX1_tellLine_98 : decode cX1_tellLine 98 = .ok (.ireturn, 1) := by decide +kernel
theorem dX1_tellLine_99 : decode cX1_tellLine 99 = .ok (.aload_n 0, 1) := by decide +kernel
theorem dX1_tellLine_100 : decode cX1_tellLine 100 = .ok (.getfield 18, 3) := by decide +kernel
theorem dX1_tellLine_103 : decode cX1_tellLine 103 = .ok (.aload_n 0, 1) := by decide +kernel
theorem dX1_tellLine_104 : decode cX1_tellLine 104 = .ok (.iload_n 1, 1) := by decide +kernel
theorem dX1_tellLine_105 : decode cX1_tellLine 105 = .ok (.invokevirtual 80, 3) := by decide +kernel
theorem dX1_tellLine_108 : decode cX1_tellLine 108 = .ok (.iaload, 1) := by decide +kernel
theorem dX1_tellLine_109 : decode cX1_tellLine 109 = .ok (.ireturn, 1) := by decide +kernel
theorem dX1_tellLine_110 : decode cX1_tellLine 110 = .ok (.aload_n 0, 1) := by decide +kernel
theorem dX1_tellLine_111 : decode cX1_tellLine 111 = .ok (.iload_n 1, 1) := by decide +kernel
theorem dX1_tellLine_112 : decode cX1_tellLine 112 = .ok (.invokevirtual 83, 3) := by decide +kernel
theorem dX1_tellLine_115 : decode cX1_tellLine 115 = .ok (.ireturn, 1) := by decide +kernel
theorem dX1_tellLine_116 : decode cX1_tellLine 116 = .ok (.aload_n 0, 1) := by decide +kernel
theorem dX1_tellLine_117 : decode cX1_tellLine 117 = .ok (.iload_n 1, 1) := by decide +kernel
theorem dX1_tellLine_118 : decode cX1_tellLine 118 = .ok (.invokevirtual 86, 3) := by decide +kernel
theorem dX1_tellLine_121 : decode cX1_tellLine 121 = .ok (.ifCond .eq 16, 3) := by decide +kernel
theorem dX1_tellLine_124 : decode cX1_tellLine 124 = .ok (.aload_n 0, 1) := by decide +kernel
theorem dX1_tellLine_125 : decode cX1_tellLine 125 = .ok (.getfield 25, 3) := by decide +kernel
theorem dX1_tellLine_128 : decode cX1_tellLine 128 = .ok (.aload_n 0, 1) := by decide +kernel
theorem dX1_tellLine_129 : decode cX1_tellLine 129 = .ok (.iload_n 1, 1) := by decide +kernel
theorem dX1_tellLine_130 : decode cX1_tellLine 130 = .ok (.invokevirtual 83, 3) := by decide +kernel
theorem dX1_tellLine_133 : decode cX1_tellLine 133 = .ok (.isub, 1) := by decide +kernel
theorem dX1_tellLine_134 : decode cX1_tellLine 134 = .ok (.goto 6, 3) := by decide +kernel
theorem dX1_tellLine_137 : decode cX1_tellLine 137 = .ok (.sipush (-1006), 3) := by decide +kernel
theorem dX1_tellLine_140 : decode cX1_tellLine 140 = .ok (.ireturn, 1) := by decide +kernel
theorem dX1_tellLine_141 : decode cX1_tellLine 141 = .ok (.aload_n 0, 1) := by decide +kernel
theorem dX1_tellLine_142 : decode cX1_tellLine 142 = .ok (.iload_n 1, 1) := by decide +kernel
theorem dX1_tellLine_143 : decode cX1_tellLine 143 = .ok (.invokevirtual 86, 3) := by decide +kernel
theorem dX1_tellLine_146 : decode cX1_tellLine 146 = .ok (.ifCond .eq 7, 3) := by decide +kernel
theorem dX1_tellLine_149 : decode cX1_tellLine 149 = .ok (.iconst 1, 1) := by decide +kernel
theorem dX1_tellLine_150 : decode cX1_tellLine 150 = .ok (.goto 4, 3) := by decide +kernel
theorem dX1_tellLine_153 : decode cX1_tellLine 153 = .ok (.iconst 0, 1) := by decide +kernel
theorem dX1_tellLine_154 : decode cX1_tellLine 154 = .ok (.ireturn, 1) := by decide +kernel
theorem dX1_tellLine_155 : decode cX1_tellLine 155 = .ok (.aload_n 0, 1) := by decide +kernel
theorem dX1_tellLine_156 : decode cX1_tellLine 156 = .ok (.iload_n 1, 1) := by decide +kernel
theorem dX1_tellLine_157 : decode cX1_tellLine 157 = .ok (.invokevirtual 90, 3) := by decide +kernel
theorem dX1_tellLine_160 : decode cX1_tellLine 160 = .ok (.ifCond .eq 7, 3) := by decide +kernel
theorem dX1_tellLine_163 : decode cX1_tellLine 163 = .ok (.iconst 1, 1) := by decide +kernel
theorem dX1_tellLine_164 : decode cX1_tellLine 164 = .ok (.goto 4, 3) := by decide +kernel
theorem dX1_tellLine_167 : decode cX1_tellLine 167 = .ok (.iconst 0, 1) := by decide +kernel
theorem dX1_tellLine_168 : decode cX1_tellLine 168 = .ok (.ireturn, 1) := by decide +kernel
theorem dX1_badness_0 : decode cX1_badness 0 = .ok (.iconst 0, 1) := by decide +kernel
theorem dX1_badness_1 : decode cX1_badness 1 = .ok (.istore_n 1, 1) := by decide +kernel
theorem dX1_badness_2 : decode cX1_badness 2 = .ok (.iconst 0, 1) := by decide +kernel
theorem dX1_badness_3 : decode cX1_badness 3 = .ok (.istore_n 2, 1) := by decide +kernel
theorem dX1_badness_4 : decode cX1_badness 4 = .ok (.iload_n 2, 1) := by decide +kernel
theorem dX1_badness_5 : decode cX1_badness 5 = .ok (.aload_n 0, 1) := by decide +kernel
theorem dX1_badness_6 : decode cX1_badness 6 = .ok (.getfield 37, 3) := by decide +kernel
theorem dX1_badness_9 : decode cX1_badness 9 = .ok (.if_icmp .ge 27, 3) := by decide +kernel
theorem dX1_badness_12 : decode cX1_badness 12 = .ok (.iload_n 1, 1) := by decide +kernel
theorem dX1_badness_13 : decode cX1_badness 13 = .ok (.aload_n 0, 1) := by decide +kernel
theorem dX1_badness_14 : decode cX1_badness 14 = .ok (.aload_n 0, 1) := by decide +kernel
theorem dX1_badness_15 : decode cX1_badness 15 = .ok (.getfield 34, 3) := by decide +kernel
theorem dX1_badness_18 : decode cX1_badness 18 = .ok (.iload_n 2, 1) := by decide +kernel
theorem dX1_badness_19 : decode cX1_badness 19 = .ok (.iaload, 1) := by decide +kernel
theorem dX1_badness_20 : decode cX1_badness 20 = .ok (.aload_n 0, 1) := by decide +kernel
theorem dX1_badness_21 : decode cX1_badness 21 = .ok (.iload_n 2, 1) := by decide +kernel
theorem dX1_badness_22 : decode cX1_badness 22 = .ok (.invokevirtual 80, 3) := by decide +kernel
theorem dX1_badness_25 : decode cX1_badness 25 = .ok (.invokevirtual 77, 3) := by decide +kernel
theorem dX1_badness_28 : decode cX1_badness 28 = .ok (.iadd, 1) := by decide +kernel
theorem dX1_badness_29 : decode cX1_badness 29 = .ok (.istore_n 1, 1) := by decide +kernel
theorem dX1_badness_30 : decode cX1_badness 30 = .ok (.iinc 2 1, 3) := by decide +kernel
theorem dX1_badness_33 : decode cX1_badness 33 = .ok (.goto (-29), 3) := by decide +kernel
theorem dX1_badness_36 : decode cX1_badness 36 = .ok (.iload_n 1, 1) := by decide +kernel
theorem dX1_badness_37 : decode cX1_badness 37 = .ok (.ireturn, 1) := by decide +kernel
theorem dX1_countIndented_0 : decode cX1_countIndented 0 = .ok (.iconst 0, 1) := by decide +kernel
theorem dX1_countIndented_1 : decode cX1_countIndented 1 = .ok (.istore_n 1, 1) := by decide +kernel
theorem dX1_countIndented_2 : decode cX1_countIndented 2 = .ok (.iconst 0, 1) := by decide +kernel
theorem dX1_countIndented_3 : decode cX1_countIndented 3 = .ok (.istore_n 2, 1) := by decide +kernel
theorem dX1_countIndented_4 : decode cX1_countIndented 4 = .ok (.iload_n 2, 1) := by decide +kernel
theorem dX1_countIndented_5 : decode cX1_countIndented 5 = .ok (.aload_n 0, 1) := by decide +kernel
theorem dX1_countIndented_6 : decode cX1_countIndented 6 = .ok (.getfield 37, 3) := by decide +kernel
theorem dX1_countIndented_9 : decode cX1_countIndented 9 = .ok (.if_icmp .ge 20, 3) := by decide +kernel
theorem dX1_countIndented_12 : decode cX1_countIndented 12 = .ok (.aload_n 0, 1) := by decide +kernel
theorem dX1_countIndented_13 : decode cX1_countIndented 13 = .ok (.iload_n 2, 1) := by decide +kernel
theorem dX1_countIndented_14 : decode cX1_countIndented 14 = .ok (.invokevirtual 90, 3) := by decide +kernel
theorem dX1_countIndented_17 : decode cX1_countIndented 17 = .ok (.ifCond .eq 6, 3) := by decide +kernel
theorem dX1_countIndented_20 : decode cX1_countIndented 20 = .ok (.iinc 1 1, 3) := by decide +kernel
theorem dX1_countIndented_23 : decode cX1_countIndented 23 = .ok (.iinc 2 1, 3) := by decide +kernel
theorem dX1_countIndented_26 : decode cX1_countIndented 26 = .ok (.goto (-22), 3) := by decide +kernel
theorem dX1_countIndented_29 : decode cX1_countIndented 29 = .ok (.iload_n 1, 1) := by decide +kernel
theorem dX1_countIndented_30 : decode cX1_countIndented 30 = .ok (.ireturn, 1) := by decide +kernel
theorem dX1_countUnfit_0 : decode cX1_countUnfit 0 = .ok (.iconst 0, 1) := by decide +kernel
theorem dX1_countUnfit_1 : decode cX1_countUnfit 1 = .ok (.istore_n 1, 1) := by decide +kernel
theorem dX1_countUnfit_2 : decode cX1_countUnfit 2 = .ok (.iconst 0, 1) := by decide +kernel
theorem dX1_countUnfit_3 : decode cX1_countUnfit 3 = .ok (.istore_n 2, 1) := by decide +kernel
theorem dX1_countUnfit_4 : decode cX1_countUnfit 4 = .ok (.iload_n 2, 1) := by decide +kernel
theorem dX1_countUnfit_5 : decode cX1_countUnfit 5 = .ok (.aload_n 0, 1) := by decide +kernel
theorem dX1_countUnfit_6 : decode cX1_countUnfit 6 = .ok (.getfield 37, 3) := by decide +kernel
theorem dX1_countUnfit_9 : decode cX1_countUnfit 9 = .ok (.if_icmp .ge 20, 3) := by decide +kernel
theorem dX1_countUnfit_12 : decode cX1_countUnfit 12 = .ok (.aload_n 0, 1) := by decide +kernel
theorem dX1_countUnfit_13 : decode cX1_countUnfit 13 = .ok (.iload_n 2, 1) := by decide +kernel
theorem dX1_countUnfit_14 : decode cX1_countUnfit 14 = .ok (.invokevirtual 86, 3) := by decide +kernel
theorem dX1_countUnfit_17 : decode cX1_countUnfit 17 = .ok (.ifCond .ne 6, 3) := by decide +kernel
theorem dX1_countUnfit_20 : decode cX1_countUnfit 20 = .ok (.iinc 1 1, 3) := by decide +kernel
theorem dX1_countUnfit_23 : decode cX1_countUnfit 23 = .ok (.iinc 2 1, 3) := by decide +kernel
theorem dX1_countUnfit_26 : decode cX1_countUnfit 26 = .ok (.goto (-22), 3) := by decide +kernel
theorem dX1_countUnfit_29 : decode cX1_countUnfit 29 = .ok (.iload_n 1, 1) := by decide +kernel
theorem dX1_countUnfit_30 : decode cX1_countUnfit 30 = .ok (.ireturn, 1) := by decide +kernel
theorem dX1_greatestBody_0 : decode cX1_greatestBody 0 = .ok (.aload_n 0, 1) := by decide +kernel
theorem dX1_greatestBody_1 : decode cX1_greatestBody 1 = .ok (.getfield 37, 3) := by decide +kernel
theorem dX1_greatestBody_4 : decode cX1_greatestBody 4 = .ok (.ifCond .ne 7, 3) := by decide +kernel
theorem dX1_greatestBody_7 : decode cX1_greatestBody 7 = .ok (.sipush (-1006), 3) := by decide +kernel
theorem dX1_greatestBody_10 : decode cX1_greatestBody 10 = .ok (.ireturn, 1) := by decide +kernel
theorem dX1_greatestBody_11 : decode cX1_greatestBody 11 = .ok (.aload_n 0, 1) := by decide +kernel
theorem dX1_greatestBody_12 : decode cX1_greatestBody 12 = .ok (.iconst 0, 1) := by decide +kernel
theorem dX1_greatestBody_13 : decode cX1_greatestBody 13 = .ok (.invokevirtual 83, 3) := by decide +kernel
theorem dX1_greatestBody_16 : decode cX1_greatestBody 16 = .ok (.istore_n 1, 1) := by decide +kernel
theorem dX1_greatestBody_17 : decode cX1_greatestBody 17 = .ok (.iconst 1, 1) := by decide +kernel
theorem dX1_greatestBody_18 : decode cX1_greatestBody 18 = .ok (.istore_n 2, 1) := by decide +kernel
theorem dX1_greatestBody_19 : decode cX1_greatestBody 19 = .ok (.iload_n 2, 1) := by decide +kernel
theorem dX1_greatestBody_20 : decode cX1_greatestBody 20 = .ok (.aload_n 0, 1) := by decide +kernel
theorem dX1_greatestBody_21 : decode cX1_greatestBody 21 = .ok (.getfield 37, 3) := by decide +kernel
theorem dX1_greatestBody_24 : decode cX1_greatestBody 24 = .ok (.if_icmp .ge 19, 3) := by decide +kernel
theorem dX1_greatestBody_27 : decode cX1_greatestBody 27 = .ok (.iload_n 1, 1) := by decide +kernel
theorem dX1_greatestBody_28 : decode cX1_greatestBody 28 = .ok (.aload_n 0, 1) := by decide +kernel
theorem dX1_greatestBody_29 : decode cX1_greatestBody 29 = .ok (.iload_n 2, 1) := by decide +kernel
theorem dX1_greatestBody_30 : decode cX1_greatestBody 30 = .ok (.invokevirtual 83, 3) := by decide +kernel
theorem dX1_greatestBody_33 : decode cX1_greatestBody 33 = .ok (.invokestatic 93, 3) := by decide +kernel
theorem dX1_greatestBody_36 : decode cX1_greatestBody 36 = .ok (.istore_n 1, 1) := by decide +kernel
theorem dX1_greatestBody_37 : decode cX1_greatestBody 37 = .ok (.iinc 2 1, 3) := by decide +kernel
theorem dX1_greatestBody_40 : decode cX1_greatestBody 40 = .ok (.goto (-21), 3) := by decide +kernel
theorem dX1_greatestBody_43 : decode cX1_greatestBody 43 = .ok (.iload_n 1, 1) := by decide +kernel
theorem dX1_greatestBody_44 : decode cX1_greatestBody 44 = .ok (.ireturn, 1) := by decide +kernel
theorem dX1_breaksLike_0 : decode cX1_breaksLike 0 = .ok (.aload_n 0, 1) := by decide +kernel
theorem dX1_breaksLike_1 : decode cX1_breaksLike 1 = .ok (.getfield 37, 3) := by decide +kernel
theorem dX1_breaksLike_4 : decode cX1_breaksLike 4 = .ok (.aload_n 1, 1) := by decide +kernel
theorem dX1_breaksLike_5 : decode cX1_breaksLike 5 = .ok (.getfield 37, 3) := by decide +kernel
theorem dX1_breaksLike_8 : decode cX1_breaksLike 8 = .ok (.if_icmp .eq 5, 3) := by decide +kernel
theorem dX1_breaksLike_11 : decode cX1_breaksLike 11 = .ok (.iconst 0, 1) := by decide +kernel
theorem dX1_breaksLike_12 : decode cX1_breaksLike 12 = .ok (.ireturn, 1) := by decide +kernel
theorem dX1_breaksLike_13 : decode cX1_breaksLike 13 = .ok (.iconst 0, 1) := by decide +kernel
theorem dX1_breaksLike_14 : decode cX1_breaksLike 14 = .ok (.istore_n 2, 1) := by decide +kernel
theorem dX1_breaksLike_15 : decode cX1_breaksLike 15 = .ok (.iload_n 2, 1) := by decide +kernel
theorem dX1_breaksLike_16 : decode cX1_breaksLike 16 = .ok (.aload_n 0, 1) := by decide +kernel
theorem dX1_breaksLike_17 : decode cX1_breaksLike 17 = .ok (.getfield 37, 3) := by decide +kernel
theorem dX1_breaksLike_20 : decode cX1_breaksLike 20 = .ok (.if_icmp .ge 26, 3) := by decide +kernel
theorem dX1_breaksLike_23 : decode cX1_breaksLike 23 = .ok (.aload_n 0, 1) := by decide +kernel
theorem dX1_breaksLike_24 : decode cX1_breaksLike 24 = .ok (.getfield 34, 3) := by decide +kernel
theorem dX1_breaksLike_27 : decode cX1_breaksLike 27 = .ok (.iload_n 2, 1) := by decide +kernel
theorem dX1_breaksLike_28 : decode cX1_breaksLike 28 = .ok (.iaload, 1) := by decide +kernel
theorem dX1_breaksLike_29 : decode cX1_breaksLike 29 = .ok (.aload_n 1, 1) := by decide +kernel
theorem dX1_breaksLike_30 : decode cX1_breaksLike 30 = .ok (.getfield 34, 3) := by decide +kernel
theorem dX1_breaksLike_33 : decode cX1_breaksLike 33 = .ok (.iload_n 2, 1) := by decide +kernel
theorem dX1_breaksLike_34 : decode cX1_breaksLike 34 = .ok (.iaload, 1) := by decide +kernel
theorem dX1_breaksLike_35 : decode cX1_breaksLike 35 = .ok (.if_icmp .eq 5, 3) := by decide +kernel
theorem dX1_breaksLike_38 : decode cX1_breaksLike 38 = .ok (.iconst 0, 1) := by decide +kernel
theorem dX1_breaksLike_39 : decode cX1_breaksLike 39 = .ok (.ireturn, 1) := by decide +kernel
theorem dX1_breaksLike_40 : decode cX1_breaksLike 40 = .ok (.iinc 2 1, 3) := by decide +kernel
theorem dX1_breaksLike_43 : decode cX1_breaksLike 43 = .ok (.goto (-28), 3) := by decide +kernel
theorem dX1_breaksLike_46 : decode cX1_breaksLike 46 = .ok (.iconst 1, 1) := by decide +kernel
theorem dX1_breaksLike_47 : decode cX1_breaksLike 47 = .ok (.ireturn, 1) := by decide +kernel
theorem dX2_init_0 : decode cX2_init 0 = .ok (.aload_n 0, 1) := by decide +kernel
theorem dX2_init_1 : decode cX2_init 1 = .ok (.invokespecial 3, 3) := by decide +kernel
theorem dX2_init_4 : decode cX2_init 4 = .ok (.aload_n 0, 1) := by decide +kernel
theorem dX2_init_5 : decode cX2_init 5 = .ok (.bipush 60, 2) := by decide +kernel
theorem dX2_init_7 : decode cX2_init 7 = .ok (.newarray .char, 2) := by decide +kernel
theorem dX2_init_9 : decode cX2_init 9 = .ok (.putfield 9, 3) := by decide +kernel
theorem dX2_init_12 : decode cX2_init 12 = .ok (.aload_n 0, 1) := by decide +kernel
theorem dX2_init_13 : decode cX2_init 13 = .ok (.iconst 0, 1) := by decide +kernel
theorem dX2_init_14 : decode cX2_init 14 = .ok (.putfield 15, 3) := by decide +kernel
theorem dX2_init_17 : decode cX2_init 17 = .ok (.return_, 1) := by decide +kernel
theorem dX2_lengthOf_0 : decode cX2_lengthOf 0 = .ok (.iconst 0, 1) := by decide +kernel
theorem dX2_lengthOf_1 : decode cX2_lengthOf 1 = .ok (.istore_n 2, 1) := by decide +kernel
theorem dX2_lengthOf_2 : decode cX2_lengthOf 2 = .ok (.lload_n 0, 1) := by decide +kernel
theorem dX2_lengthOf_3 : decode cX2_lengthOf 3 = .ok (.lstore_n 3, 1) := by decide +kernel
theorem dX2_lengthOf_4 : decode cX2_lengthOf 4 = .ok (.iconst 0, 1) := by decide +kernel
theorem dX2_lengthOf_5 : decode cX2_lengthOf 5 = .ok (.istore 5, 2) := by decide +kernel
theorem dX2_lengthOf_7 : decode cX2_lengthOf 7 = .ok (.iload 5, 2) := by decide +kernel
theorem dX2_lengthOf_9 : decode cX2_lengthOf 9 = .ok (.bipush 8, 2) := by decide +kernel
theorem dX2_lengthOf_11 : decode cX2_lengthOf 11 = .ok (.if_icmp .ge 47, 3) := by decide +kernel
theorem dX2_lengthOf_14 : decode cX2_lengthOf 14 = .ok (.lload_n 3, 1) := by decide +kernel
theorem dX2_lengthOf_15 : decode cX2_lengthOf 15 = .ok (.lconst 0, 1) := by decide +kernel
theorem dX2_lengthOf_16 : decode cX2_lengthOf 16 = .ok (.lcmp, 1) := by decide +kernel
theorem dX2_lengthOf_17 : decode cX2_lengthOf 17 = .ok (.ifCond .eq 41, 3) := by decide +kernel
theorem dX2_lengthOf_20 : decode cX2_lengthOf 20 = .ok (.lload_n 3, 1) := by decide +kernel
theorem dX2_lengthOf_21 : decode cX2_lengthOf 21 = .ok (.ldc2_w 19, 3) := by decide +kernel
theorem dX2_lengthOf_24 : decode cX2_lengthOf 24 = .ok (.land, 1) := by decide +kernel
theorem dX2_lengthOf_25 : decode cX2_lengthOf 25 = .ok (.l2i, 1) := by decide +kernel
theorem dX2_lengthOf_26 : decode cX2_lengthOf 26 = .ok (.istore 6, 2) := by decide +kernel
theorem dX2_lengthOf_28 : decode cX2_lengthOf 28 = .ok (.iload 6, 2) := by decide +kernel
theorem dX2_lengthOf_30 : decode cX2_lengthOf 30 = .ok (.bipush 33, 2) := by decide +kernel
theorem dX2_lengthOf_32 : decode cX2_lengthOf 32 = .ok (.if_icmp .lt 10, 3) := by decide +kernel
theorem dX2_lengthOf_35 : decode cX2_lengthOf 35 = .ok (.iload 6, 2) := by decide +kernel
theorem dX2_lengthOf_37 : decode cX2_lengthOf 37 = .ok (.bipush 126, 2) := by decide +kernel
theorem dX2_lengthOf_39 : decode cX2_lengthOf 39 = .ok (.if_icmp .le 5, 3) := by decide +kernel
theorem dX2_lengthOf_42 : decode cX2_lengthOf 42 = .ok (.iconst 0, 1) := by decide +kernel
theorem dX2_lengthOf_43 : decode cX2_lengthOf 43 = .ok (.ireturn, 1) := by decide +kernel
theorem dX2_lengthOf_44 : decode cX2_lengthOf 44 = .ok (.iinc 2 1, 3) := by decide +kernel
theorem dX2_lengthOf_47 : decode cX2_lengthOf 47 = .ok (.lload_n 3, 1) := by decide +kernel
theorem dX2_lengthOf_48 : decode cX2_lengthOf 48 = .ok (.bipush 8, 2) := by decide +kernel
theorem dX2_lengthOf_50 : decode cX2_lengthOf 50 = .ok (.lushr, 1) := by decide +kernel
theorem dX2_lengthOf_51 : decode cX2_lengthOf 51 = .ok (.lstore_n 3, 1) := by decide +kernel
theorem dX2_lengthOf_52 : decode cX2_lengthOf 52 = .ok (.iinc 5 1, 3) := by decide +kernel
theorem dX2_lengthOf_55 : decode cX2_lengthOf 55 = .ok (.goto (-48), 3) := by decide +kernel
theorem dX2_lengthOf_58 : decode cX2_lengthOf 58 = .ok (.iload_n 2, 1) := by decide +kernel
theorem dX2_lengthOf_59 : decode cX2_lengthOf 59 = .ok (.ireturn, 1) := by decide +kernel
theorem dX2_append_0 : decode cX2_append 0 = .ok (.iload_n 3, 1) := by decide +kernel
theorem dX2_append_1 : decode cX2_append 1 = .ok (.ifCond .lt 14, 3) := by decide +kernel
theorem dX2_append_4 : decode cX2_append 4 = .ok (.aload_n 0, 1) := by decide +kernel
theorem dX2_append_5 : decode cX2_append 5 = .ok (.getfield 15, 3) := by decide +kernel
theorem dX2_append_8 : decode cX2_append 8 = .ok (.iload_n 3, 1) := by decide +kernel
theorem dX2_append_9 : decode cX2_append 9 = .ok (.iadd, 1) := by decide +kernel
theorem dX2_append_10 : decode cX2_append 10 = .ok (.bipush 60, 2) := by decide +kernel
theorem dX2_append_12 : decode cX2_append 12 = .ok (.if_icmp .le 4, 3) := by decide +kernel
theorem dX2_append_15 : decode cX2_append 15 = .ok (.return_, 1) := by decide +kernel
theorem dX2_append_16 : decode cX2_append 16 = .ok (.iconst 0, 1) := by decide +kernel
theorem dX2_append_17 : decode cX2_append 17 = .ok (.istore 4, 2) := by decide +kernel
theorem dX2_append_19 : decode cX2_append 19 = .ok (.iload 4, 2) := by decide +kernel
theorem dX2_append_21 : decode cX2_append 21 = .ok (.iload_n 3, 1) := by decide +kernel
theorem dX2_append_22 : decode cX2_append 22 = .ok (.if_icmp .ge 38, 3) := by decide +kernel
theorem dX2_append_25 : decode cX2_append 25 = .ok (.aload_n 0, 1) := by decide +kernel
theorem dX2_append_26 : decode cX2_append 26 = .ok (.getfield 9, 3) := by decide +kernel
theorem dX2_append_29 : decode cX2_append 29 = .ok (.aload_n 0, 1) := by decide +kernel
theorem dX2_append_30 : decode cX2_append 30 = .ok (.getfield 15, 3) := by decide +kernel
theorem dX2_append_33 : decode cX2_append 33 = .ok (.iload_n 3, 1) := by decide +kernel
theorem dX2_append_34 : decode cX2_append 34 = .ok (.iadd, 1) := by decide +kernel
theorem dX2_append_35 : decode cX2_append 35 = .ok (.iconst 1, 1) := by decide +kernel
theorem dX2_append_36 : decode cX2_append 36 = .ok (.isub, 1) := by decide +kernel
theorem dX2_append_37 : decode cX2_append 37 = .ok (.iload 4, 2) := by decide +kernel
theorem dX2_append_39 : decode cX2_append 39 = .ok (.isub, 1) := by decide +kernel
theorem dX2_append_40 : decode cX2_append 40 = .ok (.lload_n 1, 1) := by decide +kernel
theorem dX2_append_41 : decode cX2_append 41 = .ok (.bipush 8, 2) := by decide +kernel
theorem dX2_append_43 : decode cX2_append 43 = .ok (.iload 4, 2) := by decide +kernel
theorem dX2_append_45 : decode cX2_append 45 = .ok (.imul, 1) := by decide +kernel
theorem dX2_append_46 : decode cX2_append 46 = .ok (.lushr, 1) := by decide +kernel
theorem dX2_append_47 : decode cX2_append 47 = .ok (.ldc2_w 19, 3) := by decide +kernel
theorem dX2_append_50 : decode cX2_append 50 = .ok (.land, 1) := by decide +kernel
theorem dX2_append_51 : decode cX2_append 51 = .ok (.l2i, 1) := by decide +kernel
theorem dX2_append_52 : decode cX2_append 52 = .ok (.i2c, 1) := by decide +kernel
theorem dX2_append_53 : decode cX2_append 53 = .ok (.castore, 1) := by decide +kernel
theorem dX2_append_54 : decode cX2_append 54 = .ok (.iinc 4 1, 3) := by decide +kernel
theorem dX2_append_57 : decode cX2_append 57 = .ok (.goto (-38), 3) := by decide +kernel
theorem dX2_append_60 : decode cX2_append 60 = .ok (.aload_n 0, 1) := by decide +kernel
theorem dX2_append_61 : decode cX2_append 61 = .ok (.dup, 1) := by decide +kernel
theorem dX2_append_62 : decode cX2_append 62 = .ok (.getfield 15, 3) := by decide +kernel
theorem dX2_append_65 : decode cX2_append 65 = .ok (.iload_n 3, 1) := by decide +kernel
theorem dX2_append_66 : decode cX2_append 66 = .ok (.iadd, 1) := by decide +kernel
theorem dX2_append_67 : decode cX2_append 67 = .ok (.putfield 15, 3) := by decide +kernel
theorem dX2_append_70 : decode cX2_append 70 = .ok (.return_, 1) := by decide +kernel
theorem dX2_firstFault_0 : decode cX2_firstFault 0 = .ok (.iconst 0, 1) := by decide +kernel
theorem dX2_firstFault_1 : decode cX2_firstFault 1 = .ok (.istore_n 1, 1) := by decide +kernel
theorem dX2_firstFault_2 : decode cX2_firstFault 2 = .ok (.iconst 0, 1) := by decide +kernel
theorem dX2_firstFault_3 : decode cX2_firstFault 3 = .ok (.istore_n 2, 1) := by decide +kernel
theorem dX2_firstFault_4 : decode cX2_firstFault 4 = .ok (.iload_n 2, 1) := by decide +kernel
theorem dX2_firstFault_5 : decode cX2_firstFault 5 = .ok (.aload_n 0, 1) := by decide +kernel
theorem dX2_firstFault_6 : decode cX2_firstFault 6 = .ok (.getfield 15, 3) := by decide +kernel
theorem dX2_firstFault_9 : decode cX2_firstFault 9 = .ok (.if_icmp .ge 54, 3) := by decide +kernel
theorem dX2_firstFault_12 : decode cX2_firstFault 12 = .ok (.aload_n 0, 1) := by decide +kernel
theorem dX2_firstFault_13 : decode cX2_firstFault 13 = .ok (.getfield 9, 3) := by decide +kernel
theorem dX2_firstFault_16 : decode cX2_firstFault 16 = .ok (.iload_n 2, 1) := by decide +kernel
theorem dX2_firstFault_17 : decode cX2_firstFault 17 = .ok (.caload, 1) := by decide +kernel
theorem dX2_firstFault_18 : decode cX2_firstFault 18 = .ok (.bipush 95, 2) := by decide +kernel
theorem dX2_firstFault_20 : decode cX2_firstFault 20 = .ok (.if_icmp .ne 14, 3) := by decide +kernel
theorem dX2_firstFault_23 : decode cX2_firstFault 23 = .ok (.iload_n 1, 1) := by decide +kernel
theorem dX2_firstFault_24 : decode cX2_firstFault 24 = .ok (.ifCond .ne 5, 3) := by decide +kernel
theorem dX2_firstFault_27 : decode cX2_firstFault 27 = .ok (.iload_n 2, 1) := by decide +kernel
theorem dX2_firstFault_28 : decode cX2_firstFault 28 = .ok (.ireturn, 1) := by decide +kernel
theorem dX2_firstFault_29 : decode cX2_firstFault 29 = .ok (.iconst 0, 1) := by decide +kernel
theorem dX2_firstFault_30 : decode cX2_firstFault 30 = .ok (.istore_n 1, 1) := by decide +kernel
theorem dX2_firstFault_31 : decode cX2_firstFault 31 = .ok (.goto 26, 3) := by decide +kernel
theorem dX2_firstFault_34 : decode cX2_firstFault 34 = .ok (.aload_n 0, 1) := by decide +kernel
theorem dX2_firstFault_35 : decode cX2_firstFault 35 = .ok (.getfield 9, 3) := by decide +kernel
theorem dX2_firstFault_38 : decode cX2_firstFault 38 = .ok (.iload_n 2, 1) := by decide +kernel
theorem dX2_firstFault_39 : decode cX2_firstFault 39 = .ok (.caload, 1) := by decide +kernel
theorem dX2_firstFault_40 : decode cX2_firstFault 40 = .ok (.invokestatic 21, 3) := by decide +kernel
theorem dX2_firstFault_43 : decode cX2_firstFault 43 = .ok (.ifCond .lt 9, 3) := by decide +kernel
theorem dX2_firstFault_46 : decode cX2_firstFault 46 = .ok (.iload_n 1, 1) := by decide +kernel
theorem dX2_firstFault_47 : decode cX2_firstFault 47 = .ok (.bipush 10, 2) := by decide +kernel
theorem dX2_firstFault_49 : decode cX2_firstFault 49 = .ok (.if_icmp .ne 5, 3) := by decide +kernel
theorem dX2_firstFault_52 : decode cX2_firstFault 52 = .ok (.iload_n 2, 1) := by decide +kernel
theorem dX2_firstFault_53 : decode cX2_firstFault 53 = .ok (.ireturn, 1) := by decide +kernel
theorem dX2_firstFault_54 : decode cX2_firstFault 54 = .ok (.iinc 1 1, 3) := by decide +kernel
theorem dX2_firstFault_57 : decode cX2_firstFault 57 = .ok (.iinc 2 1, 3) := by decide +kernel
theorem dX2_firstFault_60 : decode cX2_firstFault 60 = .ok (.goto (-56), 3) := by decide +kernel
theorem dX2_firstFault_63 : decode cX2_firstFault 63 = .ok (.iload_n 1, 1) := by decide +kernel
theorem dX2_firstFault_64 : decode cX2_firstFault 64 = .ok (.ifCond .ne 10, 3) := by decide +kernel
theorem dX2_firstFault_67 : decode cX2_firstFault 67 = .ok (.aload_n 0, 1) := by decide +kernel
theorem dX2_firstFault_68 : decode cX2_firstFault 68 = .ok (.getfield 15, 3) := by decide +kernel
theorem dX2_firstFault_71 : decode cX2_firstFault 71 = .ok (.goto 6, 3) := by decide +kernel
theorem dX2_firstFault_74 : decode cX2_firstFault 74 = .ok (.sipush (-1006), 3) := by decide +kernel
theorem dX2_firstFault_77 : decode cX2_firstFault 77 = .ok (.ireturn, 1) := by decide +kernel
theorem dX2_countWords_0 : decode cX2_countWords 0 = .ok (.iconst 1, 1) := by decide +kernel
theorem dX2_countWords_1 : decode cX2_countWords 1 = .ok (.istore_n 1, 1) := by decide +kernel
theorem dX2_countWords_2 : decode cX2_countWords 2 = .ok (.iconst 0, 1) := by decide +kernel
theorem dX2_countWords_3 : decode cX2_countWords 3 = .ok (.istore_n 2, 1) := by decide +kernel
theorem dX2_countWords_4 : decode cX2_countWords 4 = .ok (.iload_n 2, 1) := by decide +kernel
theorem dX2_countWords_5 : decode cX2_countWords 5 = .ok (.aload_n 0, 1) := by decide +kernel
theorem dX2_countWords_6 : decode cX2_countWords 6 = .ok (.getfield 15, 3) := by decide +kernel
theorem dX2_countWords_9 : decode cX2_countWords 9 = .ok (.if_icmp .ge 23, 3) := by decide +kernel
theorem dX2_countWords_12 : decode cX2_countWords 12 = .ok (.aload_n 0, 1) := by decide +kernel
theorem dX2_countWords_13 : decode cX2_countWords 13 = .ok (.getfield 9, 3) := by decide +kernel
theorem dX2_countWords_16 : decode cX2_countWords 16 = .ok (.iload_n 2, 1) := by decide +kernel
theorem dX2_countWords_17 : decode cX2_countWords 17 = .ok (.caload, 1) := by decide +kernel
theorem dX2_countWords_18 : decode cX2_countWords 18 = .ok (.bipush 95, 2) := by decide +kernel
theorem dX2_countWords_20 : decode cX2_countWords 20 = .ok (.if_icmp .ne 6, 3) := by decide +kernel
theorem dX2_countWords_23 : decode cX2_countWords 23 = .ok (.iinc 1 1, 3) := by decide +kernel
theorem dX2_countWords_26 : decode cX2_countWords 26 = .ok (.iinc 2 1, 3) := by decide +kernel
theorem dX2_countWords_29 : decode cX2_countWords 29 = .ok (.goto (-25), 3) := by decide +kernel
theorem dX2_countWords_32 : decode cX2_countWords 32 = .ok (.iload_n 1, 1) := by decide +kernel
theorem dX2_countWords_33 : decode cX2_countWords 33 = .ok (.ireturn, 1) := by decide +kernel
theorem dX2_addWordsTo_0 : decode cX2_addWordsTo 0 = .ok (.aload_n 1, 1) := by decide +kernel
theorem dX2_addWordsTo_1 : decode cX2_addWordsTo 1 = .ok (.invokevirtual 25, 3) := by decide +kernel
theorem dX2_addWordsTo_4 : decode cX2_addWordsTo 4 = .ok (.iconst 0, 1) := by decide +kernel
theorem dX2_addWordsTo_5 : decode cX2_addWordsTo 5 = .ok (.istore_n 2, 1) := by decide +kernel
theorem dX2_addWordsTo_6 : decode cX2_addWordsTo 6 = .ok (.iload_n 2, 1) := by decide +kernel
theorem dX2_addWordsTo_7 : decode cX2_addWordsTo 7 = .ok (.aload_n 0, 1) := by decide +kernel
theorem dX2_addWordsTo_8 : decode cX2_addWordsTo 8 = .ok (.getfield 15, 3) := by decide +kernel
theorem dX2_addWordsTo_11 : decode cX2_addWordsTo 11 = .ok (.if_icmp .ge 37, 3) := by decide +kernel
theorem dX2_addWordsTo_14 : decode cX2_addWordsTo 14 = .ok (.aload_n 0, 1) := by decide +kernel
theorem dX2_addWordsTo_15 : decode cX2_addWordsTo 15 = .ok (.getfield 9, 3) := by decide +kernel
theorem dX2_addWordsTo_18 : decode cX2_addWordsTo 18 = .ok (.iload_n 2, 1) := by decide +kernel
theorem dX2_addWordsTo_19 : decode cX2_addWordsTo 19 = .ok (.caload, 1) := by decide +kernel
theorem dX2_addWordsTo_20 : decode cX2_addWordsTo 20 = .ok (.bipush 95, 2) := by decide +kernel
theorem dX2_addWordsTo_22 : decode cX2_addWordsTo 22 = .ok (.if_icmp .ne 10, 3) := by decide +kernel
theorem dX2_addWordsTo_25 : decode cX2_addWordsTo 25 = .ok (.aload_n 1, 1) := by decide +kernel
theorem dX2_addWordsTo_26 : decode cX2_addWordsTo 26 = .ok (.invokevirtual 25, 3) := by decide +kernel
theorem dX2_addWordsTo_29 : decode cX2_addWordsTo 29 = .ok (.goto 13, 3) := by decide +kernel
theorem dX2_addWordsTo_32 : decode cX2_addWordsTo 32 = .ok (.aload_n 1, 1) := by decide +kernel
theorem dX2_addWordsTo_33 : decode cX2_addWordsTo 33 = .ok (.aload_n 0, 1) := by decide +kernel
theorem dX2_addWordsTo_34 : decode cX2_addWordsTo 34 = .ok (.getfield 9, 3) := by decide +kernel
theorem dX2_addWordsTo_37 : decode cX2_addWordsTo 37 = .ok (.iload_n 2, 1) := by decide +kernel
theorem dX2_addWordsTo_38 : decode cX2_addWordsTo 38 = .ok (.caload, 1) := by decide +kernel
theorem dX2_addWordsTo_39 : decode cX2_addWordsTo 39 = .ok (.invokevirtual 30, 3) := by decide +kernel
theorem dX2_addWordsTo_42 : decode cX2_addWordsTo 42 = .ok (.iinc 2 1, 3) := by decide +kernel
theorem dX2_addWordsTo_45 : decode cX2_addWordsTo 45 = .ok (.goto (-39), 3) := by decide +kernel
theorem dX2_addWordsTo_48 : decode cX2_addWordsTo 48 = .ok (.return_, 1) := by decide +kernel
theorem dX3_init_0 : decode cX3_init 0 = .ok (.aload_n 0, 1) := by decide +kernel
theorem dX3_init_1 : decode cX3_init 1 = .ok (.invokespecial 3, 3) := by decide +kernel
theorem dX3_init_4 : decode cX3_init 4 = .ok (.aload_n 0, 1) := by decide +kernel
theorem dX3_init_5 : decode cX3_init 5 = .ok (.iconst 4, 1) := by decide +kernel
theorem dX3_init_6 : decode cX3_init 6 = .ok (.newarray .int, 2) := by decide +kernel
theorem dX3_init_8 : decode cX3_init 8 = .ok (.dup, 1) := by decide +kernel
theorem dX3_init_9 : decode cX3_init 9 = .ok (.iconst 0, 1) := by decide +kernel
theorem dX3_init_10 : decode cX3_init 10 = .ok (.bipush 80, 2) := by decide +kernel
theorem dX3_init_12 : decode cX3_init 12 = .ok (.iastore, 1) := by decide +kernel
theorem dX3_init_13 : decode cX3_init 13 = .ok (.dup, 1) := by decide +kernel
theorem dX3_init_14 : decode cX3_init 14 = .ok (.iconst 1, 1) := by decide +kernel
theorem dX3_init_15 : decode cX3_init 15 = .ok (.bipush 6, 2) := by decide +kernel
theorem dX3_init_17 : decode cX3_init 17 = .ok (.iastore, 1) := by decide +kernel
theorem dX3_init_18 : decode cX3_init 18 = .ok (.dup, 1) := by decide +kernel
theorem dX3_init_19 : decode cX3_init 19 = .ok (.iconst 2, 1) := by decide +kernel
theorem dX3_init_20 : decode cX3_init 20 = .ok (.bipush 12, 2) := by decide +kernel
theorem dX3_init_22 : decode cX3_init 22 = .ok (.iastore, 1) := by decide +kernel
theorem dX3_init_23 : decode cX3_init 23 = .ok (.dup, 1) := by decide +kernel
theorem dX3_init_24 : decode cX3_init 24 = .ok (.iconst 3, 1) := by decide +kernel
theorem dX3_init_25 : decode cX3_init 25 = .ok (.iconst 1, 1) := by decide +kernel
theorem dX3_init_26 : decode cX3_init 26 = .ok (.iastore, 1) := by decide +kernel
theorem dX3_init_27 : decode cX3_init 27 = .ok (.putfield 9, 3) := by decide +kernel
theorem dX3_init_30 : decode cX3_init 30 = .ok (.aload_n 0, 1) := by decide +kernel
theorem dX3_init_31 : decode cX3_init 31 = .ok (.bipush 8, 2) := by decide +kernel
theorem dX3_init_33 : decode cX3_init 33 = .ok (.newarray .int, 2) := by decide +kernel
theorem dX3_init_35 : decode cX3_init 35 = .ok (.dup, 1) := by decide +kernel
theorem dX3_init_36 : decode cX3_init 36 = .ok (.iconst 0, 1) := by decide +kernel
theorem dX3_init_37 : decode cX3_init 37 = .ok (.bipush 8, 2) := by decide +kernel
theorem dX3_init_39 : decode cX3_init 39 = .ok (.iastore, 1) := by decide +kernel
theorem dX3_init_40 : decode cX3_init 40 = .ok (.dup, 1) := by decide +kernel
theorem dX3_init_41 : decode cX3_init 41 = .ok (.iconst 1, 1) := by decide +kernel
theorem dX3_init_42 : decode cX3_init 42 = .ok (.iconst 3, 1) := by decide +kernel
theorem dX3_init_43 : decode cX3_init 43 = .ok (.iastore, 1) := by decide +kernel
theorem dX3_init_44 : decode cX3_init 44 = .ok (.dup, 1) := by decide +kernel
theorem dX3_init_45 : decode cX3_init 45 = .ok (.iconst 2, 1) := by decide +kernel
theorem dX3_init_46 : decode cX3_init 46 = .ok (.iconst 3, 1) := by decide +kernel
theorem dX3_init_47 : decode cX3_init 47 = .ok (.iastore, 1) := by decide +kernel
theorem dX3_init_48 : decode cX3_init 48 = .ok (.dup, 1) := by decide +kernel
theorem dX3_init_49 : decode cX3_init 49 = .ok (.iconst 3, 1) := by decide +kernel
theorem dX3_init_50 : decode cX3_init 50 = .ok (.iconst 3, 1) := by decide +kernel
theorem dX3_init_51 : decode cX3_init 51 = .ok (.iastore, 1) := by decide +kernel
theorem dX3_init_52 : decode cX3_init 52 = .ok (.dup, 1) := by decide +kernel
theorem dX3_init_53 : decode cX3_init 53 = .ok (.iconst 4, 1) := by decide +kernel
theorem dX3_init_54 : decode cX3_init 54 = .ok (.iconst 3, 1) := by decide +kernel
theorem dX3_init_55 : decode cX3_init 55 = .ok (.iastore, 1) := by decide +kernel
theorem dX3_init_56 : decode cX3_init 56 = .ok (.dup, 1) := by decide +kernel
theorem dX3_init_57 : decode cX3_init 57 = .ok (.iconst 5, 1) := by decide +kernel
theorem dX3_init_58 : decode cX3_init 58 = .ok (.iconst 5, 1) := by decide +kernel
theorem dX3_init_59 : decode cX3_init 59 = .ok (.iastore, 1) := by decide +kernel
theorem dX3_init_60 : decode cX3_init 60 = .ok (.dup, 1) := by decide +kernel
theorem dX3_init_61 : decode cX3_init 61 = .ok (.bipush 6, 2) := by decide +kernel
theorem dX3_init_63 : decode cX3_init 63 = .ok (.iconst 3, 1) := by decide +kernel
theorem dX3_init_64 : decode cX3_init 64 = .ok (.iastore, 1) := by decide +kernel
theorem dX3_init_65 : decode cX3_init 65 = .ok (.dup, 1) := by decide +kernel
theorem dX3_init_66 : decode cX3_init 66 = .ok (.bipush 7, 2) := by decide +kernel
theorem dX3_init_68 : decode cX3_init 68 = .ok (.iconst 3, 1) := by decide +kernel
theorem dX3_init_69 : decode cX3_init 69 = .ok (.iastore, 1) := by decide +kernel
theorem dX3_init_70 : decode cX3_init 70 = .ok (.putfield 15, 3) := by decide +kernel
theorem dX3_init_73 : decode cX3_init 73 = .ok (.aload_n 0, 1) := by decide +kernel
theorem dX3_init_74 : decode cX3_init 74 = .ok (.bipush 8, 2) := by decide +kernel
theorem dX3_init_76 : decode cX3_init 76 = .ok (.newarray .int, 2) := by decide +kernel
theorem dX3_init_78 : decode cX3_init 78 = .ok (.dup, 1) := by decide +kernel
theorem dX3_init_79 : decode cX3_init 79 = .ok (.iconst 0, 1) := by decide +kernel
theorem dX3_init_80 : decode cX3_init 80 = .ok (.iconst 0, 1) := by decide +kernel
theorem dX3_init_81 : decode cX3_init 81 = .ok (.iastore, 1) := by decide +kernel
theorem dX3_init_82 : decode cX3_init 82 = .ok (.dup, 1) := by decide +kernel
theorem dX3_init_83 : decode cX3_init 83 = .ok (.iconst 1, 1) := by decide +kernel
theorem dX3_init_84 : decode cX3_init 84 = .ok (.iconst 0, 1) := by decide +kernel
theorem dX3_init_85 : decode cX3_init 85 = .ok (.iastore, 1) := by decide +kernel
theorem dX3_init_86 : decode cX3_init 86 = .ok (.dup, 1) := by decide +kernel
theorem dX3_init_87 : decode cX3_init 87 = .ok (.iconst 2, 1) := by decide +kernel
theorem dX3_init_88 : decode cX3_init 88 = .ok (.iconst 0, 1) := by decide +kernel
theorem dX3_init_89 : decode cX3_init 89 = .ok (.iastore, 1) := by decide +kernel
theorem dX3_init_90 : decode cX3_init 90 = .ok (.dup, 1) := by decide +kernel
theorem dX3_init_91 : decode cX3_init 91 = .ok (.iconst 3, 1) := by decide +kernel
theorem dX3_init_92 : decode cX3_init 92 = .ok (.iconst 0, 1) := by decide +kernel
theorem dX3_init_93 : decode cX3_init 93 = .ok (.iastore, 1) := by decide +kernel
theorem dX3_init_94 : decode cX3_init 94 = .ok (.dup, 1) := by decide +kernel
theorem dX3_init_95 : decode cX3_init 95 = .ok (.iconst 4, 1) := by decide +kernel
theorem dX3_init_96 : decode cX3_init 96 = .ok (.iconst 0, 1) := by decide +kernel
theorem dX3_init_97 : decode cX3_init 97 = .ok (.iastore, 1) := by decide +kernel
theorem dX3_init_98 : decode cX3_init 98 = .ok (.dup, 1) := by decide +kernel
theorem dX3_init_99 : decode cX3_init 99 = .ok (.iconst 5, 1) := by decide +kernel
theorem dX3_init_100 : decode cX3_init 100 = .ok (.iconst 0, 1) := by decide +kernel
theorem dX3_init_101 : decode cX3_init 101 = .ok (.iastore, 1) := by decide +kernel
theorem dX3_init_102 : decode cX3_init 102 = .ok (.dup, 1) := by decide +kernel
theorem dX3_init_103 : decode cX3_init 103 = .ok (.bipush 6, 2) := by decide +kernel
theorem dX3_init_105 : decode cX3_init 105 = .ok (.bipush 60, 2) := by decide +kernel
theorem dX3_init_107 : decode cX3_init 107 = .ok (.iastore, 1) := by decide +kernel
theorem dX3_init_108 : decode cX3_init 108 = .ok (.dup, 1) := by decide +kernel
theorem dX3_init_109 : decode cX3_init 109 = .ok (.bipush 7, 2) := by decide +kernel
theorem dX3_init_111 : decode cX3_init 111 = .ok (.iconst 0, 1) := by decide +kernel
theorem dX3_init_112 : decode cX3_init 112 = .ok (.iastore, 1) := by decide +kernel
theorem dX3_init_113 : decode cX3_init 113 = .ok (.putfield 18, 3) := by decide +kernel
theorem dX3_init_116 : decode cX3_init 116 = .ok (.aload_n 0, 1) := by decide +kernel
theorem dX3_init_117 : decode cX3_init 117 = .ok (.bipush 8, 2) := by decide +kernel
theorem dX3_init_119 : decode cX3_init 119 = .ok (.newarray .int, 2) := by decide +kernel
theorem dX3_init_121 : decode cX3_init 121 = .ok (.dup, 1) := by decide +kernel
theorem dX3_init_122 : decode cX3_init 122 = .ok (.iconst 0, 1) := by decide +kernel
theorem dX3_init_123 : decode cX3_init 123 = .ok (.iconst 0, 1) := by decide +kernel
theorem dX3_init_124 : decode cX3_init 124 = .ok (.iastore, 1) := by decide +kernel
theorem dX3_init_125 : decode cX3_init 125 = .ok (.dup, 1) := by decide +kernel
theorem dX3_init_126 : decode cX3_init 126 = .ok (.iconst 1, 1) := by decide +kernel
theorem dX3_init_127 : decode cX3_init 127 = .ok (.bipush 100, 2) := by decide +kernel
theorem dX3_init_129 : decode cX3_init 129 = .ok (.iastore, 1) := by decide +kernel
theorem dX3_init_130 : decode cX3_init 130 = .ok (.dup, 1) := by decide +kernel
theorem dX3_init_131 : decode cX3_init 131 = .ok (.iconst 2, 1) := by decide +kernel
theorem dX3_init_132 : decode cX3_init 132 = .ok (.bipush 100, 2) := by decide +kernel
theorem dX3_init_134 : decode cX3_init 134 = .ok (.iastore, 1) := by decide +kernel
theorem dX3_init_135 : decode cX3_init 135 = .ok (.dup, 1) := by decide +kernel
theorem dX3_init_136 : decode cX3_init 136 = .ok (.iconst 3, 1) := by decide +kernel
theorem dX3_init_137 : decode cX3_init 137 = .ok (.bipush 50, 2) := by decide +kernel
theorem dX3_init_139 : decode cX3_init 139 = .ok (.iastore, 1) := by decide +kernel
theorem dX3_init_140 : decode cX3_init 140 = .ok (.dup, 1) := by decide +kernel
theorem dX3_init_141 : decode cX3_init 141 = .ok (.iconst 4, 1) := by decide +kernel
theorem dX3_init_142 : decode cX3_init 142 = .ok (.bipush 50, 2) := by decide +kernel
theorem dX3_init_144 : decode cX3_init 144 = .ok (.iastore, 1) := by decide +kernel
theorem dX3_init_145 : decode cX3_init 145 = .ok (.dup, 1) := by decide +kernel
theorem dX3_init_146 : decode cX3_init 146 = .ok (.iconst 5, 1) := by decide +kernel
theorem dX3_init_147 : decode cX3_init 147 = .ok (.bipush 70, 2) := by decide +kernel
theorem dX3_init_149 : decode cX3_init 149 = .ok (.iastore, 1) := by decide +kernel
theorem dX3_init_150 : decode cX3_init 150 = .ok (.dup, 1) := by decide +kernel
theorem dX3_init_151 : decode cX3_init 151 = .ok (.bipush 6, 2) := by decide +kernel
theorem dX3_init_153 : decode cX3_init 153 = .ok (.bipush 60, 2) := by decide +kernel
theorem dX3_init_155 : decode cX3_init 155 = .ok (.iastore, 1) := by decide +kernel
theorem dX3_init_156 : decode cX3_init 156 = .ok (.dup, 1) := by decide +kernel
theorem dX3_init_157 : decode cX3_init 157 = .ok (.bipush 7, 2) := by decide +kernel
theorem dX3_init_159 : decode cX3_init 159 = .ok (.iconst 0, 1) := by decide +kernel
theorem dX3_init_160 : decode cX3_init 160 = .ok (.iastore, 1) := by decide +kernel
theorem dX3_init_161 : decode cX3_init 161 = .ok (.putfield 21, 3) := by decide +kernel
theorem dX3_init_164 : decode cX3_init 164 = .ok (.aload_n 0, 1) := by decide +kernel
theorem dX3_init_165 : decode cX3_init 165 = .ok (.sipush 240, 3) := by decide +kernel
theorem dX3_init_168 : decode cX3_init 168 = .ok (.newarray .char, 2) := by decide +kernel
theorem dX3_init_170 : decode cX3_init 170 = .ok (.putfield 24, 3) := by decide +kernel
theorem dX3_init_173 : decode cX3_init 173 = .ok (.aload_n 0, 1) := by decide +kernel
theorem dX3_init_174 : decode cX3_init 174 = .ok (.bipush 24, 2) := by decide +kernel
theorem dX3_init_176 : decode cX3_init 176 = .ok (.newarray .int, 2) := by decide +kernel
theorem dX3_init_178 : decode cX3_init 178 = .ok (.putfield 28, 3) := by decide +kernel
theorem dX3_init_181 : decode cX3_init 181 = .ok (.aload_n 0, 1) := by decide +kernel
theorem dX3_init_182 : decode cX3_init 182 = .ok (.iconst 0, 1) := by decide +kernel
theorem dX3_init_183 : decode cX3_init 183 = .ok (.putfield 31, 3) := by decide +kernel
theorem dX3_init_186 : decode cX3_init 186 = .ok (.return_, 1) := by decide +kernel
theorem dX3_copyFrom_0 : decode cX3_copyFrom 0 = .ok (.aload_n 1, 1) := by decide +kernel
theorem dX3_copyFrom_1 : decode cX3_copyFrom 1 = .ok (.getfield 9, 3) := by decide +kernel
theorem dX3_copyFrom_4 : decode cX3_copyFrom 4 = .ok (.iconst 0, 1) := by decide +kernel
theorem dX3_copyFrom_5 : decode cX3_copyFrom 5 = .ok (.aload_n 0, 1) := by decide +kernel
theorem dX3_copyFrom_6 : decode cX3_copyFrom 6 = .ok (.getfield 9, 3) := by decide +kernel
theorem dX3_copyFrom_9 : decode cX3_copyFrom 9 = .ok (.iconst 0, 1) := by decide +kernel
theorem dX3_copyFrom_10 : decode cX3_copyFrom 10 = .ok (.iconst 4, 1) := by decide +kernel
theorem dX3_copyFrom_11 : decode cX3_copyFrom 11 = .ok (.invokestatic 35, 3) := by decide +kernel
theorem dX3_copyFrom_14 : decode cX3_copyFrom 14 = .ok (.aload_n 1, 1) := by decide +kernel
theorem dX3_copyFrom_15 : decode cX3_copyFrom 15 = .ok (.getfield 15, 3) := by decide +kernel
theorem dX3_copyFrom_18 : decode cX3_copyFrom 18 = .ok (.iconst 0, 1) := by decide +kernel
theorem dX3_copyFrom_19 : decode cX3_copyFrom 19 = .ok (.aload_n 0, 1) := by decide +kernel
theorem dX3_copyFrom_20 : decode cX3_copyFrom 20 = .ok (.getfield 15, 3) := by decide +kernel
theorem dX3_copyFrom_23 : decode cX3_copyFrom 23 = .ok (.iconst 0, 1) := by decide +kernel
theorem dX3_copyFrom_24 : decode cX3_copyFrom 24 = .ok (.bipush 8, 2) := by decide +kernel
theorem dX3_copyFrom_26 : decode cX3_copyFrom 26 = .ok (.invokestatic 35, 3) := by decide +kernel
theorem dX3_copyFrom_29 : decode cX3_copyFrom 29 = .ok (.aload_n 1, 1) := by decide +kernel
theorem dX3_copyFrom_30 : decode cX3_copyFrom 30 = .ok (.getfield 18, 3) := by decide +kernel
theorem dX3_copyFrom_33 : decode cX3_copyFrom 33 = .ok (.iconst 0, 1) := by decide +kernel
theorem dX3_copyFrom_34 : decode cX3_copyFrom 34 = .ok (.aload_n 0, 1) := by decide +kernel
theorem dX3_copyFrom_35 : decode cX3_copyFrom 35 = .ok (.getfield 18, 3) := by decide +kernel
theorem dX3_copyFrom_38 : decode cX3_copyFrom 38 = .ok (.iconst 0, 1) := by decide +kernel
theorem dX3_copyFrom_39 : decode cX3_copyFrom 39 = .ok (.bipush 8, 2) := by decide +kernel
theorem dX3_copyFrom_41 : decode cX3_copyFrom 41 = .ok (.invokestatic 35, 3) := by decide +kernel
theorem dX3_copyFrom_44 : decode cX3_copyFrom 44 = .ok (.aload_n 1, 1) := by decide +kernel
theorem dX3_copyFrom_45 : decode cX3_copyFrom 45 = .ok (.getfield 21, 3) := by decide +kernel
theorem dX3_copyFrom_48 : decode cX3_copyFrom 48 = .ok (.iconst 0, 1) := by decide +kernel
theorem dX3_copyFrom_49 : decode cX3_copyFrom 49 = .ok (.aload_n 0, 1) := by decide +kernel
theorem dX3_copyFrom_50 : decode cX3_copyFrom 50 = .ok (.getfield 21, 3) := by decide +kernel
theorem dX3_copyFrom_53 : decode cX3_copyFrom 53 = .ok (.iconst 0, 1) := by decide +kernel
theorem dX3_copyFrom_54 : decode cX3_copyFrom 54 = .ok (.bipush 8, 2) := by decide +kernel
theorem dX3_copyFrom_56 : decode cX3_copyFrom 56 = .ok (.invokestatic 35, 3) := by decide +kernel
theorem dX3_copyFrom_59 : decode cX3_copyFrom 59 = .ok (.aload_n 1, 1) := by decide +kernel
theorem dX3_copyFrom_60 : decode cX3_copyFrom 60 = .ok (.getfield 24, 3) := by decide +kernel
theorem dX3_copyFrom_63 : decode cX3_copyFrom 63 = .ok (.iconst 0, 1) := by decide +kernel
theorem dX3_copyFrom_64 : decode cX3_copyFrom 64 = .ok (.aload_n 0, 1) := by decide +kernel
theorem dX3_copyFrom_65 : decode cX3_copyFrom 65 = .ok (.getfield 24, 3) := by decide +kernel
theorem dX3_copyFrom_68 : decode cX3_copyFrom 68 = .ok (.iconst 0, 1) := by decide +kernel
theorem dX3_copyFrom_69 : decode cX3_copyFrom 69 = .ok (.aload_n 1, 1) := by decide +kernel
theorem dX3_copyFrom_70 : decode cX3_copyFrom 70 = .ok (.getfield 31, 3) := by decide +kernel
theorem dX3_copyFrom_73 : decode cX3_copyFrom 73 = .ok (.bipush 10, 2) := by decide +kernel
theorem dX3_copyFrom_75 : decode cX3_copyFrom 75 = .ok (.imul, 1) := by decide +kernel
theorem dX3_copyFrom_76 : decode cX3_copyFrom 76 = .ok (.invokestatic 35, 3) := by decide +kernel
theorem dX3_copyFrom_79 : decode cX3_copyFrom 79 = .ok (.aload_n 1, 1) := by decide +kernel
theorem dX3_copyFrom_80 : decode cX3_copyFrom 80 = .ok (.getfield 28, 3) := by decide +kernel
theorem dX3_copyFrom_83 : decode cX3_copyFrom 83 = .ok (.iconst 0, 1) := by decide +kernel
theorem dX3_copyFrom_84 : decode cX3_copyFrom 84 = .ok (.aload_n 0, 1) := by decide +kernel
theorem dX3_copyFrom_85 : decode cX3_copyFrom 85 = .ok (.getfield 28, 3) := by decide +kernel
theorem dX3_copyFrom_88 : decode cX3_copyFrom 88 = .ok (.iconst 0, 1) := by decide +kernel
theorem dX3_copyFrom_89 : decode cX3_copyFrom 89 = .ok (.aload_n 1, 1) := by decide +kernel
theorem dX3_copyFrom_90 : decode cX3_copyFrom 90 = .ok (.getfield 31, 3) := by decide +kernel
theorem dX3_copyFrom_93 : decode cX3_copyFrom 93 = .ok (.invokestatic 35, 3) := by decide +kernel
theorem dX3_copyFrom_96 : decode cX3_copyFrom 96 = .ok (.aload_n 0, 1) := by decide +kernel
theorem dX3_copyFrom_97 : decode cX3_copyFrom 97 = .ok (.aload_n 1, 1) := by decide +kernel
theorem dX3_copyFrom_98 : decode cX3_copyFrom 98 = .ok (.getfield 31, 3) := by decide +kernel
theorem dX3_copyFrom_101 : decode cX3_copyFrom 101 = .ok (.putfield 31, 3) := by decide +kernel
theorem dX3_copyFrom_104 : decode cX3_copyFrom 104 = .ok (.return_, 1) := by decide +kernel
theorem dX3_beginWord_0 : decode cX3_beginWord 0 = .ok (.aload_n 0, 1) := by decide +kernel
theorem dX3_beginWord_1 : decode cX3_beginWord 1 = .ok (.getfield 31, 3) := by decide +kernel
theorem dX3_beginWord_4 : decode cX3_beginWord 4 = .ok (.bipush 24, 2) := by decide +kernel
theorem dX3_beginWord_6 : decode cX3_beginWord 6 = .ok (.if_icmp .lt 4, 3) := by decide +kernel
theorem dX3_beginWord_9 : decode cX3_beginWord 9 = .ok (.return_, 1) := by decide +kernel
theorem dX3_beginWord_10 : decode cX3_beginWord 10 = .ok (.aload_n 0, 1) := by decide +kernel
theorem dX3_beginWord_11 : decode cX3_beginWord 11 = .ok (.getfield 28, 3) := by decide +kernel
theorem dX3_beginWord_14 : decode cX3_beginWord 14 = .ok (.aload_n 0, 1) := by decide +kernel
theorem dX3_beginWord_15 : decode cX3_beginWord 15 = .ok (.getfield 31, 3) := by decide +kernel
theorem dX3_beginWord_18 : decode cX3_beginWord 18 = .ok (.iconst 0, 1) := by decide +kernel
theorem dX3_beginWord_19 : decode cX3_beginWord 19 = .ok (.iastore, 1) := by decide +kernel
theorem dX3_beginWord_20 : decode cX3_beginWord 20 = .ok (.aload_n 0, 1) := by decide +kernel
theorem dX3_beginWord_21 : decode cX3_beginWord 21 = .ok (.dup, 1) := by decide +kernel
theorem dX3_beginWord_22 : decode cX3_beginWord 22 = .ok (.getfield 31, 3) := by decide +kernel
theorem dX3_beginWord_25 : decode cX3_beginWord 25 = .ok (.iconst 1, 1) := by decide +kernel
theorem dX3_beginWord_26 : decode cX3_beginWord 26 = .ok (.iadd, 1) := by decide +kernel
theorem dX3_beginWord_27 : decode cX3_beginWord 27 = .ok (.putfield 31, 3) := by decide +kernel
theorem dX3_beginWord_30 : decode cX3_beginWord 30 = .ok (.return_, 1) := by decide +kernel
theorem dX3_addSign_0 : decode cX3_addSign 0 = .ok (.aload_n 0, 1) := by decide +kernel
theorem dX3_addSign_1 : decode cX3_addSign 1 = .ok (.getfield 31, 3) := by decide +kernel
theorem dX3_addSign_4 : decode cX3_addSign 4 = .ok (.iconst 1, 1) := by decide +kernel
theorem dX3_addSign_5 : decode cX3_addSign 5 = .ok (.isub, 1) := by decide +kernel
theorem dX3_addSign_6 : decode cX3_addSign 6 = .ok (.istore_n 2, 1) := by decide +kernel
theorem dX3_addSign_7 : decode cX3_addSign 7 = .ok (.iload_n 2, 1) := by decide +kernel
theorem dX3_addSign_8 : decode cX3_addSign 8 = .ok (.ifCond .lt 14, 3) := by decide +kernel
theorem dX3_addSign_11 : decode cX3_addSign 11 = .ok (.aload_n 0, 1) := by decide +kernel
theorem dX3_addSign_12 : decode cX3_addSign 12 = .ok (.getfield 28, 3) := by decide +kernel
theorem dX3_addSign_15 : decode cX3_addSign 15 = .ok (.iload_n 2, 1) := by decide +kernel
theorem dX3_addSign_16 : decode cX3_addSign 16 = .ok (.iaload, 1) := by decide +kernel
theorem dX3_addSign_17 : decode cX3_addSign 17 = .ok (.bipush 10, 2) := by decide +kernel
theorem dX3_addSign_19 : decode cX3_addSign 19 = .ok (.if_icmp .lt 4, 3) := by decide +kernel
theorem dX3_addSign_22 : decode cX3_addSign 22 = .ok (.return_, 1) := by decide +kernel
theorem dX3_addSign_23 : decode cX3_addSign 23 = .ok (.aload_n 0, 1) := by decide +kernel
theorem dX3_addSign_24 : decode cX3_addSign 24 = .ok (.getfield 24, 3) := by decide +kernel
theorem dX3_addSign_27 : decode cX3_addSign 27 = .ok (.iload_n 2, 1) := by decide +kernel
theorem dX3_addSign_28 : decode cX3_addSign 28 = .ok (.bipush 10, 2) := by decide +kernel
theorem dX3_addSign_30 : decode cX3_addSign 30 = .ok (.imul, 1) := by decide +kernel
theorem dX3_addSign_31 : decode cX3_addSign 31 = .ok (.aload_n 0, 1) := by decide +kernel
theorem dX3_addSign_32 : decode cX3_addSign 32 = .ok (.getfield 28, 3) := by decide +kernel
theorem dX3_addSign_35 : decode cX3_addSign 35 = .ok (.iload_n 2, 1) := by decide +kernel
theorem dX3_addSign_36 : decode cX3_addSign 36 = .ok (.iaload, 1) := by decide +kernel
theorem dX3_addSign_37 : decode cX3_addSign 37 = .ok (.iadd, 1) := by decide +kernel
theorem dX3_addSign_38 : decode cX3_addSign 38 = .ok (.iload_n 1, 1) := by decide +kernel
theorem dX3_addSign_39 : decode cX3_addSign 39 = .ok (.castore, 1) := by decide +kernel
theorem dX3_addSign_40 : decode cX3_addSign 40 = .ok (.aload_n 0, 1) := by decide +kernel
theorem dX3_addSign_41 : decode cX3_addSign 41 = .ok (.getfield 28, 3) := by decide +kernel
theorem dX3_addSign_44 : decode cX3_addSign 44 = .ok (.iload_n 2, 1) := by decide +kernel
theorem dX3_addSign_45 : decode cX3_addSign 45 = .ok (.dup2, 1) := by decide +kernel
theorem dX3_addSign_46 : decode cX3_addSign 46 = .ok (.iaload, 1) := by decide +kernel
theorem dX3_addSign_47 : decode cX3_addSign 47 = .ok (.iconst 1, 1) := by decide +kernel
theorem dX3_addSign_48 : decode cX3_addSign 48 = .ok (.iadd, 1) := by decide +kernel
theorem dX3_addSign_49 : decode cX3_addSign 49 = .ok (.iastore, 1) := by decide +kernel
theorem dX3_addSign_50 : decode cX3_addSign 50 = .ok (.return_, 1) := by decide +kernel
theorem dX3_takeOut_0 : decode cX3_takeOut 0 = .ok (.iload_n 1, 1) := by decide +kernel
theorem dX3_takeOut_1 : decode cX3_takeOut 1 = .ok (.iconst 1, 1) := by decide +kernel
theorem dX3_takeOut_2 : decode cX3_takeOut 2 = .ok (.iadd, 1) := by decide +kernel
theorem dX3_takeOut_3 : decode cX3_takeOut 3 = .ok (.istore_n 2, 1) := by decide +kernel
theorem dX3_takeOut_4 : decode cX3_takeOut 4 = .ok (.iload_n 2, 1) := by decide +kernel
theorem dX3_takeOut_5 : decode cX3_takeOut 5 = .ok (.aload_n 0, 1) := by decide +kernel
theorem dX3_takeOut_6 : decode cX3_takeOut 6 = .ok (.getfield 31, 3) := by decide +kernel
theorem dX3_takeOut_9 : decode cX3_takeOut 9 = .ok (.if_icmp .ge 46, 3) := by decide +kernel
theorem dX3_takeOut_12 : decode cX3_takeOut 12 = .ok (.aload_n 0, 1) := by decide +kernel
theorem dX3_takeOut_13 : decode cX3_takeOut 13 = .ok (.getfield 24, 3) := by decide +kernel
theorem dX3_takeOut_16 : decode cX3_takeOut 16 = .ok (.iload_n 2, 1) := by decide +kernel
theorem dX3_takeOut_17 : decode cX3_takeOut 17 = .ok (.bipush 10, 2) := by decide +kernel
theorem dX3_takeOut_19 : decode cX3_takeOut 19 = .ok (.imul, 1) := by decide +kernel
theorem dX3_takeOut_20 : decode cX3_takeOut 20 = .ok (.aload_n 0, 1) := by decide +kernel
theorem dX3_takeOut_21 : decode cX3_takeOut 21 = .ok (.getfield 24, 3) := by decide +kernel
theorem dX3_takeOut_24 : decode cX3_takeOut 24 = .ok (.iload_n 2, 1) := by decide +kernel
theorem dX3_takeOut_25 : decode cX3_takeOut 25 = .ok (.iconst 1, 1) := by decide +kernel
theorem dX3_takeOut_26 : decode cX3_takeOut 26 = .ok (.isub, 1) := by decide +kernel
theorem dX3_takeOut_27 : decode cX3_takeOut 27 = .ok (.bipush 10, 2) := by decide +kernel
theorem dX3_takeOut_29 : decode cX3_takeOut 29 = .ok (.imul, 1) := by decide +kernel
theorem dX3_takeOut_30 : decode cX3_takeOut 30 = .ok (.bipush 10, 2) := by decide +kernel
theorem dX3_takeOut_32 : decode cX3_takeOut 32 = .ok (.invokestatic 35, 3) := by decide +kernel
theorem dX3_takeOut_35 : decode cX3_takeOut 35 = .ok (.aload_n 0, 1) := by decide +kernel
theorem dX3_takeOut_36 : decode cX3_takeOut 36 = .ok (.getfield 28, 3) := by decide +kernel
theorem dX3_takeOut_39 : decode cX3_takeOut 39 = .ok (.iload_n 2, 1) := by decide +kernel
theorem dX3_takeOut_40 : decode cX3_takeOut 40 = .ok (.iconst 1, 1) := by decide +kernel
theorem dX3_takeOut_41 : decode cX3_takeOut 41 = .ok (.isub, 1) := by decide +kernel
theorem dX3_takeOut_42 : decode cX3_takeOut 42 = .ok (.aload_n 0, 1) := by decide +kernel
theorem dX3_takeOut_43 : decode cX3_takeOut 43 = .ok (.getfield 28, 3) := by decide +kernel
theorem dX3_takeOut_46 : decode cX3_takeOut 46 = .ok (.iload_n 2, 1) := by decide +kernel
theorem dX3_takeOut_47 : decode cX3_takeOut 47 = .ok (.iaload, 1) := by decide +kernel
theorem dX3_takeOut_48 : decode cX3_takeOut 48 = .ok (.iastore, 1) := by decide +kernel
theorem dX3_takeOut_49 : decode cX3_takeOut 49 = .ok (.iinc 2 1, 3) := by decide +kernel
theorem dX3_takeOut_52 : decode cX3_takeOut 52 = .ok (.goto (-48), 3) := by decide +kernel
theorem dX3_takeOut_55 : decode cX3_takeOut 55 = .ok (.aload_n 0, 1) := by decide +kernel
theorem dX3_takeOut_56 : decode cX3_takeOut 56 = .ok (.dup, 1) := by decide +kernel
theorem dX3_takeOut_57 : decode cX3_takeOut 57 = .ok (.getfield 31, 3) := by decide +kernel
theorem dX3_takeOut_60 : decode cX3_takeOut 60 = .ok (.iconst 1, 1) := by decide +kernel
theorem dX3_takeOut_61 : decode cX3_takeOut 61 = .ok (.isub, 1) := by decide +kernel
theorem dX3_takeOut_62 : decode cX3_takeOut 62 = .ok (.putfield 31, 3) := by decide +kernel
theorem dX3_takeOut_65 : decode cX3_takeOut 65 = .ok (.return_, 1) := by decide +kernel
theorem dX3_exchange_0 : decode cX3_exchange 0 = .ok (.iconst 0, 1) := by decide +kernel
theorem dX3_exchange_1 : decode cX3_exchange 1 = .ok (.istore_n 3, 1) := by decide +kernel
theorem dX3_exchange_2 : decode cX3_exchange 2 = .ok (.iload_n 3, 1) := by decide +kernel
theorem dX3_exchange_3 : decode cX3_exchange 3 = .ok (.bipush 10, 2) := by decide +kernel
theorem dX3_exchange_5 : decode cX3_exchange 5 = .ok (.if_icmp .ge 57, 3) := by decide +kernel
theorem dX3_exchange_8 : decode cX3_exchange 8 = .ok (.aload_n 0, 1) := by decide +kernel
theorem dX3_exchange_9 : decode cX3_exchange 9 = .ok (.getfield 24, 3) := by decide +kernel
theorem dX3_exchange_12 : decode cX3_exchange 12 = .ok (.iload_n 1, 1) := by decide +kernel
theorem dX3_exchange_13 : decode cX3_exchange 13 = .ok (.bipush 10, 2) := by decide +kernel
theorem dX3_exchange_15 : decode cX3_exchange 15 = .ok (.imul, 1) := by decide +kernel
theorem dX3_exchange_16 : decode cX3_exchange 16 = .ok (.iload_n 3, 1) := by decide +kernel
theorem dX3_exchange_17 : decode cX3_exchange 17 = .ok (.iadd, 1) := by decide +kernel
theorem dX3_exchange_18 : decode cX3_exchange 18 = .ok (.caload, 1) := by decide +kernel
theorem dX3_exchange_19 : decode cX3_exchange 19 = .ok (.istore 4, 2) := by decide +kernel
theorem dX3_exchange_21 : decode cX3_exchange 21 = .ok (.aload_n 0, 1) := by decide +kernel
theorem dX3_exchange_22 : decode cX3_exchange 22 = .ok (.getfield 24, 3) := by decide +kernel
theorem dX3_exchange_25 : decode cX3_exchange 25 = .ok (.iload_n 1, 1) := by decide +kernel
theorem dX3_exchange_26 : decode cX3_exchange 26 = .ok (.bipush 10, 2) := by decide +kernel
theorem dX3_exchange_28 : decode cX3_exchange 28 = .ok (.imul, 1) := by decide +kernel
theorem dX3_exchange_29 : decode cX3_exchange 29 = .ok (.iload_n 3, 1) := by decide +kernel
theorem dX3_exchange_30 : decode cX3_exchange 30 = .ok (.iadd, 1) := by decide +kernel
theorem dX3_exchange_31 : decode cX3_exchange 31 = .ok (.aload_n 0, 1) := by decide +kernel
theorem dX3_exchange_32 : decode cX3_exchange 32 = .ok (.getfield 24, 3) := by decide +kernel
theorem dX3_exchange_35 : decode cX3_exchange 35 = .ok (.iload_n 2, 1) := by decide +kernel
theorem dX3_exchange_36 : decode cX3_exchange 36 = .ok (.bipush 10, 2) := by decide +kernel
theorem dX3_exchange_38 : decode cX3_exchange 38 = .ok (.imul, 1) := by decide +kernel
theorem dX3_exchange_39 : decode cX3_exchange 39 = .ok (.iload_n 3, 1) := by decide +kernel
theorem dX3_exchange_40 : decode cX3_exchange 40 = .ok (.iadd, 1) := by decide +kernel
theorem dX3_exchange_41 : decode cX3_exchange 41 = .ok (.caload, 1) := by decide +kernel
theorem dX3_exchange_42 : decode cX3_exchange 42 = .ok (.castore, 1) := by decide +kernel
theorem dX3_exchange_43 : decode cX3_exchange 43 = .ok (.aload_n 0, 1) := by decide +kernel
theorem dX3_exchange_44 : decode cX3_exchange 44 = .ok (.getfield 24, 3) := by decide +kernel
theorem dX3_exchange_47 : decode cX3_exchange 47 = .ok (.iload_n 2, 1) := by decide +kernel
theorem dX3_exchange_48 : decode cX3_exchange 48 = .ok (.bipush 10, 2) := by decide +kernel
theorem dX3_exchange_50 : decode cX3_exchange 50 = .ok (.imul, 1) := by decide +kernel
theorem dX3_exchange_51 : decode cX3_exchange 51 = .ok (.iload_n 3, 1) := by decide +kernel
theorem dX3_exchange_52 : decode cX3_exchange 52 = .ok (.iadd, 1) := by decide +kernel
theorem dX3_exchange_53 : decode cX3_exchange 53 = .ok (.iload 4, 2) := by decide +kernel
theorem dX3_exchange_55 : decode cX3_exchange 55 = .ok (.castore, 1) := by decide +kernel
theorem dX3_exchange_56 : decode cX3_exchange 56 = .ok (.iinc 3 1, 3) := by decide +kernel
theorem dX3_exchange_59 : decode cX3_exchange 59 = .ok (.goto (-57), 3) := by decide +kernel
theorem dX3_exchange_62 : decode cX3_exchange 62 = .ok (.aload_n 0, 1) := by decide +kernel
theorem dX3_exchange_63 : decode cX3_exchange 63 = .ok (.getfield 28, 3) := by decide +kernel
theorem dX3_exchange_66 : decode cX3_exchange 66 = .ok (.iload_n 1, 1) := by decide +kernel
end
section
theorem dX3_exchange_67 : decode cX3_exchange 67 = .ok (.iaload, 1) := by decide +kernel
theorem dX3_exchange_68 : decode cX3_exchange 68 = .ok (.istore_n 3, 1) := by decide +kernel
theorem dX3_exchange_69 : decode cX3_exchange 69 = .ok (.aload_n 0, 1) := by decide +kernel
theorem dX3_exchange_70 : decode cX3_exchange 70 = .ok (.getfield 28, 3) := by decide +kernel
theorem dX3_exchange_73 : decode cX3_exchange 73 = .ok (.iload_n 1, 1) := by decide +kernel
theorem dX3_exchange_74 : decode cX3_exchange 74 = .ok (.aload_n 0, 1) := by decide +kernel
theorem dX3_exchange_75 : decode cX3_exchange 75 = .ok (.getfield 28, 3) := by decide +kernel
theorem dX3_exchange_78 : decode cX3_exchange 78 = .ok (.iload_n 2, 1) := by decide +kernel
theorem dX3_exchange_79 : decode cX3_exchange 79 = .ok (.iaload, 1) := by decide +kernel
theorem dX3_exchange_80 : decode cX3_exchange 80 = .ok (.iastore, 1) := by decide +kernel
theorem dX3_exchange_81 : decode cX3_exchange 81 = .ok (.aload_n 0, 1) := by decide +kernel
theorem dX3_exchange_82 : decode cX3_exchange 82 = .ok (.getfield 28, 3) := by decide +kernel
theorem dX3_exchange_85 : decode cX3_exchange 85 = .ok (.iload_n 2, 1) := by decide +kernel
theorem dX3_exchange_86 : decode cX3_exchange 86 = .ok (.iload_n 3, 1) := by decide +kernel
theorem dX3_exchange_87 : decode cX3_exchange 87 = .ok (.iastore, 1) := by decide +kernel
theorem dX3_exchange_88 : decode cX3_exchange 88 = .ok (.return_, 1) := by decide +kernel
theorem dX3_signAt_0 : decode cX3_signAt 0 = .ok (.aload_n 0, 1) := by decide +kernel
theorem dX3_signAt_1 : decode cX3_signAt 1 = .ok (.getfield 24, 3) := by decide +kernel
theorem dX3_signAt_4 : decode cX3_signAt 4 = .ok (.iload_n 1, 1) := by decide +kernel
theorem dX3_signAt_5 : decode cX3_signAt 5 = .ok (.bipush 10, 2) := by decide +kernel
theorem dX3_signAt_7 : decode cX3_signAt 7 = .ok (.imul, 1) := by decide +kernel
theorem dX3_signAt_8 : decode cX3_signAt 8 = .ok (.iload_n 2, 1) := by decide +kernel
theorem dX3_signAt_9 : decode cX3_signAt 9 = .ok (.iadd, 1) := by decide +kernel
theorem dX3_signAt_10 : decode cX3_signAt 10 = .ok (.caload, 1) := by decide +kernel
theorem dX3_signAt_11 : decode cX3_signAt 11 = .ok (.ireturn, 1) := by decide +kernel
theorem dX3_sortAt_0 : decode cX3_sortAt 0 = .ok (.aload_n 0, 1) := by decide +kernel
theorem dX3_sortAt_1 : decode cX3_sortAt 1 = .ok (.iload_n 1, 1) := by decide +kernel
theorem dX3_sortAt_2 : decode cX3_sortAt 2 = .ok (.iload_n 2, 1) := by decide +kernel
theorem dX3_sortAt_3 : decode cX3_sortAt 3 = .ok (.invokevirtual 41, 3) := by decide +kernel
theorem dX3_sortAt_6 : decode cX3_sortAt 6 = .ok (.invokestatic 45, 3) := by decide +kernel
theorem dX3_sortAt_9 : decode cX3_sortAt 9 = .ok (.iconst 0, 1) := by decide +kernel
theorem dX3_sortAt_10 : decode cX3_sortAt 10 = .ok (.invokestatic 49, 3) := by decide +kernel
theorem dX3_sortAt_13 : decode cX3_sortAt 13 = .ok (.ireturn, 1) := by decide +kernel
theorem dX3_widthOf_0 : decode cX3_widthOf 0 = .ok (.iconst 0, 1) := by decide +kernel
theorem dX3_widthOf_1 : decode cX3_widthOf 1 = .ok (.istore_n 2, 1) := by decide +kernel
theorem dX3_widthOf_2 : decode cX3_widthOf 2 = .ok (.iconst 0, 1) := by decide +kernel
theorem dX3_widthOf_3 : decode cX3_widthOf 3 = .ok (.istore_n 3, 1) := by decide +kernel
theorem dX3_widthOf_4 : decode cX3_widthOf 4 = .ok (.iload_n 3, 1) := by decide +kernel
theorem dX3_widthOf_5 : decode cX3_widthOf 5 = .ok (.aload_n 0, 1) := by decide +kernel
theorem dX3_widthOf_6 : decode cX3_widthOf 6 = .ok (.getfield 28, 3) := by decide +kernel
theorem dX3_widthOf_9 : decode cX3_widthOf 9 = .ok (.iload_n 1, 1) := by decide +kernel
theorem dX3_widthOf_10 : decode cX3_widthOf 10 = .ok (.iaload, 1) := by decide +kernel
theorem dX3_widthOf_11 : decode cX3_widthOf 11 = .ok (.if_icmp .ge 23, 3) := by decide +kernel
theorem dX3_widthOf_14 : decode cX3_widthOf 14 = .ok (.iload_n 2, 1) := by decide +kernel
theorem dX3_widthOf_15 : decode cX3_widthOf 15 = .ok (.aload_n 0, 1) := by decide +kernel
theorem dX3_widthOf_16 : decode cX3_widthOf 16 = .ok (.getfield 15, 3) := by decide +kernel
theorem dX3_widthOf_19 : decode cX3_widthOf 19 = .ok (.aload_n 0, 1) := by decide +kernel
theorem dX3_widthOf_20 : decode cX3_widthOf 20 = .ok (.iload_n 1, 1) := by decide +kernel
theorem dX3_widthOf_21 : decode cX3_widthOf 21 = .ok (.iload_n 3, 1) := by decide +kernel
theorem dX3_widthOf_22 : decode cX3_widthOf 22 = .ok (.invokevirtual 55, 3) := by decide +kernel
theorem dX3_widthOf_25 : decode cX3_widthOf 25 = .ok (.iaload, 1) := by decide +kernel
theorem dX3_widthOf_26 : decode cX3_widthOf 26 = .ok (.iadd, 1) := by decide +kernel
theorem dX3_widthOf_27 : decode cX3_widthOf 27 = .ok (.istore_n 2, 1) := by decide +kernel
theorem dX3_widthOf_28 : decode cX3_widthOf 28 = .ok (.iinc 3 1, 3) := by decide +kernel
theorem dX3_widthOf_31 : decode cX3_widthOf 31 = .ok (.goto (-27), 3) := by decide +kernel
theorem dX3_widthOf_34 : decode cX3_widthOf 34 = .ok (.iload_n 2, 1) := by decide +kernel
theorem dX3_widthOf_35 : decode cX3_widthOf 35 = .ok (.ireturn, 1) := by decide +kernel
theorem dX3_countSigns_0 : decode cX3_countSigns 0 = .ok (.iconst 0, 1) := by decide +kernel
theorem dX3_countSigns_1 : decode cX3_countSigns 1 = .ok (.istore_n 1, 1) := by decide +kernel
theorem dX3_countSigns_2 : decode cX3_countSigns 2 = .ok (.iconst 0, 1) := by decide +kernel
theorem dX3_countSigns_3 : decode cX3_countSigns 3 = .ok (.istore_n 2, 1) := by decide +kernel
theorem dX3_countSigns_4 : decode cX3_countSigns 4 = .ok (.iload_n 2, 1) := by decide +kernel
theorem dX3_countSigns_5 : decode cX3_countSigns 5 = .ok (.aload_n 0, 1) := by decide +kernel
theorem dX3_countSigns_6 : decode cX3_countSigns 6 = .ok (.getfield 31, 3) := by decide +kernel
theorem dX3_countSigns_9 : decode cX3_countSigns 9 = .ok (.if_icmp .ge 18, 3) := by decide +kernel
theorem dX3_countSigns_12 : decode cX3_countSigns 12 = .ok (.iload_n 1, 1) := by decide +kernel
theorem dX3_countSigns_13 : decode cX3_countSigns 13 = .ok (.aload_n 0, 1) := by decide +kernel
theorem dX3_countSigns_14 : decode cX3_countSigns 14 = .ok (.getfield 28, 3) := by decide +kernel
theorem dX3_countSigns_17 : decode cX3_countSigns 17 = .ok (.iload_n 2, 1) := by decide +kernel
theorem dX3_countSigns_18 : decode cX3_countSigns 18 = .ok (.iaload, 1) := by decide +kernel
theorem dX3_countSigns_19 : decode cX3_countSigns 19 = .ok (.iadd, 1) := by decide +kernel
theorem dX3_countSigns_20 : decode cX3_countSigns 20 = .ok (.istore_n 1, 1) := by decide +kernel
theorem dX3_countSigns_21 : decode cX3_countSigns 21 = .ok (.iinc 2 1, 3) := by decide +kernel
theorem dX3_countSigns_24 : decode cX3_countSigns 24 = .ok (.goto (-20), 3) := by decide +kernel
theorem dX3_countSigns_27 : decode cX3_countSigns 27 = .ok (.iload_n 1, 1) := by decide +kernel
theorem dX3_countSigns_28 : decode cX3_countSigns 28 = .ok (.ireturn, 1) := by decide +kernel
theorem dX3_countOf_0 : decode cX3_countOf 0 = .ok (.iconst 0, 1) := by decide +kernel
theorem dX3_countOf_1 : decode cX3_countOf 1 = .ok (.istore_n 2, 1) := by decide +kernel
theorem dX3_countOf_2 : decode cX3_countOf 2 = .ok (.iconst 0, 1) := by decide +kernel
theorem dX3_countOf_3 : decode cX3_countOf 3 = .ok (.istore_n 3, 1) := by decide +kernel
theorem dX3_countOf_4 : decode cX3_countOf 4 = .ok (.iload_n 3, 1) := by decide +kernel
theorem dX3_countOf_5 : decode cX3_countOf 5 = .ok (.aload_n 0, 1) := by decide +kernel
theorem dX3_countOf_6 : decode cX3_countOf 6 = .ok (.getfield 31, 3) := by decide +kernel
theorem dX3_countOf_9 : decode cX3_countOf 9 = .ok (.if_icmp .ge 43, 3) := by decide +kernel
theorem dX3_countOf_12 : decode cX3_countOf 12 = .ok (.iconst 0, 1) := by decide +kernel
theorem dX3_countOf_13 : decode cX3_countOf 13 = .ok (.istore 4, 2) := by decide +kernel
theorem dX3_countOf_15 : decode cX3_countOf 15 = .ok (.iload 4, 2) := by decide +kernel
theorem dX3_countOf_17 : decode cX3_countOf 17 = .ok (.aload_n 0, 1) := by decide +kernel
theorem dX3_countOf_18 : decode cX3_countOf 18 = .ok (.getfield 28, 3) := by decide +kernel
theorem dX3_countOf_21 : decode cX3_countOf 21 = .ok (.iload_n 3, 1) := by decide +kernel
theorem dX3_countOf_22 : decode cX3_countOf 22 = .ok (.iaload, 1) := by decide +kernel
theorem dX3_countOf_23 : decode cX3_countOf 23 = .ok (.if_icmp .ge 23, 3) := by decide +kernel
theorem dX3_countOf_26 : decode cX3_countOf 26 = .ok (.aload_n 0, 1) := by decide +kernel
theorem dX3_countOf_27 : decode cX3_countOf 27 = .ok (.iload_n 3, 1) := by decide +kernel
theorem dX3_countOf_28 : decode cX3_countOf 28 = .ok (.iload 4, 2) := by decide +kernel
theorem dX3_countOf_30 : decode cX3_countOf 30 = .ok (.invokevirtual 55, 3) := by decide +kernel
theorem dX3_countOf_33 : decode cX3_countOf 33 = .ok (.iload_n 1, 1) := by decide +kernel
theorem dX3_countOf_34 : decode cX3_countOf 34 = .ok (.if_icmp .ne 6, 3) := by decide +kernel
theorem dX3_countOf_37 : decode cX3_countOf 37 = .ok (.iinc 2 1, 3) := by decide +kernel
theorem dX3_countOf_40 : decode cX3_countOf 40 = .ok (.iinc 4 1, 3) := by decide +kernel
theorem dX3_countOf_43 : decode cX3_countOf 43 = .ok (.goto (-28), 3) := by decide +kernel
theorem dX3_countOf_46 : decode cX3_countOf 46 = .ok (.iinc 3 1, 3) := by decide +kernel
theorem dX3_countOf_49 : decode cX3_countOf 49 = .ok (.goto (-45), 3) := by decide +kernel
theorem dX3_countOf_52 : decode cX3_countOf 52 = .ok (.iload_n 2, 1) := by decide +kernel
theorem dX3_countOf_53 : decode cX3_countOf 53 = .ok (.ireturn, 1) := by decide +kernel
theorem dX3_hangAtLeft_0 : decode cX3_hangAtLeft 0 = .ok (.aload_n 0, 1) := by decide +kernel
theorem dX3_hangAtLeft_1 : decode cX3_hangAtLeft 1 = .ok (.getfield 9, 3) := by decide +kernel
theorem dX3_hangAtLeft_4 : decode cX3_hangAtLeft 4 = .ok (.iconst 3, 1) := by decide +kernel
theorem dX3_hangAtLeft_5 : decode cX3_hangAtLeft 5 = .ok (.iaload, 1) := by decide +kernel
theorem dX3_hangAtLeft_6 : decode cX3_hangAtLeft 6 = .ok (.ifCond .ne 7, 3) := by decide +kernel
theorem dX3_hangAtLeft_9 : decode cX3_hangAtLeft 9 = .ok (.iconst 0, 1) := by decide +kernel
theorem dX3_hangAtLeft_10 : decode cX3_hangAtLeft 10 = .ok (.goto 19, 3) := by decide +kernel
theorem dX3_hangAtLeft_13 : decode cX3_hangAtLeft 13 = .ok (.aload_n 0, 1) := by decide +kernel
theorem dX3_hangAtLeft_14 : decode cX3_hangAtLeft 14 = .ok (.getfield 15, 3) := by decide +kernel
theorem dX3_hangAtLeft_17 : decode cX3_hangAtLeft 17 = .ok (.iload_n 1, 1) := by decide +kernel
theorem dX3_hangAtLeft_18 : decode cX3_hangAtLeft 18 = .ok (.iaload, 1) := by decide +kernel
theorem dX3_hangAtLeft_19 : decode cX3_hangAtLeft 19 = .ok (.aload_n 0, 1) := by decide +kernel
theorem dX3_hangAtLeft_20 : decode cX3_hangAtLeft 20 = .ok (.getfield 18, 3) := by decide +kernel
theorem dX3_hangAtLeft_23 : decode cX3_hangAtLeft 23 = .ok (.iload_n 1, 1) := by decide +kernel
theorem dX3_hangAtLeft_24 : decode cX3_hangAtLeft 24 = .ok (.iaload, 1) := by decide +kernel
theorem dX3_hangAtLeft_25 : decode cX3_hangAtLeft 25 = .ok (.imul, 1) := by decide +kernel
theorem dX3_hangAtLeft_26 : decode cX3_hangAtLeft 26 = .ok (.bipush 100, 2) := by decide +kernel
theorem dX3_hangAtLeft_28 : decode cX3_hangAtLeft 28 = .ok (.idiv, 1) := by decide +kernel
theorem dX3_hangAtLeft_29 : decode cX3_hangAtLeft 29 = .ok (.ireturn, 1) := by decide +kernel
theorem dX3_hangAtRight_0 : decode cX3_hangAtRight 0 = .ok (.aload_n 0, 1) := by decide +kernel
theorem dX3_hangAtRight_1 : decode cX3_hangAtRight 1 = .ok (.getfield 9, 3) := by decide +kernel
theorem dX3_hangAtRight_4 : decode cX3_hangAtRight 4 = .ok (.iconst 3, 1) := by decide +kernel
theorem dX3_hangAtRight_5 : decode cX3_hangAtRight 5 = .ok (.iaload, 1) := by decide +kernel
theorem dX3_hangAtRight_6 : decode cX3_hangAtRight 6 = .ok (.ifCond .ne 7, 3) := by decide +kernel
theorem dX3_hangAtRight_9 : decode cX3_hangAtRight 9 = .ok (.iconst 0, 1) := by decide +kernel
theorem dX3_hangAtRight_10 : decode cX3_hangAtRight 10 = .ok (.goto 19, 3) := by decide +kernel
theorem dX3_hangAtRight_13 : decode cX3_hangAtRight 13 = .ok (.aload_n 0, 1) := by decide +kernel
theorem dX3_hangAtRight_14 : decode cX3_hangAtRight 14 = .ok (.getfield 15, 3) := by decide +kernel
theorem dX3_hangAtRight_17 : decode cX3_hangAtRight 17 = .ok (.iload_n 1, 1) := by decide +kernel
theorem dX3_hangAtRight_18 : decode cX3_hangAtRight 18 = .ok (.iaload, 1) := by decide +kernel
theorem dX3_hangAtRight_19 : decode cX3_hangAtRight 19 = .ok (.aload_n 0, 1) := by decide +kernel
theorem dX3_hangAtRight_20 : decode cX3_hangAtRight 20 = .ok (.getfield 21, 3) := by decide +kernel
theorem dX3_hangAtRight_23 : decode cX3_hangAtRight 23 = .ok (.iload_n 1, 1) := by decide +kernel
theorem dX3_hangAtRight_24 : decode cX3_hangAtRight 24 = .ok (.iaload, 1) := by decide +kernel
theorem dX3_hangAtRight_25 : decode cX3_hangAtRight 25 = .ok (.imul, 1) := by decide +kernel
theorem dX3_hangAtRight_26 : decode cX3_hangAtRight 26 = .ok (.bipush 100, 2) := by decide +kernel
theorem dX3_hangAtRight_28 : decode cX3_hangAtRight 28 = .ok (.idiv, 1) := by decide +kernel
theorem dX3_hangAtRight_29 : decode cX3_hangAtRight 29 = .ok (.ireturn, 1) := by decide +kernel
theorem dX3_leftHangOf_0 : decode cX3_leftHangOf 0 = .ok (.aload_n 0, 1) := by decide +kernel
theorem dX3_leftHangOf_1 : decode cX3_leftHangOf 1 = .ok (.aload_n 0, 1) := by decide +kernel
theorem dX3_leftHangOf_2 : decode cX3_leftHangOf 2 = .ok (.iload_n 1, 1) := by decide +kernel
theorem dX3_leftHangOf_3 : decode cX3_leftHangOf 3 = .ok (.iconst 0, 1) := by decide +kernel
theorem dX3_leftHangOf_4 : decode cX3_leftHangOf 4 = .ok (.invokevirtual 55, 3) := by decide +kernel
theorem dX3_leftHangOf_7 : decode cX3_leftHangOf 7 = .ok (.invokevirtual 58, 3) := by decide +kernel
theorem dX3_leftHangOf_10 : decode cX3_leftHangOf 10 = .ok (.ireturn, 1) := by decide +kernel
theorem dX3_rightHangOf_0 : decode cX3_rightHangOf 0 = .ok (.aload_n 0, 1) := by decide +kernel
theorem dX3_rightHangOf_1 : decode cX3_rightHangOf 1 = .ok (.aload_n 0, 1) := by decide +kernel
theorem dX3_rightHangOf_2 : decode cX3_rightHangOf 2 = .ok (.iload_n 1, 1) := by decide +kernel
theorem dX3_rightHangOf_3 : decode cX3_rightHangOf 3 = .ok (.aload_n 0, 1) := by decide +kernel
theorem dX3_rightHangOf_4 : decode cX3_rightHangOf 4 = .ok (.getfield 28, 3) := by decide +kernel
theorem dX3_rightHangOf_7 : decode cX3_rightHangOf 7 = .ok (.iload_n 1, 1) := by decide +kernel
theorem dX3_rightHangOf_8 : decode cX3_rightHangOf 8 = .ok (.iaload, 1) := by decide +kernel
theorem dX3_rightHangOf_9 : decode cX3_rightHangOf 9 = .ok (.iconst 1, 1) := by decide +kernel
theorem dX3_rightHangOf_10 : decode cX3_rightHangOf 10 = .ok (.isub, 1) := by decide +kernel
theorem dX3_rightHangOf_11 : decode cX3_rightHangOf 11 = .ok (.iconst 0, 1) := by decide +kernel
theorem dX3_rightHangOf_12 : decode cX3_rightHangOf 12 = .ok (.invokestatic 49, 3) := by decide +kernel
theorem dX3_rightHangOf_15 : decode cX3_rightHangOf 15 = .ok (.invokevirtual 55, 3) := by decide +kernel
theorem dX3_rightHangOf_18 : decode cX3_rightHangOf 18 = .ok (.invokevirtual 61, 3) := by decide +kernel
theorem dX3_rightHangOf_21 : decode cX3_rightHangOf 21 = .ok (.ireturn, 1) := by decide +kernel
theorem dX4_init_0 : decode cX4_init 0 = .ok (.aload_n 0, 1) := by decide +kernel
theorem dX4_init_1 : decode cX4_init 1 = .ok (.invokespecial 1, 3) := by decide +kernel
theorem dX4_init_4 : decode cX4_init 4 = .ok (.aload_n 0, 1) := by decide +kernel
theorem dX4_init_5 : decode cX4_init 5 = .ok (.new 7, 3) := by decide +kernel
theorem dX4_init_8 : decode cX4_init 8 = .ok (.dup, 1) := by decide +kernel
theorem dX4_init_9 : decode cX4_init 9 = .ok (.invokespecial 9, 3) := by decide +kernel
theorem dX4_init_12 : decode cX4_init 12 = .ok (.putfield 10, 3) := by decide +kernel
theorem dX4_init_15 : decode cX4_init 15 = .ok (.aload_n 0, 1) := by decide +kernel
theorem dX4_init_16 : decode cX4_init 16 = .ok (.new 7, 3) := by decide +kernel
theorem dX4_init_19 : decode cX4_init 19 = .ok (.dup, 1) := by decide +kernel
theorem dX4_init_20 : decode cX4_init 20 = .ok (.invokespecial 9, 3) := by decide +kernel
theorem dX4_init_23 : decode cX4_init 23 = .ok (.putfield 16, 3) := by decide +kernel
theorem dX4_init_26 : decode cX4_init 26 = .ok (.aload_n 0, 1) := by decide +kernel
theorem dX4_init_27 : decode cX4_init 27 = .ok (.new 19, 3) := by decide +kernel
theorem dX4_init_30 : decode cX4_init 30 = .ok (.dup, 1) := by decide +kernel
theorem dX4_init_31 : decode cX4_init 31 = .ok (.invokespecial 21, 3) := by decide +kernel
theorem dX4_init_34 : decode cX4_init 34 = .ok (.putfield 22, 3) := by decide +kernel
theorem dX4_init_37 : decode cX4_init 37 = .ok (.aload_n 0, 1) := by decide +kernel
theorem dX4_init_38 : decode cX4_init 38 = .ok (.new 19, 3) := by decide +kernel
theorem dX4_init_41 : decode cX4_init 41 = .ok (.dup, 1) := by decide +kernel
theorem dX4_init_42 : decode cX4_init 42 = .ok (.invokespecial 21, 3) := by decide +kernel
theorem dX4_init_45 : decode cX4_init 45 = .ok (.putfield 26, 3) := by decide +kernel
theorem dX4_init_48 : decode cX4_init 48 = .ok (.aload_n 0, 1) := by decide +kernel
theorem dX4_init_49 : decode cX4_init 49 = .ok (.new 29, 3) := by decide +kernel
theorem dX4_init_52 : decode cX4_init 52 = .ok (.dup, 1) := by decide +kernel
theorem dX4_init_53 : decode cX4_init 53 = .ok (.invokespecial 31, 3) := by decide +kernel
theorem dX4_init_56 : decode cX4_init 56 = .ok (.putfield 32, 3) := by decide +kernel
theorem dX4_init_59 : decode cX4_init 59 = .ok (.aload_n 0, 1) := by decide +kernel
theorem dX4_init_60 : decode cX4_init 60 = .ok (.new 36, 3) := by decide +kernel
theorem dX4_init_63 : decode cX4_init 63 = .ok (.dup, 1) := by decide +kernel
theorem dX4_init_64 : decode cX4_init 64 = .ok (.invokespecial 38, 3) := by decide +kernel
theorem dX4_init_67 : decode cX4_init 67 = .ok (.putfield 39, 3) := by decide +kernel
theorem dX4_init_70 : decode cX4_init 70 = .ok (.aload_n 0, 1) := by decide +kernel
theorem dX4_init_71 : decode cX4_init 71 = .ok (.iconst 2, 1) := by decide +kernel
theorem dX4_init_72 : decode cX4_init 72 = .ok (.anewarray 7, 3) := by decide +kernel
theorem dX4_init_75 : decode cX4_init 75 = .ok (.dup, 1) := by decide +kernel
theorem dX4_init_76 : decode cX4_init 76 = .ok (.iconst 0, 1) := by decide +kernel
theorem dX4_init_77 : decode cX4_init 77 = .ok (.new 7, 3) := by decide +kernel
theorem dX4_init_80 : decode cX4_init 80 = .ok (.dup, 1) := by decide +kernel
theorem dX4_init_81 : decode cX4_init 81 = .ok (.invokespecial 9, 3) := by decide +kernel
theorem dX4_init_84 : decode cX4_init 84 = .ok (.aastore, 1) := by decide +kernel
theorem dX4_init_85 : decode cX4_init 85 = .ok (.dup, 1) := by decide +kernel
theorem dX4_init_86 : decode cX4_init 86 = .ok (.iconst 1, 1) := by decide +kernel
theorem dX4_init_87 : decode cX4_init 87 = .ok (.new 7, 3) := by decide +kernel
theorem dX4_init_90 : decode cX4_init 90 = .ok (.dup, 1) := by decide +kernel
theorem dX4_init_91 : decode cX4_init 91 = .ok (.invokespecial 9, 3) := by decide +kernel
theorem dX4_init_94 : decode cX4_init 94 = .ok (.aastore, 1) := by decide +kernel
theorem dX4_init_95 : decode cX4_init 95 = .ok (.putfield 43, 3) := by decide +kernel
theorem dX4_init_98 : decode cX4_init 98 = .ok (.aload_n 0, 1) := by decide +kernel
theorem dX4_init_99 : decode cX4_init 99 = .ok (.iconst 2, 1) := by decide +kernel
theorem dX4_init_100 : decode cX4_init 100 = .ok (.newarray .boolean, 2) := by decide +kernel
theorem dX4_init_102 : decode cX4_init 102 = .ok (.putfield 47, 3) := by decide +kernel
theorem dX4_init_105 : decode cX4_init 105 = .ok (.return_, 1) := by decide +kernel
theorem dX4_set_0 : decode cX4_set 0 = .ok (.iload_n 1, 1) := by decide +kernel
theorem dX4_set_1 : decode cX4_set 1 = .ok (.ifCond .lt 8, 3) := by decide +kernel
theorem dX4_set_4 : decode cX4_set 4 = .ok (.iload_n 1, 1) := by decide +kernel
theorem dX4_set_5 : decode cX4_set 5 = .ok (.iconst 4, 1) := by decide +kernel
theorem dX4_set_6 : decode cX4_set 6 = .ok (.if_icmp .lt 7, 3) := by decide +kernel
theorem dX4_set_9 : decode cX4_set 9 = .ok (.sipush (-1002), 3) := by decide +kernel
theorem dX4_set_12 : decode cX4_set 12 = .ok (.ireturn, 1) := by decide +kernel
theorem dX4_set_13 : decode cX4_set 13 = .ok (.iload_n 2, 1) := by decide +kernel
theorem dX4_set_14 : decode cX4_set 14 = .ok (.getstatic 51, 3) := by decide +kernel
theorem dX4_set_17 : decode cX4_set 17 = .ok (.iload_n 1, 1) := by decide +kernel
theorem dX4_set_18 : decode cX4_set 18 = .ok (.iaload, 1) := by decide +kernel
theorem dX4_set_19 : decode cX4_set 19 = .ok (.if_icmp .lt 12, 3) := by decide +kernel
theorem dX4_set_22 : decode cX4_set 22 = .ok (.iload_n 2, 1) := by decide +kernel
theorem dX4_set_23 : decode cX4_set 23 = .ok (.getstatic 55, 3) := by decide +kernel
theorem dX4_set_26 : decode cX4_set 26 = .ok (.iload_n 1, 1) := by decide +kernel
theorem dX4_set_27 : decode cX4_set 27 = .ok (.iaload, 1) := by decide +kernel
theorem dX4_set_28 : decode cX4_set 28 = .ok (.if_icmp .le 7, 3) := by decide +kernel
theorem dX4_set_31 : decode cX4_set 31 = .ok (.sipush (-1002), 3) := by decide +kernel
theorem dX4_set_34 : decode cX4_set 34 = .ok (.ireturn, 1) := by decide +kernel
theorem dX4_set_35 : decode cX4_set 35 = .ok (.aload_n 0, 1) := by decide +kernel
theorem dX4_set_36 : decode cX4_set 36 = .ok (.getfield 39, 3) := by decide +kernel
theorem dX4_set_39 : decode cX4_set 39 = .ok (.aload_n 0, 1) := by decide +kernel
theorem dX4_set_40 : decode cX4_set 40 = .ok (.getfield 10, 3) := by decide +kernel
theorem dX4_set_43 : decode cX4_set 43 = .ok (.invokevirtual 58, 3) := by decide +kernel
theorem dX4_set_46 : decode cX4_set 46 = .ok (.aload_n 0, 1) := by decide +kernel
theorem dX4_set_47 : decode cX4_set 47 = .ok (.getfield 10, 3) := by decide +kernel
theorem dX4_set_50 : decode cX4_set 50 = .ok (.getfield 62, 3) := by decide +kernel
theorem dX4_set_53 : decode cX4_set 53 = .ok (.iload_n 1, 1) := by decide +kernel
theorem dX4_set_54 : decode cX4_set 54 = .ok (.iaload, 1) := by decide +kernel
theorem dX4_set_55 : decode cX4_set 55 = .ok (.istore_n 3, 1) := by decide +kernel
theorem dX4_set_56 : decode cX4_set 56 = .ok (.aload_n 0, 1) := by decide +kernel
theorem dX4_set_57 : decode cX4_set 57 = .ok (.getfield 10, 3) := by decide +kernel
theorem dX4_set_60 : decode cX4_set 60 = .ok (.getfield 62, 3) := by decide +kernel
theorem dX4_set_63 : decode cX4_set 63 = .ok (.iload_n 1, 1) := by decide +kernel
theorem dX4_set_64 : decode cX4_set 64 = .ok (.iload_n 2, 1) := by decide +kernel
theorem dX4_set_65 : decode cX4_set 65 = .ok (.iastore, 1) := by decide +kernel
theorem dX4_set_66 : decode cX4_set 66 = .ok (.iload_n 3, 1) := by decide +kernel
theorem dX4_set_67 : decode cX4_set 67 = .ok (.ireturn, 1) := by decide +kernel
theorem dX4_sort_0 : decode cX4_sort 0 = .ok (.iload_n 1, 1) := by decide +kernel
theorem dX4_sort_1 : decode cX4_sort 1 = .ok (.invokestatic 65, 3) := by decide +kernel
theorem dX4_sort_4 : decode cX4_sort 4 = .ok (.ifCond .ne 7, 3) := by decide +kernel
theorem dX4_sort_7 : decode cX4_sort 7 = .ok (.sipush (-1001), 3) := by decide +kernel
theorem dX4_sort_10 : decode cX4_sort 10 = .ok (.ireturn, 1) := by decide +kernel
theorem dX4_sort_11 : decode cX4_sort 11 = .ok (.iload_n 2, 1) := by decide +kernel
theorem dX4_sort_12 : decode cX4_sort 12 = .ok (.iconst 1, 1) := by decide +kernel
theorem dX4_sort_13 : decode cX4_sort 13 = .ok (.if_icmp .lt 24, 3) := by decide +kernel
theorem dX4_sort_16 : decode cX4_sort 16 = .ok (.iload_n 2, 1) := by decide +kernel
theorem dX4_sort_17 : decode cX4_sort 17 = .ok (.bipush 20, 2) := by decide +kernel
theorem dX4_sort_19 : decode cX4_sort 19 = .ok (.if_icmp .gt 18, 3) := by decide +kernel
theorem dX4_sort_22 : decode cX4_sort 22 = .ok (.iload_n 3, 1) := by decide +kernel
theorem dX4_sort_23 : decode cX4_sort 23 = .ok (.invokestatic 69, 3) := by decide +kernel
theorem dX4_sort_26 : decode cX4_sort 26 = .ok (.ifCond .eq 11, 3) := by decide +kernel
theorem dX4_sort_29 : decode cX4_sort 29 = .ok (.iload 4, 2) := by decide +kernel
theorem dX4_sort_31 : decode cX4_sort 31 = .ok (.invokestatic 69, 3) := by decide +kernel
theorem dX4_sort_34 : decode cX4_sort 34 = .ok (.ifCond .ne 7, 3) := by decide +kernel
theorem dX4_sort_37 : decode cX4_sort 37 = .ok (.sipush (-1002), 3) := by decide +kernel
theorem dX4_sort_40 : decode cX4_sort 40 = .ok (.ireturn, 1) := by decide +kernel
theorem dX4_sort_41 : decode cX4_sort 41 = .ok (.aload_n 0, 1) := by decide +kernel
theorem dX4_sort_42 : decode cX4_sort 42 = .ok (.getfield 39, 3) := by decide +kernel
theorem dX4_sort_45 : decode cX4_sort 45 = .ok (.aload_n 0, 1) := by decide +kernel
theorem dX4_sort_46 : decode cX4_sort 46 = .ok (.getfield 10, 3) := by decide +kernel
theorem dX4_sort_49 : decode cX4_sort 49 = .ok (.invokevirtual 58, 3) := by decide +kernel
theorem dX4_sort_52 : decode cX4_sort 52 = .ok (.aload_n 0, 1) := by decide +kernel
theorem dX4_sort_53 : decode cX4_sort 53 = .ok (.getfield 10, 3) := by decide +kernel
theorem dX4_sort_56 : decode cX4_sort 56 = .ok (.getfield 72, 3) := by decide +kernel
theorem dX4_sort_59 : decode cX4_sort 59 = .ok (.iload_n 1, 1) := by decide +kernel
theorem dX4_sort_60 : decode cX4_sort 60 = .ok (.iaload, 1) := by decide +kernel
theorem dX4_sort_61 : decode cX4_sort 61 = .ok (.istore 5, 2) := by decide +kernel
theorem dX4_sort_63 : decode cX4_sort 63 = .ok (.aload_n 0, 1) := by decide +kernel
theorem dX4_sort_64 : decode cX4_sort 64 = .ok (.getfield 10, 3) := by decide +kernel
theorem dX4_sort_67 : decode cX4_sort 67 = .ok (.getfield 72, 3) := by decide +kernel
theorem dX4_sort_70 : decode cX4_sort 70 = .ok (.iload_n 1, 1) := by decide +kernel
theorem dX4_sort_71 : decode cX4_sort 71 = .ok (.iload_n 2, 1) := by decide +kernel
theorem dX4_sort_72 : decode cX4_sort 72 = .ok (.iastore, 1) := by decide +kernel
theorem dX4_sort_73 : decode cX4_sort 73 = .ok (.aload_n 0, 1) := by decide +kernel
theorem dX4_sort_74 : decode cX4_sort 74 = .ok (.getfield 10, 3) := by decide +kernel
theorem dX4_sort_77 : decode cX4_sort 77 = .ok (.getfield 75, 3) := by decide +kernel
theorem dX4_sort_80 : decode cX4_sort 80 = .ok (.iload_n 1, 1) := by decide +kernel
theorem dX4_sort_81 : decode cX4_sort 81 = .ok (.iload_n 3, 1) := by decide +kernel
theorem dX4_sort_82 : decode cX4_sort 82 = .ok (.iastore, 1) := by decide +kernel
theorem dX4_sort_83 : decode cX4_sort 83 = .ok (.aload_n 0, 1) := by decide +kernel
theorem dX4_sort_84 : decode cX4_sort 84 = .ok (.getfield 10, 3) := by decide +kernel
theorem dX4_sort_87 : decode cX4_sort 87 = .ok (.getfield 78, 3) := by decide +kernel
theorem dX4_sort_90 : decode cX4_sort 90 = .ok (.iload_n 1, 1) := by decide +kernel
theorem dX4_sort_91 : decode cX4_sort 91 = .ok (.iload 4, 2) := by decide +kernel
theorem dX4_sort_93 : decode cX4_sort 93 = .ok (.iastore, 1) := by decide +kernel
theorem dX4_sort_94 : decode cX4_sort 94 = .ok (.iload 5, 2) := by decide +kernel
theorem dX4_sort_96 : decode cX4_sort 96 = .ok (.ireturn, 1) := by decide +kernel
theorem dX4_read_0 : decode cX4_read 0 = .ok (.aload_n 0, 1) := by decide +kernel
theorem dX4_read_1 : decode cX4_read 1 = .ok (.getfield 32, 3) := by decide +kernel
theorem dX4_read_4 : decode cX4_read 4 = .ok (.invokevirtual 81, 3) := by decide +kernel
theorem dX4_read_7 : decode cX4_read 7 = .ok (.sipush (-1006), 3) := by decide +kernel
theorem dX4_read_10 : decode cX4_read 10 = .ok (.if_icmp .eq 7, 3) := by decide +kernel
theorem dX4_read_13 : decode cX4_read 13 = .ok (.sipush (-1003), 3) := by decide +kernel
theorem dX4_read_16 : decode cX4_read 16 = .ok (.ireturn, 1) := by decide +kernel
theorem dX4_read_17 : decode cX4_read 17 = .ok (.aload_n 0, 1) := by decide +kernel
theorem dX4_read_18 : decode cX4_read 18 = .ok (.getfield 10, 3) := by decide +kernel
theorem dX4_read_21 : decode cX4_read 21 = .ok (.getfield 85, 3) := by decide +kernel
theorem dX4_read_24 : decode cX4_read 24 = .ok (.aload_n 0, 1) := by decide +kernel
theorem dX4_read_25 : decode cX4_read 25 = .ok (.getfield 32, 3) := by decide +kernel
theorem dX4_read_28 : decode cX4_read 28 = .ok (.invokevirtual 89, 3) := by decide +kernel
theorem dX4_read_31 : decode cX4_read 31 = .ok (.iadd, 1) := by decide +kernel
theorem dX4_read_32 : decode cX4_read 32 = .ok (.bipush 24, 2) := by decide +kernel
theorem dX4_read_34 : decode cX4_read 34 = .ok (.if_icmp .le 7, 3) := by decide +kernel
theorem dX4_read_37 : decode cX4_read 37 = .ok (.sipush (-1004), 3) := by decide +kernel
theorem dX4_read_40 : decode cX4_read 40 = .ok (.ireturn, 1) := by decide +kernel
theorem dX4_read_41 : decode cX4_read 41 = .ok (.aload_n 0, 1) := by decide +kernel
theorem dX4_read_42 : decode cX4_read 42 = .ok (.getfield 39, 3) := by decide +kernel
theorem dX4_read_45 : decode cX4_read 45 = .ok (.aload_n 0, 1) := by decide +kernel
theorem dX4_read_46 : decode cX4_read 46 = .ok (.getfield 10, 3) := by decide +kernel
theorem dX4_read_49 : decode cX4_read 49 = .ok (.invokevirtual 58, 3) := by decide +kernel
theorem dX4_read_52 : decode cX4_read 52 = .ok (.aload_n 0, 1) := by decide +kernel
theorem dX4_read_53 : decode cX4_read 53 = .ok (.getfield 32, 3) := by decide +kernel
theorem dX4_read_56 : decode cX4_read 56 = .ok (.aload_n 0, 1) := by decide +kernel
theorem dX4_read_57 : decode cX4_read 57 = .ok (.getfield 10, 3) := by decide +kernel
theorem dX4_read_60 : decode cX4_read 60 = .ok (.invokevirtual 92, 3) := by decide +kernel
theorem dX4_read_63 : decode cX4_read 63 = .ok (.aload_n 0, 1) := by decide +kernel
theorem dX4_read_64 : decode cX4_read 64 = .ok (.getfield 32, 3) := by decide +kernel
theorem dX4_read_67 : decode cX4_read 67 = .ok (.iconst 0, 1) := by decide +kernel
theorem dX4_read_68 : decode cX4_read 68 = .ok (.putfield 95, 3) := by decide +kernel
theorem dX4_read_71 : decode cX4_read 71 = .ok (.aload_n 0, 1) := by decide +kernel
theorem dX4_read_72 : decode cX4_read 72 = .ok (.getfield 10, 3) := by decide +kernel
theorem dX4_read_75 : decode cX4_read 75 = .ok (.getfield 85, 3) := by decide +kernel
theorem dX4_read_78 : decode cX4_read 78 = .ok (.ireturn, 1) := by decide +kernel
theorem dX4_drop_0 : decode cX4_drop 0 = .ok (.aload_n 0, 1) := by decide +kernel
theorem dX4_drop_1 : decode cX4_drop 1 = .ok (.iload_n 1, 1) := by decide +kernel
theorem dX4_drop_2 : decode cX4_drop 2 = .ok (.invokevirtual 98, 3) := by decide +kernel
theorem dX4_drop_5 : decode cX4_drop 5 = .ok (.ifCond .ne 7, 3) := by decide +kernel
theorem dX4_drop_8 : decode cX4_drop 8 = .ok (.sipush (-1001), 3) := by decide +kernel
theorem dX4_drop_11 : decode cX4_drop 11 = .ok (.ireturn, 1) := by decide +kernel
theorem dX4_drop_12 : decode cX4_drop 12 = .ok (.aload_n 0, 1) := by decide +kernel
theorem dX4_drop_13 : decode cX4_drop 13 = .ok (.getfield 39, 3) := by decide +kernel
theorem dX4_drop_16 : decode cX4_drop 16 = .ok (.aload_n 0, 1) := by decide +kernel
theorem dX4_drop_17 : decode cX4_drop 17 = .ok (.getfield 10, 3) := by decide +kernel
theorem dX4_drop_20 : decode cX4_drop 20 = .ok (.invokevirtual 58, 3) := by decide +kernel
theorem dX4_drop_23 : decode cX4_drop 23 = .ok (.aload_n 0, 1) := by decide +kernel
theorem dX4_drop_24 : decode cX4_drop 24 = .ok (.getfield 10, 3) := by decide +kernel
theorem dX4_drop_27 : decode cX4_drop 27 = .ok (.iload_n 1, 1) := by decide +kernel
theorem dX4_drop_28 : decode cX4_drop 28 = .ok (.invokevirtual 101, 3) := by decide +kernel
theorem dX4_drop_31 : decode cX4_drop 31 = .ok (.istore_n 2, 1) := by decide +kernel
theorem dX4_drop_32 : decode cX4_drop 32 = .ok (.aload_n 0, 1) := by decide +kernel
theorem dX4_drop_33 : decode cX4_drop 33 = .ok (.getfield 10, 3) := by decide +kernel
theorem dX4_drop_36 : decode cX4_drop 36 = .ok (.iload_n 1, 1) := by decide +kernel
theorem dX4_drop_37 : decode cX4_drop 37 = .ok (.invokevirtual 105, 3) := by decide +kernel
theorem dX4_drop_40 : decode cX4_drop 40 = .ok (.iload_n 2, 1) := by decide +kernel
theorem dX4_drop_41 : decode cX4_drop 41 = .ok (.ireturn, 1) := by decide +kernel
theorem dX4_swap_0 : decode cX4_swap 0 = .ok (.aload_n 0, 1) := by decide +kernel
theorem dX4_swap_1 : decode cX4_swap 1 = .ok (.iload_n 1, 1) := by decide +kernel
theorem dX4_swap_2 : decode cX4_swap 2 = .ok (.invokevirtual 98, 3) := by decide +kernel
theorem dX4_swap_5 : decode cX4_swap 5 = .ok (.ifCond .eq 11, 3) := by decide +kernel
theorem dX4_swap_8 : decode cX4_swap 8 = .ok (.aload_n 0, 1) := by decide +kernel
theorem dX4_swap_9 : decode cX4_swap 9 = .ok (.iload_n 2, 1) := by decide +kernel
theorem dX4_swap_10 : decode cX4_swap 10 = .ok (.invokevirtual 98, 3) := by decide +kernel
theorem dX4_swap_13 : decode cX4_swap 13 = .ok (.ifCond .ne 7, 3) := by decide +kernel
theorem dX4_swap_16 : decode cX4_swap 16 = .ok (.sipush (-1001), 3) := by decide +kernel
theorem dX4_swap_19 : decode cX4_swap 19 = .ok (.ireturn, 1) := by decide +kernel
theorem dX4_swap_20 : decode cX4_swap 20 = .ok (.iload_n 1, 1) := by decide +kernel
theorem dX4_swap_21 : decode cX4_swap 21 = .ok (.iload_n 2, 1) := by decide +kernel
theorem dX4_swap_22 : decode cX4_swap 22 = .ok (.if_icmp .ne 7, 3) := by decide +kernel
theorem dX4_swap_25 : decode cX4_swap 25 = .ok (.sipush (-1002), 3) := by decide +kernel
theorem dX4_swap_28 : decode cX4_swap 28 = .ok (.ireturn, 1) := by decide +kernel
theorem dX4_swap_29 : decode cX4_swap 29 = .ok (.aload_n 0, 1) := by decide +kernel
theorem dX4_swap_30 : decode cX4_swap 30 = .ok (.getfield 39, 3) := by decide +kernel
theorem dX4_swap_33 : decode cX4_swap 33 = .ok (.aload_n 0, 1) := by decide +kernel
theorem dX4_swap_34 : decode cX4_swap 34 = .ok (.getfield 10, 3) := by decide +kernel
theorem dX4_swap_37 : decode cX4_swap 37 = .ok (.invokevirtual 58, 3) := by decide +kernel
theorem dX4_swap_40 : decode cX4_swap 40 = .ok (.aload_n 0, 1) := by decide +kernel
theorem dX4_swap_41 : decode cX4_swap 41 = .ok (.getfield 10, 3) := by decide +kernel
theorem dX4_swap_44 : decode cX4_swap 44 = .ok (.iload_n 1, 1) := by decide +kernel
theorem dX4_swap_45 : decode cX4_swap 45 = .ok (.iload_n 2, 1) := by decide +kernel
theorem dX4_swap_46 : decode cX4_swap 46 = .ok (.invokevirtual 109, 3) := by decide +kernel
theorem dX4_swap_49 : decode cX4_swap 49 = .ok (.aload_n 0, 1) := by decide +kernel
theorem dX4_swap_50 : decode cX4_swap 50 = .ok (.iconst 0, 1) := by decide +kernel
theorem dX4_swap_51 : decode cX4_swap 51 = .ok (.invokevirtual 113, 3) := by decide +kernel
theorem dX4_swap_54 : decode cX4_swap 54 = .ok (.getfield 117, 3) := by decide +kernel
theorem dX4_swap_57 : decode cX4_swap 57 = .ok (.ireturn, 1) := by decide +kernel
theorem dX4_clear_0 : decode cX4_clear 0 = .ok (.aload_n 0, 1) := by decide +kernel
theorem dX4_clear_1 : decode cX4_clear 1 = .ok (.getfield 39, 3) := by decide +kernel
theorem dX4_clear_4 : decode cX4_clear 4 = .ok (.aload_n 0, 1) := by decide +kernel
theorem dX4_clear_5 : decode cX4_clear 5 = .ok (.getfield 10, 3) := by decide +kernel
theorem dX4_clear_8 : decode cX4_clear 8 = .ok (.invokevirtual 58, 3) := by decide +kernel
theorem dX4_clear_11 : decode cX4_clear 11 = .ok (.aload_n 0, 1) := by decide +kernel
theorem dX4_clear_12 : decode cX4_clear 12 = .ok (.getfield 10, 3) := by decide +kernel
theorem dX4_clear_15 : decode cX4_clear 15 = .ok (.getfield 85, 3) := by decide +kernel
theorem dX4_clear_18 : decode cX4_clear 18 = .ok (.istore_n 1, 1) := by decide +kernel
theorem dX4_clear_19 : decode cX4_clear 19 = .ok (.aload_n 0, 1) := by decide +kernel
theorem dX4_clear_20 : decode cX4_clear 20 = .ok (.getfield 10, 3) := by decide +kernel
theorem dX4_clear_23 : decode cX4_clear 23 = .ok (.iconst 0, 1) := by decide +kernel
theorem dX4_clear_24 : decode cX4_clear 24 = .ok (.putfield 85, 3) := by decide +kernel
theorem dX4_clear_27 : decode cX4_clear 27 = .ok (.iload_n 1, 1) := by decide +kernel
theorem dX4_clear_28 : decode cX4_clear 28 = .ok (.ireturn, 1) := by decide +kernel
theorem dX4_sortOf_0 : decode cX4_sortOf 0 = .ok (.iload_n 1, 1) := by decide +kernel
theorem dX4_sortOf_1 : decode cX4_sortOf 1 = .ok (.invokestatic 65, 3) := by decide +kernel
theorem dX4_sortOf_4 : decode cX4_sortOf 4 = .ok (.ifCond .ne 7, 3) := by decide +kernel
theorem dX4_sortOf_7 : decode cX4_sortOf 7 = .ok (.sipush (-1001), 3) := by decide +kernel
theorem dX4_sortOf_10 : decode cX4_sortOf 10 = .ok (.ireturn, 1) := by decide +kernel
theorem dX4_sortOf_11 : decode cX4_sortOf 11 = .ok (.iload_n 2, 1) := by decide +kernel
theorem dX4_sortOf_12 : decode cX4_sortOf 12 = .ok (.tableswitch 97 0 5 #[40, 50, 60, 70, 79, 88], 40) := by decide +kernel
theorem dX4_sortOf_52 : decode cX4_sortOf 52 = .ok (.aload_n 0, 1) := by decide +kernel
theorem dX4_sortOf_53 : decode cX4_sortOf 53 = .ok (.getfield 10, 3) := by decide +kernel
theorem dX4_sortOf_56 : decode cX4_sortOf 56 = .ok (.getfield 72, 3) := by decide +kernel
theorem dX4_sortOf_59 : decode cX4_sortOf 59 = .ok (.iload_n 1, 1) := by decide +kernel
theorem dX4_sortOf_60 : decode cX4_sortOf 60 = .ok (.iaload, 1) := by decide +kernel
theorem dX4_sortOf_61 : decode cX4_sortOf 61 = .ok (.ireturn, 1) := by decide +kernel
theorem dX4_sortOf_62 : decode cX4_sortOf 62 = .ok (.aload_n 0, 1) := by decide +kernel
theorem dX4_sortOf_63 : decode cX4_sortOf 63 = .ok (.getfield 10, 3) := by decide +kernel
theorem dX4_sortOf_66 : decode cX4_sortOf 66 = .ok (.getfield 75, 3) := by decide +kernel
theorem dX4_sortOf_69 : decode cX4_sortOf 69 = .ok (.iload_n 1, 1) := by decide +kernel
theorem dX4_sortOf_70 : decode cX4_sortOf 70 = .ok (.iaload, 1) := by decide +kernel
theorem dX4_sortOf_71 : decode cX4_sortOf 71 = .ok (.ireturn, 1) := by decide +kernel
theorem dX4_sortOf_72 : decode cX4_sortOf 72 = .ok (.aload_n 0, 1) := by decide +kernel
theorem dX4_sortOf_73 : decode cX4_sortOf 73 = .ok (.getfield 10, 3) := by decide +kernel
theorem dX4_sortOf_76 : decode cX4_sortOf 76 = .ok (.getfield 78, 3) := by decide +kernel
theorem dX4_sortOf_79 : decode cX4_sortOf 79 = .ok (.iload_n 1, 1) := by decide +kernel
theorem dX4_sortOf_80 : decode cX4_sortOf 80 = .ok (.iaload, 1) := by decide +kernel
theorem dX4_sortOf_81 : decode cX4_sortOf 81 = .ok (.ireturn, 1) := by decide +kernel
theorem dX4_sortOf_82 : decode cX4_sortOf 82 = .ok (.aload_n 0, 1) := by decide +kernel
theorem dX4_sortOf_83 : decode cX4_sortOf 83 = .ok (.getfield 10, 3) := by decide +kernel
theorem dX4_sortOf_86 : decode cX4_sortOf 86 = .ok (.iload_n 1, 1) := by decide +kernel
theorem dX4_sortOf_87 : decode cX4_sortOf 87 = .ok (.invokevirtual 120, 3) := by decide +kernel
theorem dX4_sortOf_90 : decode cX4_sortOf 90 = .ok (.ireturn, 1) := by decide +kernel
theorem dX4_sortOf_91 : decode cX4_sortOf 91 = .ok (.aload_n 0, 1) := by decide +kernel
theorem dX4_sortOf_92 : decode cX4_sortOf 92 = .ok (.getfield 10, 3) := by decide +kernel
theorem dX4_sortOf_95 : decode cX4_sortOf 95 = .ok (.iload_n 1, 1) := by decide +kernel
theorem dX4_sortOf_96 : decode cX4_sortOf 96 = .ok (.invokevirtual 123, 3) := by decide +kernel
theorem dX4_sortOf_99 : decode cX4_sortOf 99 = .ok (.ireturn, 1) := by decide +kernel
theorem dX4_sortOf_100 : decode cX4_sortOf 100 = .ok (.aload_n 0, 1) := by decide +kernel
theorem dX4_sortOf_101 : decode cX4_sortOf 101 = .ok (.getfield 10, 3) := by decide +kernel
theorem dX4_sortOf_104 : decode cX4_sortOf 104 = .ok (.iload_n 1, 1) := by decide +kernel
theorem dX4_sortOf_105 : decode cX4_sortOf 105 = .ok (.invokevirtual 126, 3) := by decide +kernel
theorem dX4_sortOf_108 : decode cX4_sortOf 108 = .ok (.ireturn, 1) := by decide +kernel
theorem dX4_sortOf_109 : decode cX4_sortOf 109 = .ok (.sipush (-1002), 3) := by decide +kernel
theorem dX4_sortOf_112 : decode cX4_sortOf 112 = .ok (.ireturn, 1) := by decide +kernel
theorem dX4_word_0 : decode cX4_word 0 = .ok (.aload_n 0, 1) := by decide +kernel
theorem dX4_word_1 : decode cX4_word 1 = .ok (.iload_n 1, 1) := by decide +kernel
theorem dX4_word_2 : decode cX4_word 2 = .ok (.invokevirtual 98, 3) := by decide +kernel
theorem dX4_word_5 : decode cX4_word 5 = .ok (.ifCond .ne 7, 3) := by decide +kernel
theorem dX4_word_8 : decode cX4_word 8 = .ok (.sipush (-1001), 3) := by decide +kernel
theorem dX4_word_11 : decode cX4_word 11 = .ok (.ireturn, 1) := by decide +kernel
theorem dX4_word_12 : decode cX4_word 12 = .ok (.iload_n 2, 1) := by decide +kernel
theorem dX4_word_13 : decode cX4_word 13 = .ok (.ifCond .ge 7, 3) := by decide +kernel
theorem dX4_word_16 : decode cX4_word 16 = .ok (.sipush (-1002), 3) := by decide +kernel
theorem dX4_word_19 : decode cX4_word 19 = .ok (.ireturn, 1) := by decide +kernel
theorem dX4_word_20 : decode cX4_word 20 = .ok (.iload_n 2, 1) := by decide +kernel
theorem dX4_word_21 : decode cX4_word 21 = .ok (.tableswitch 70 0 3 #[31, 41, 50, 60], 31) := by decide +kernel
theorem dX4_word_52 : decode cX4_word 52 = .ok (.aload_n 0, 1) := by decide +kernel
theorem dX4_word_53 : decode cX4_word 53 = .ok (.getfield 10, 3) := by decide +kernel
theorem dX4_word_56 : decode cX4_word 56 = .ok (.getfield 129, 3) := by decide +kernel
theorem dX4_word_59 : decode cX4_word 59 = .ok (.iload_n 1, 1) := by decide +kernel
theorem dX4_word_60 : decode cX4_word 60 = .ok (.iaload, 1) := by decide +kernel
theorem dX4_word_61 : decode cX4_word 61 = .ok (.ireturn, 1) := by decide +kernel
theorem dX4_word_62 : decode cX4_word 62 = .ok (.aload_n 0, 1) := by decide +kernel
theorem dX4_word_63 : decode cX4_word 63 = .ok (.getfield 10, 3) := by decide +kernel
theorem dX4_word_66 : decode cX4_word 66 = .ok (.iload_n 1, 1) := by decide +kernel
theorem dX4_word_67 : decode cX4_word 67 = .ok (.invokevirtual 101, 3) := by decide +kernel
theorem dX4_word_70 : decode cX4_word 70 = .ok (.ireturn, 1) := by decide +kernel
theorem dX4_word_71 : decode cX4_word 71 = .ok (.aload_n 0, 1) := by decide +kernel
theorem dX4_word_72 : decode cX4_word 72 = .ok (.iconst 0, 1) := by decide +kernel
theorem dX4_word_73 : decode cX4_word 73 = .ok (.invokevirtual 113, 3) := by decide +kernel
theorem dX4_word_76 : decode cX4_word 76 = .ok (.iload_n 1, 1) := by decide +kernel
theorem dX4_word_77 : decode cX4_word 77 = .ok (.invokevirtual 132, 3) := by decide +kernel
theorem dX4_word_80 : decode cX4_word 80 = .ok (.ireturn, 1) := by decide +kernel
theorem dX4_word_81 : decode cX4_word 81 = .ok (.aload_n 0, 1) := by decide +kernel
theorem dX4_word_82 : decode cX4_word 82 = .ok (.iconst 1, 1) := by decide +kernel
theorem dX4_word_83 : decode cX4_word 83 = .ok (.invokevirtual 113, 3) := by decide +kernel
theorem dX4_word_86 : decode cX4_word 86 = .ok (.iload_n 1, 1) := by decide +kernel
theorem dX4_word_87 : decode cX4_word 87 = .ok (.invokevirtual 132, 3) := by decide +kernel
theorem dX4_word_90 : decode cX4_word 90 = .ok (.ireturn, 1) := by decide +kernel
theorem dX4_word_91 : decode cX4_word 91 = .ok (.iload_n 2, 1) := by decide +kernel
theorem dX4_word_92 : decode cX4_word 92 = .ok (.iconst 4, 1) := by decide +kernel
theorem dX4_word_93 : decode cX4_word 93 = .ok (.isub, 1) := by decide +kernel
theorem dX4_word_94 : decode cX4_word 94 = .ok (.aload_n 0, 1) := by decide +kernel
theorem dX4_word_95 : decode cX4_word 95 = .ok (.getfield 10, 3) := by decide +kernel
theorem dX4_word_98 : decode cX4_word 98 = .ok (.getfield 129, 3) := by decide +kernel
theorem dX4_word_101 : decode cX4_word 101 = .ok (.iload_n 1, 1) := by decide +kernel
theorem dX4_word_102 : decode cX4_word 102 = .ok (.iaload, 1) := by decide +kernel
theorem dX4_word_103 : decode cX4_word 103 = .ok (.if_icmp .ge 17, 3) := by decide +kernel
theorem dX4_word_106 : decode cX4_word 106 = .ok (.aload_n 0, 1) := by decide +kernel
theorem dX4_word_107 : decode cX4_word 107 = .ok (.getfield 10, 3) := by decide +kernel
theorem dX4_word_110 : decode cX4_word 110 = .ok (.iload_n 1, 1) := by decide +kernel
theorem dX4_word_111 : decode cX4_word 111 = .ok (.iload_n 2, 1) := by decide +kernel
theorem dX4_word_112 : decode cX4_word 112 = .ok (.iconst 4, 1) := by decide +kernel
theorem dX4_word_113 : decode cX4_word 113 = .ok (.isub, 1) := by decide +kernel
theorem dX4_word_114 : decode cX4_word 114 = .ok (.invokevirtual 135, 3) := by decide +kernel
theorem dX4_word_117 : decode cX4_word 117 = .ok (.goto 6, 3) := by decide +kernel
theorem dX4_word_120 : decode cX4_word 120 = .ok (.sipush (-1006), 3) := by decide +kernel
theorem dX4_word_123 : decode cX4_word 123 = .ok (.ireturn, 1) := by decide +kernel
theorem dX4_line_0 : decode cX4_line 0 = .ok (.iload_n 1, 1) := by decide +kernel
theorem dX4_line_1 : decode cX4_line 1 = .ok (.invokestatic 139, 3) := by decide +kernel
theorem dX4_line_4 : decode cX4_line 4 = .ok (.ifCond .eq 13, 3) := by decide +kernel
theorem dX4_line_7 : decode cX4_line 7 = .ok (.iload_n 3, 1) := by decide +kernel
theorem dX4_line_8 : decode cX4_line 8 = .ok (.ifCond .lt 9, 3) := by decide +kernel
theorem dX4_line_11 : decode cX4_line 11 = .ok (.iload_n 3, 1) := by decide +kernel
theorem dX4_line_12 : decode cX4_line 12 = .ok (.bipush 8, 2) := by decide +kernel
theorem dX4_line_14 : decode cX4_line 14 = .ok (.if_icmp .le 7, 3) := by decide +kernel
theorem dX4_line_17 : decode cX4_line 17 = .ok (.sipush (-1002), 3) := by decide +kernel
theorem dX4_line_20 : decode cX4_line 20 = .ok (.ireturn, 1) := by decide +kernel
theorem dX4_line_21 : decode cX4_line 21 = .ok (.aload_n 0, 1) := by decide +kernel
theorem dX4_line_22 : decode cX4_line 22 = .ok (.iload_n 1, 1) := by decide +kernel
theorem dX4_line_23 : decode cX4_line 23 = .ok (.invokevirtual 113, 3) := by decide +kernel
theorem dX4_line_26 : decode cX4_line 26 = .ok (.astore 4, 2) := by decide +kernel
theorem dX4_line_28 : decode cX4_line 28 = .ok (.iload_n 2, 1) := by decide +kernel
theorem dX4_line_29 : decode cX4_line 29 = .ok (.ifCond .lt 12, 3) := by decide +kernel
theorem dX4_line_32 : decode cX4_line 32 = .ok (.iload_n 2, 1) := by decide +kernel
theorem dX4_line_33 : decode cX4_line 33 = .ok (.aload 4, 2) := by decide +kernel
theorem dX4_line_35 : decode cX4_line 35 = .ok (.getfield 117, 3) := by decide +kernel
theorem dX4_line_38 : decode cX4_line 38 = .ok (.if_icmp .lt 7, 3) := by decide +kernel
theorem dX4_line_41 : decode cX4_line 41 = .ok (.sipush (-1001), 3) := by decide +kernel
theorem dX4_line_44 : decode cX4_line 44 = .ok (.ireturn, 1) := by decide +kernel
theorem dX4_line_45 : decode cX4_line 45 = .ok (.aload 4, 2) := by decide +kernel
theorem dX4_line_47 : decode cX4_line 47 = .ok (.iload_n 2, 1) := by decide +kernel
theorem dX4_line_48 : decode cX4_line 48 = .ok (.iload_n 3, 1) := by decide +kernel
theorem dX4_line_49 : decode cX4_line 49 = .ok (.invokevirtual 142, 3) := by decide +kernel
theorem dX4_line_52 : decode cX4_line 52 = .ok (.ireturn, 1) := by decide +kernel
theorem dX4_lines_0 : decode cX4_lines 0 = .ok (.iload_n 1, 1) := by decide +kernel
theorem dX4_lines_1 : decode cX4_lines 1 = .ok (.invokestatic 139, 3) := by decide +kernel
theorem dX4_lines_4 : decode cX4_lines 4 = .ok (.ifCond .ne 7, 3) := by decide +kernel
theorem dX4_lines_7 : decode cX4_lines 7 = .ok (.sipush (-1002), 3) := by decide +kernel
theorem dX4_lines_10 : decode cX4_lines 10 = .ok (.ireturn, 1) := by decide +kernel
theorem dX4_lines_11 : decode cX4_lines 11 = .ok (.iload_n 2, 1) := by decide +kernel
theorem dX4_lines_12 : decode cX4_lines 12 = .ok (.tableswitch 81 0 4 #[36, 45, 54, 63, 72], 36) := by decide +kernel
theorem dX4_lines_48 : decode cX4_lines 48 = .ok (.aload_n 0, 1) := by decide +kernel
theorem dX4_lines_49 : decode cX4_lines 49 = .ok (.iload_n 1, 1) := by decide +kernel
theorem dX4_lines_50 : decode cX4_lines 50 = .ok (.invokevirtual 113, 3) := by decide +kernel
theorem dX4_lines_53 : decode cX4_lines 53 = .ok (.getfield 117, 3) := by decide +kernel
theorem dX4_lines_56 : decode cX4_lines 56 = .ok (.ireturn, 1) := by decide +kernel
theorem dX4_lines_57 : decode cX4_lines 57 = .ok (.aload_n 0, 1) := by decide +kernel
theorem dX4_lines_58 : decode cX4_lines 58 = .ok (.iload_n 1, 1) := by decide +kernel
theorem dX4_lines_59 : decode cX4_lines 59 = .ok (.invokevirtual 113, 3) := by decide +kernel
theorem dX4_lines_62 : decode cX4_lines 62 = .ok (.invokevirtual 146, 3) := by decide +kernel
theorem dX4_lines_65 : decode cX4_lines 65 = .ok (.ireturn, 1) := by decide +kernel
theorem dX4_lines_66 : decode cX4_lines 66 = .ok (.aload_n 0, 1) := by decide +kernel
theorem dX4_lines_67 : decode cX4_lines 67 = .ok (.iload_n 1, 1) := by decide +kernel
theorem dX4_lines_68 : decode cX4_lines 68 = .ok (.invokevirtual 113, 3) := by decide +kernel
theorem dX4_lines_71 : decode cX4_lines 71 = .ok (.invokevirtual 149, 3) := by decide +kernel
theorem dX4_lines_74 : decode cX4_lines 74 = .ok (.ireturn, 1) := by decide +kernel
theorem dX4_lines_75 : decode cX4_lines 75 = .ok (.aload_n 0, 1) := by decide +kernel
theorem dX4_lines_76 : decode cX4_lines 76 = .ok (.iload_n 1, 1) := by decide +kernel
theorem dX4_lines_77 : decode cX4_lines 77 = .ok (.invokevirtual 113, 3) := by decide +kernel
theorem dX4_lines_80 : decode cX4_lines 80 = .ok (.invokevirtual 152, 3) := by decide +kernel
theorem dX4_lines_83 : decode cX4_lines 83 = .ok (.ireturn, 1) := by decide +kernel
theorem dX4_lines_84 : decode cX4_lines 84 = .ok (.aload_n 0, 1) := by decide +kernel
theorem dX4_lines_85 : decode cX4_lines 85 = .ok (.iload_n 1, 1) := by decide +kernel
theorem dX4_lines_86 : decode cX4_lines 86 = .ok (.invokevirtual 113, 3) := by decide +kernel
theorem dX4_lines_89 : decode cX4_lines 89 = .ok (.invokevirtual 155, 3) := by decide +kernel
theorem dX4_lines_92 : decode cX4_lines 92 = .ok (.ireturn, 1) := by decide +kernel
theorem dX4_lines_93 : decode cX4_lines 93 = .ok (.sipush (-1002), 3) := by decide +kernel
theorem dX4_lines_96 : decode cX4_lines 96 = .ok (.ireturn, 1) := by decide +kernel
theorem dX4_count_0 : decode cX4_count 0 = .ok (.iload_n 1, 1) := by decide +kernel
theorem dX4_count_1 : decode cX4_count 1 = .ok (.ifCond .lt 18, 3) := by decide +kernel
theorem dX4_count_4 : decode cX4_count 4 = .ok (.iload_n 1, 1) := by decide +kernel
theorem dX4_count_5 : decode cX4_count 5 = .ok (.iconst 4, 1) := by decide +kernel
theorem dX4_count_6 : decode cX4_count 6 = .ok (.if_icmp .ge 13, 3) := by decide +kernel
theorem dX4_count_9 : decode cX4_count 9 = .ok (.aload_n 0, 1) := by decide +kernel
theorem dX4_count_10 : decode cX4_count 10 = .ok (.getfield 10, 3) := by decide +kernel
theorem dX4_count_13 : decode cX4_count 13 = .ok (.getfield 62, 3) := by decide +kernel
theorem dX4_count_16 : decode cX4_count 16 = .ok (.iload_n 1, 1) := by decide +kernel
theorem dX4_count_17 : decode cX4_count 17 = .ok (.iaload, 1) := by decide +kernel
theorem dX4_count_18 : decode cX4_count 18 = .ok (.ireturn, 1) := by decide +kernel
theorem dX4_count_19 : decode cX4_count 19 = .ok (.iload_n 1, 1) := by decide +kernel
theorem dX4_count_20 : decode cX4_count 20 = .ok (.tableswitch 111 4 9 #[40, 48, 56, 73, 95, 103], 40) := by decide +kernel
theorem dX4_count_60 : decode cX4_count 60 = .ok (.aload_n 0, 1) := by decide +kernel
theorem dX4_count_61 : decode cX4_count 61 = .ok (.getfield 10, 3) := by decide +kernel
theorem dX4_count_64 : decode cX4_count 64 = .ok (.getfield 85, 3) := by decide +kernel
theorem dX4_count_67 : decode cX4_count 67 = .ok (.ireturn, 1) := by decide +kernel
theorem dX4_count_68 : decode cX4_count 68 = .ok (.aload_n 0, 1) := by decide +kernel
theorem dX4_count_69 : decode cX4_count 69 = .ok (.getfield 10, 3) := by decide +kernel
theorem dX4_count_72 : decode cX4_count 72 = .ok (.invokevirtual 158, 3) := by decide +kernel
theorem dX4_count_75 : decode cX4_count 75 = .ok (.ireturn, 1) := by decide +kernel
theorem dX4_count_76 : decode cX4_count 76 = .ok (.aload_n 0, 1) := by decide +kernel
theorem dX4_count_77 : decode cX4_count 77 = .ok (.getfield 10, 3) := by decide +kernel
theorem dX4_count_80 : decode cX4_count 80 = .ok (.invokevirtual 158, 3) := by decide +kernel
theorem dX4_count_83 : decode cX4_count 83 = .ok (.aload_n 0, 1) := by decide +kernel
theorem dX4_count_84 : decode cX4_count 84 = .ok (.getfield 10, 3) := by decide +kernel
theorem dX4_count_87 : decode cX4_count 87 = .ok (.iconst 0, 1) := by decide +kernel
theorem dX4_count_88 : decode cX4_count 88 = .ok (.invokevirtual 126, 3) := by decide +kernel
theorem dX4_count_91 : decode cX4_count 91 = .ok (.isub, 1) := by decide +kernel
theorem dX4_count_92 : decode cX4_count 92 = .ok (.ireturn, 1) := by decide +kernel
theorem dX4_count_93 : decode cX4_count 93 = .ok (.aload_n 0, 1) := by decide +kernel
theorem dX4_count_94 : decode cX4_count 94 = .ok (.iconst 0, 1) := by decide +kernel
theorem dX4_count_95 : decode cX4_count 95 = .ok (.invokevirtual 113, 3) := by decide +kernel
theorem dX4_count_98 : decode cX4_count 98 = .ok (.aload_n 0, 1) := by decide +kernel
theorem dX4_count_99 : decode cX4_count 99 = .ok (.iconst 1, 1) := by decide +kernel
theorem dX4_count_100 : decode cX4_count 100 = .ok (.invokevirtual 113, 3) := by decide +kernel
theorem dX4_count_103 : decode cX4_count 103 = .ok (.invokevirtual 161, 3) := by decide +kernel
theorem dX4_count_106 : decode cX4_count 106 = .ok (.ifCond .eq 7, 3) := by decide +kernel
theorem dX4_count_109 : decode cX4_count 109 = .ok (.iconst 1, 1) := by decide +kernel
theorem dX4_count_110 : decode cX4_count 110 = .ok (.goto 4, 3) := by decide +kernel
theorem dX4_count_113 : decode cX4_count 113 = .ok (.iconst 0, 1) := by decide +kernel
theorem dX4_count_114 : decode cX4_count 114 = .ok (.ireturn, 1) := by decide +kernel
theorem dX4_count_115 : decode cX4_count 115 = .ok (.aload_n 0, 1) := by decide +kernel
theorem dX4_count_116 : decode cX4_count 116 = .ok (.getfield 32, 3) := by decide +kernel
theorem dX4_count_119 : decode cX4_count 119 = .ok (.getfield 95, 3) := by decide +kernel
theorem dX4_count_122 : decode cX4_count 122 = .ok (.ireturn, 1) := by decide +kernel
theorem dX4_count_123 : decode cX4_count 123 = .ok (.aload_n 0, 1) := by decide +kernel
theorem dX4_count_124 : decode cX4_count 124 = .ok (.getfield 39, 3) := by decide +kernel
theorem dX4_count_127 : decode cX4_count 127 = .ok (.getfield 165, 3) := by decide +kernel
theorem dX4_count_130 : decode cX4_count 130 = .ok (.ireturn, 1) := by decide +kernel
theorem dX4_count_131 : decode cX4_count 131 = .ok (.sipush (-1002), 3) := by decide +kernel
theorem dX4_count_134 : decode cX4_count 134 = .ok (.ireturn, 1) := by decide +kernel
theorem dX4_body_0 : decode cX4_body 0 = .ok (.aload_n 0, 1) := by decide +kernel
theorem dX4_body_1 : decode cX4_body 1 = .ok (.iload_n 1, 1) := by decide +kernel
theorem dX4_body_2 : decode cX4_body 2 = .ok (.invokevirtual 98, 3) := by decide +kernel
theorem dX4_body_5 : decode cX4_body 5 = .ok (.ifCond .eq 16, 3) := by decide +kernel
theorem dX4_body_8 : decode cX4_body 8 = .ok (.aload_n 0, 1) := by decide +kernel
theorem dX4_body_9 : decode cX4_body 9 = .ok (.iload_n 2, 1) := by decide +kernel
theorem dX4_body_10 : decode cX4_body 10 = .ok (.invokevirtual 98, 3) := by decide +kernel
theorem dX4_body_13 : decode cX4_body 13 = .ok (.ifCond .eq 8, 3) := by decide +kernel
theorem dX4_body_16 : decode cX4_body 16 = .ok (.iload_n 2, 1) := by decide +kernel
theorem dX4_body_17 : decode cX4_body 17 = .ok (.iload_n 1, 1) := by decide +kernel
theorem dX4_body_18 : decode cX4_body 18 = .ok (.if_icmp .ge 7, 3) := by decide +kernel
theorem dX4_body_21 : decode cX4_body 21 = .ok (.sipush (-1001), 3) := by decide +kernel
theorem dX4_body_24 : decode cX4_body 24 = .ok (.ireturn, 1) := by decide +kernel
theorem dX4_body_25 : decode cX4_body 25 = .ok (.aload_n 0, 1) := by decide +kernel
theorem dX4_body_26 : decode cX4_body 26 = .ok (.getfield 22, 3) := by decide +kernel
theorem dX4_body_29 : decode cX4_body 29 = .ok (.aload_n 0, 1) := by decide +kernel
theorem dX4_body_30 : decode cX4_body 30 = .ok (.getfield 10, 3) := by decide +kernel
theorem dX4_body_33 : decode cX4_body 33 = .ok (.invokevirtual 168, 3) := by decide +kernel
theorem dX4_body_36 : decode cX4_body 36 = .ok (.aload_n 0, 1) := by decide +kernel
theorem dX4_body_37 : decode cX4_body 37 = .ok (.getfield 22, 3) := by decide +kernel
theorem dX4_body_40 : decode cX4_body 40 = .ok (.iload_n 1, 1) := by decide +kernel
theorem dX4_body_41 : decode cX4_body 41 = .ok (.iload_n 2, 1) := by decide +kernel
theorem dX4_body_42 : decode cX4_body 42 = .ok (.invokevirtual 171, 3) := by decide +kernel
theorem dX4_body_45 : decode cX4_body 45 = .ok (.ireturn, 1) := by decide +kernel
theorem dX4_leastMeasure_0 : decode cX4_leastMeasure 0 = .ok (.iload_n 1, 1) := by decide +kernel
theorem dX4_leastMeasure_1 : decode cX4_leastMeasure 1 = .ok (.iconst 1, 1) := by decide +kernel
theorem dX4_leastMeasure_2 : decode cX4_leastMeasure 2 = .ok (.if_icmp .lt 9, 3) := by decide +kernel
theorem dX4_leastMeasure_5 : decode cX4_leastMeasure 5 = .ok (.iload_n 1, 1) := by decide +kernel
theorem dX4_leastMeasure_6 : decode cX4_leastMeasure 6 = .ok (.bipush 24, 2) := by decide +kernel
theorem dX4_leastMeasure_8 : decode cX4_leastMeasure 8 = .ok (.if_icmp .le 7, 3) := by decide +kernel
theorem dX4_leastMeasure_11 : decode cX4_leastMeasure 11 = .ok (.sipush (-1002), 3) := by decide +kernel
theorem dX4_leastMeasure_14 : decode cX4_leastMeasure 14 = .ok (.ireturn, 1) := by decide +kernel
theorem dX4_leastMeasure_15 : decode cX4_leastMeasure 15 = .ok (.aload_n 0, 1) := by decide +kernel
theorem dX4_leastMeasure_16 : decode cX4_leastMeasure 16 = .ok (.getfield 22, 3) := by decide +kernel
theorem dX4_leastMeasure_19 : decode cX4_leastMeasure 19 = .ok (.aload_n 0, 1) := by decide +kernel
theorem dX4_leastMeasure_20 : decode cX4_leastMeasure 20 = .ok (.getfield 10, 3) := by decide +kernel
theorem dX4_leastMeasure_23 : decode cX4_leastMeasure 23 = .ok (.invokevirtual 168, 3) := by decide +kernel
theorem dX4_leastMeasure_26 : decode cX4_leastMeasure 26 = .ok (.getstatic 51, 3) := by decide +kernel
theorem dX4_leastMeasure_29 : decode cX4_leastMeasure 29 = .ok (.iconst 0, 1) := by decide +kernel
theorem dX4_leastMeasure_30 : decode cX4_leastMeasure 30 = .ok (.iaload, 1) := by decide +kernel
theorem dX4_leastMeasure_31 : decode cX4_leastMeasure 31 = .ok (.istore_n 2, 1) := by decide +kernel
theorem dX4_leastMeasure_32 : decode cX4_leastMeasure 32 = .ok (.iload_n 2, 1) := by decide +kernel
theorem dX4_leastMeasure_33 : decode cX4_leastMeasure 33 = .ok (.getstatic 55, 3) := by decide +kernel
theorem dX4_leastMeasure_36 : decode cX4_leastMeasure 36 = .ok (.iconst 0, 1) := by decide +kernel
theorem dX4_leastMeasure_37 : decode cX4_leastMeasure 37 = .ok (.iaload, 1) := by decide +kernel
theorem dX4_leastMeasure_38 : decode cX4_leastMeasure 38 = .ok (.if_icmp .gt 37, 3) := by decide +kernel
theorem dX4_leastMeasure_41 : decode cX4_leastMeasure 41 = .ok (.aload_n 0, 1) := by decide +kernel
theorem dX4_leastMeasure_42 : decode cX4_leastMeasure 42 = .ok (.getfield 22, 3) := by decide +kernel
theorem dX4_leastMeasure_45 : decode cX4_leastMeasure 45 = .ok (.iload_n 2, 1) := by decide +kernel
theorem dX4_leastMeasure_46 : decode cX4_leastMeasure 46 = .ok (.putfield 174, 3) := by decide +kernel
theorem dX4_leastMeasure_49 : decode cX4_leastMeasure 49 = .ok (.aload_n 0, 1) := by decide +kernel
theorem dX4_leastMeasure_50 : decode cX4_leastMeasure 50 = .ok (.getfield 22, 3) := by decide +kernel
theorem dX4_leastMeasure_53 : decode cX4_leastMeasure 53 = .ok (.invokevirtual 177, 3) := by decide +kernel
theorem dX4_leastMeasure_56 : decode cX4_leastMeasure 56 = .ok (.aload_n 0, 1) := by decide +kernel
theorem dX4_leastMeasure_57 : decode cX4_leastMeasure 57 = .ok (.getfield 22, 3) := by decide +kernel
theorem dX4_leastMeasure_60 : decode cX4_leastMeasure 60 = .ok (.getfield 117, 3) := by decide +kernel
theorem dX4_leastMeasure_63 : decode cX4_leastMeasure 63 = .ok (.iload_n 1, 1) := by decide +kernel
theorem dX4_leastMeasure_64 : decode cX4_leastMeasure 64 = .ok (.if_icmp .gt 5, 3) := by decide +kernel
theorem dX4_leastMeasure_67 : decode cX4_leastMeasure 67 = .ok (.iload_n 2, 1) := by decide +kernel
theorem dX4_leastMeasure_68 : decode cX4_leastMeasure 68 = .ok (.ireturn, 1) := by decide +kernel
theorem dX4_leastMeasure_69 : decode cX4_leastMeasure 69 = .ok (.iinc 2 1, 3) := by decide +kernel
theorem dX4_leastMeasure_72 : decode cX4_leastMeasure 72 = .ok (.goto (-40), 3) := by decide +kernel
theorem dX4_leastMeasure_75 : decode cX4_leastMeasure 75 = .ok (.sipush (-1006), 3) := by decide +kernel
theorem dX4_leastMeasure_78 : decode cX4_leastMeasure 78 = .ok (.ireturn, 1) := by decide +kernel
theorem dX4_bestShare_0 : decode cX4_bestShare 0 = .ok (.iload_n 1, 1) := by decide +kernel
theorem dX4_bestShare_1 : decode cX4_bestShare 1 = .ok (.invokestatic 65, 3) := by decide +kernel
theorem dX4_bestShare_4 : decode cX4_bestShare 4 = .ok (.ifCond .ne 7, 3) := by decide +kernel
theorem dX4_bestShare_7 : decode cX4_bestShare 7 = .ok (.sipush (-1001), 3) := by decide +kernel
theorem dX4_bestShare_10 : decode cX4_bestShare 10 = .ok (.ireturn, 1) := by decide +kernel
theorem dX4_bestShare_11 : decode cX4_bestShare 11 = .ok (.aload_n 0, 1) := by decide +kernel
theorem dX4_bestShare_12 : decode cX4_bestShare 12 = .ok (.getfield 16, 3) := by decide +kernel
theorem dX4_bestShare_15 : decode cX4_bestShare 15 = .ok (.aload_n 0, 1) := by decide +kernel
theorem dX4_bestShare_16 : decode cX4_bestShare 16 = .ok (.getfield 10, 3) := by decide +kernel
theorem dX4_bestShare_19 : decode cX4_bestShare 19 = .ok (.invokevirtual 180, 3) := by decide +kernel
theorem dX4_bestShare_22 : decode cX4_bestShare 22 = .ok (.iconst 0, 1) := by decide +kernel
theorem dX4_bestShare_23 : decode cX4_bestShare 23 = .ok (.istore_n 2, 1) := by decide +kernel
theorem dX4_bestShare_24 : decode cX4_bestShare 24 = .ok (.iconst 0, 1) := by decide +kernel
theorem dX4_bestShare_25 : decode cX4_bestShare 25 = .ok (.istore_n 3, 1) := by decide +kernel
theorem dX4_bestShare_26 : decode cX4_bestShare 26 = .ok (.iconst (-1), 1) := by decide +kernel
theorem dX4_bestShare_27 : decode cX4_bestShare 27 = .ok (.istore 4, 2) := by decide +kernel
theorem dX4_bestShare_29 : decode cX4_bestShare 29 = .ok (.iconst 0, 1) := by decide +kernel
theorem dX4_bestShare_30 : decode cX4_bestShare 30 = .ok (.istore 5, 2) := by decide +kernel
theorem dX4_bestShare_32 : decode cX4_bestShare 32 = .ok (.iload 5, 2) := by decide +kernel
theorem dX4_bestShare_34 : decode cX4_bestShare 34 = .ok (.bipush 100, 2) := by decide +kernel
theorem dX4_bestShare_36 : decode cX4_bestShare 36 = .ok (.if_icmp .gt 71, 3) := by decide +kernel
theorem dX4_bestShare_39 : decode cX4_bestShare 39 = .ok (.aload_n 0, 1) := by decide +kernel
theorem dX4_bestShare_40 : decode cX4_bestShare 40 = .ok (.getfield 16, 3) := by decide +kernel
theorem dX4_bestShare_43 : decode cX4_bestShare 43 = .ok (.getfield 78, 3) := by decide +kernel
theorem dX4_bestShare_46 : decode cX4_bestShare 46 = .ok (.iload_n 1, 1) := by decide +kernel
theorem dX4_bestShare_47 : decode cX4_bestShare 47 = .ok (.iload 5, 2) := by decide +kernel
theorem dX4_bestShare_49 : decode cX4_bestShare 49 = .ok (.iastore, 1) := by decide +kernel
theorem dX4_bestShare_50 : decode cX4_bestShare 50 = .ok (.aload_n 0, 1) := by decide +kernel
theorem dX4_bestShare_51 : decode cX4_bestShare 51 = .ok (.getfield 16, 3) := by decide +kernel
theorem dX4_bestShare_54 : decode cX4_bestShare 54 = .ok (.iload_n 1, 1) := by decide +kernel
theorem dX4_bestShare_55 : decode cX4_bestShare 55 = .ok (.invokevirtual 123, 3) := by decide +kernel
theorem dX4_bestShare_58 : decode cX4_bestShare 58 = .ok (.istore 6, 2) := by decide +kernel
theorem dX4_bestShare_60 : decode cX4_bestShare 60 = .ok (.iload 6, 2) := by decide +kernel
theorem dX4_bestShare_62 : decode cX4_bestShare 62 = .ok (.iload 4, 2) := by decide +kernel
theorem dX4_bestShare_64 : decode cX4_bestShare 64 = .ok (.if_icmp .ne 6, 3) := by decide +kernel
theorem dX4_bestShare_67 : decode cX4_bestShare 67 = .ok (.goto 34, 3) := by decide +kernel
theorem dX4_bestShare_70 : decode cX4_bestShare 70 = .ok (.iload 6, 2) := by decide +kernel
theorem dX4_bestShare_72 : decode cX4_bestShare 72 = .ok (.istore 4, 2) := by decide +kernel
theorem dX4_bestShare_74 : decode cX4_bestShare 74 = .ok (.aload_n 0, 1) := by decide +kernel
theorem dX4_bestShare_75 : decode cX4_bestShare 75 = .ok (.aload_n 0, 1) := by decide +kernel
theorem dX4_bestShare_76 : decode cX4_bestShare 76 = .ok (.getfield 16, 3) := by decide +kernel
theorem dX4_bestShare_79 : decode cX4_bestShare 79 = .ok (.invokevirtual 183, 3) := by decide +kernel
theorem dX4_bestShare_82 : decode cX4_bestShare 82 = .ok (.istore 7, 2) := by decide +kernel
theorem dX4_bestShare_84 : decode cX4_bestShare 84 = .ok (.iload 5, 2) := by decide +kernel
theorem dX4_bestShare_86 : decode cX4_bestShare 86 = .ok (.ifCond .eq 9, 3) := by decide +kernel
theorem dX4_bestShare_89 : decode cX4_bestShare 89 = .ok (.iload 7, 2) := by decide +kernel
theorem dX4_bestShare_91 : decode cX4_bestShare 91 = .ok (.iload_n 3, 1) := by decide +kernel
theorem dX4_bestShare_92 : decode cX4_bestShare 92 = .ok (.if_icmp .ge 9, 3) := by decide +kernel
theorem dX4_bestShare_95 : decode cX4_bestShare 95 = .ok (.iload 5, 2) := by decide +kernel
theorem dX4_bestShare_97 : decode cX4_bestShare 97 = .ok (.istore_n 2, 1) := by decide +kernel
theorem dX4_bestShare_98 : decode cX4_bestShare 98 = .ok (.iload 7, 2) := by decide +kernel
theorem dX4_bestShare_100 : decode cX4_bestShare 100 = .ok (.istore_n 3, 1) := by decide +kernel
theorem dX4_bestShare_101 : decode cX4_bestShare 101 = .ok (.iinc 5 1, 3) := by decide +kernel
theorem dX4_bestShare_104 : decode cX4_bestShare 104 = .ok (.goto (-72), 3) := by decide +kernel
theorem dX4_bestShare_107 : decode cX4_bestShare 107 = .ok (.iload_n 2, 1) := by decide +kernel
theorem dX4_bestShare_108 : decode cX4_bestShare 108 = .ok (.ireturn, 1) := by decide +kernel
theorem dX4_worstWord_0 : decode cX4_worstWord 0 = .ok (.sipush (-1006), 3) := by decide +kernel
theorem dX4_worstWord_3 : decode cX4_worstWord 3 = .ok (.istore_n 1, 1) := by decide +kernel
theorem dX4_worstWord_4 : decode cX4_worstWord 4 = .ok (.iconst 0, 1) := by decide +kernel
theorem dX4_worstWord_5 : decode cX4_worstWord 5 = .ok (.istore_n 2, 1) := by decide +kernel
theorem dX4_worstWord_6 : decode cX4_worstWord 6 = .ok (.iconst 0, 1) := by decide +kernel
theorem dX4_worstWord_7 : decode cX4_worstWord 7 = .ok (.istore_n 3, 1) := by decide +kernel
theorem dX4_worstWord_8 : decode cX4_worstWord 8 = .ok (.iload_n 3, 1) := by decide +kernel
theorem dX4_worstWord_9 : decode cX4_worstWord 9 = .ok (.aload_n 0, 1) := by decide +kernel
theorem dX4_worstWord_10 : decode cX4_worstWord 10 = .ok (.getfield 10, 3) := by decide +kernel
theorem dX4_worstWord_13 : decode cX4_worstWord 13 = .ok (.getfield 85, 3) := by decide +kernel
theorem dX4_worstWord_16 : decode cX4_worstWord 16 = .ok (.if_icmp .ge 56, 3) := by decide +kernel
theorem dX4_worstWord_19 : decode cX4_worstWord 19 = .ok (.aload_n 0, 1) := by decide +kernel
theorem dX4_worstWord_20 : decode cX4_worstWord 20 = .ok (.getfield 16, 3) := by decide +kernel
theorem dX4_worstWord_23 : decode cX4_worstWord 23 = .ok (.aload_n 0, 1) := by decide +kernel
theorem dX4_worstWord_24 : decode cX4_worstWord 24 = .ok (.getfield 10, 3) := by decide +kernel
theorem dX4_worstWord_27 : decode cX4_worstWord 27 = .ok (.invokevirtual 180, 3) := by decide +kernel
theorem dX4_worstWord_30 : decode cX4_worstWord 30 = .ok (.aload_n 0, 1) := by decide +kernel
theorem dX4_worstWord_31 : decode cX4_worstWord 31 = .ok (.getfield 16, 3) := by decide +kernel
theorem dX4_worstWord_34 : decode cX4_worstWord 34 = .ok (.iload_n 3, 1) := by decide +kernel
theorem dX4_worstWord_35 : decode cX4_worstWord 35 = .ok (.invokevirtual 105, 3) := by decide +kernel
theorem dX4_worstWord_38 : decode cX4_worstWord 38 = .ok (.aload_n 0, 1) := by decide +kernel
theorem dX4_worstWord_39 : decode cX4_worstWord 39 = .ok (.aload_n 0, 1) := by decide +kernel
theorem dX4_worstWord_40 : decode cX4_worstWord 40 = .ok (.getfield 16, 3) := by decide +kernel
theorem dX4_worstWord_43 : decode cX4_worstWord 43 = .ok (.invokevirtual 183, 3) := by decide +kernel
theorem dX4_worstWord_46 : decode cX4_worstWord 46 = .ok (.istore 4, 2) := by decide +kernel
theorem dX4_worstWord_48 : decode cX4_worstWord 48 = .ok (.iload_n 1, 1) := by decide +kernel
theorem dX4_worstWord_49 : decode cX4_worstWord 49 = .ok (.sipush (-1006), 3) := by decide +kernel
theorem dX4_worstWord_52 : decode cX4_worstWord 52 = .ok (.if_icmp .eq 9, 3) := by decide +kernel
theorem dX4_worstWord_55 : decode cX4_worstWord 55 = .ok (.iload 4, 2) := by decide +kernel
theorem dX4_worstWord_57 : decode cX4_worstWord 57 = .ok (.iload_n 2, 1) := by decide +kernel
theorem dX4_worstWord_58 : decode cX4_worstWord 58 = .ok (.if_icmp .ge 8, 3) := by decide +kernel
theorem dX4_worstWord_61 : decode cX4_worstWord 61 = .ok (.iload_n 3, 1) := by decide +kernel
theorem dX4_worstWord_62 : decode cX4_worstWord 62 = .ok (.istore_n 1, 1) := by decide +kernel
theorem dX4_worstWord_63 : decode cX4_worstWord 63 = .ok (.iload 4, 2) := by decide +kernel
theorem dX4_worstWord_65 : decode cX4_worstWord 65 = .ok (.istore_n 2, 1) := by decide +kernel
theorem dX4_worstWord_66 : decode cX4_worstWord 66 = .ok (.iinc 3 1, 3) := by decide +kernel
theorem dX4_worstWord_69 : decode cX4_worstWord 69 = .ok (.goto (-61), 3) := by decide +kernel
theorem dX4_worstWord_72 : decode cX4_worstWord 72 = .ok (.iload_n 1, 1) := by decide +kernel
theorem dX4_worstWord_73 : decode cX4_worstWord 73 = .ok (.ireturn, 1) := by decide +kernel
theorem dX4_put_0 : decode cX4_put 0 = .ok (.lload_n 1, 1) := by decide +kernel
theorem dX4_put_1 : decode cX4_put 1 = .ok (.invokestatic 187, 3) := by decide +kernel
theorem dX4_put_4 : decode cX4_put 4 = .ok (.istore_n 3, 1) := by decide +kernel
theorem dX4_put_5 : decode cX4_put 5 = .ok (.iload_n 3, 1) := by decide +kernel
theorem dX4_put_6 : decode cX4_put 6 = .ok (.ifCond .ne 7, 3) := by decide +kernel
theorem dX4_put_9 : decode cX4_put 9 = .ok (.sipush (-1002), 3) := by decide +kernel
theorem dX4_put_12 : decode cX4_put 12 = .ok (.ireturn, 1) := by decide +kernel
theorem dX4_put_13 : decode cX4_put 13 = .ok (.aload_n 0, 1) := by decide +kernel
theorem dX4_put_14 : decode cX4_put 14 = .ok (.getfield 32, 3) := by decide +kernel
theorem dX4_put_17 : decode cX4_put 17 = .ok (.getfield 95, 3) := by decide +kernel
theorem dX4_put_20 : decode cX4_put 20 = .ok (.iload_n 3, 1) := by decide +kernel
theorem dX4_put_21 : decode cX4_put 21 = .ok (.iadd, 1) := by decide +kernel
theorem dX4_put_22 : decode cX4_put 22 = .ok (.bipush 60, 2) := by decide +kernel
theorem dX4_put_24 : decode cX4_put 24 = .ok (.if_icmp .le 7, 3) := by decide +kernel
theorem dX4_put_27 : decode cX4_put 27 = .ok (.sipush (-1004), 3) := by decide +kernel
theorem dX4_put_30 : decode cX4_put 30 = .ok (.ireturn, 1) := by decide +kernel
theorem dX4_put_31 : decode cX4_put 31 = .ok (.aload_n 0, 1) := by decide +kernel
theorem dX4_put_32 : decode cX4_put 32 = .ok (.getfield 32, 3) := by decide +kernel
theorem dX4_put_35 : decode cX4_put 35 = .ok (.lload_n 1, 1) := by decide +kernel
theorem dX4_put_36 : decode cX4_put 36 = .ok (.iload_n 3, 1) := by decide +kernel
theorem dX4_put_37 : decode cX4_put 37 = .ok (.invokevirtual 191, 3) := by decide +kernel
theorem dX4_put_40 : decode cX4_put 40 = .ok (.aload_n 0, 1) := by decide +kernel
theorem dX4_put_41 : decode cX4_put 41 = .ok (.getfield 32, 3) := by decide +kernel
theorem dX4_put_44 : decode cX4_put 44 = .ok (.getfield 95, 3) := by decide +kernel
theorem dX4_put_47 : decode cX4_put 47 = .ok (.ireturn, 1) := by decide +kernel
theorem dX4_wipe_0 : decode cX4_wipe 0 = .ok (.aload_n 0, 1) := by decide +kernel
theorem dX4_wipe_1 : decode cX4_wipe 1 = .ok (.getfield 32, 3) := by decide +kernel
theorem dX4_wipe_4 : decode cX4_wipe 4 = .ok (.getfield 95, 3) := by decide +kernel
theorem dX4_wipe_7 : decode cX4_wipe 7 = .ok (.istore_n 1, 1) := by decide +kernel
theorem dX4_wipe_8 : decode cX4_wipe 8 = .ok (.aload_n 0, 1) := by decide +kernel
theorem dX4_wipe_9 : decode cX4_wipe 9 = .ok (.getfield 32, 3) := by decide +kernel
theorem dX4_wipe_12 : decode cX4_wipe 12 = .ok (.iconst 0, 1) := by decide +kernel
theorem dX4_wipe_13 : decode cX4_wipe 13 = .ok (.putfield 95, 3) := by decide +kernel
theorem dX4_wipe_16 : decode cX4_wipe 16 = .ok (.iload_n 1, 1) := by decide +kernel
theorem dX4_wipe_17 : decode cX4_wipe 17 = .ok (.ireturn, 1) := by decide +kernel
theorem dX4_fault_0 : decode cX4_fault 0 = .ok (.aload_n 0, 1) := by decide +kernel
theorem dX4_fault_1 : decode cX4_fault 1 = .ok (.getfield 32, 3) := by decide +kernel
theorem dX4_fault_4 : decode cX4_fault 4 = .ok (.invokevirtual 81, 3) := by decide +kernel
theorem dX4_fault_7 : decode cX4_fault 7 = .ok (.ireturn, 1) := by decide +kernel
theorem dX4_undo_0 : decode cX4_undo 0 = .ok (.aload_n 0, 1) := by decide +kernel
theorem dX4_undo_1 : decode cX4_undo 1 = .ok (.getfield 39, 3) := by decide +kernel
theorem dX4_undo_4 : decode cX4_undo 4 = .ok (.getfield 165, 3) := by decide +kernel
theorem dX4_undo_7 : decode cX4_undo 7 = .ok (.ifCond .ne 7, 3) := by decide +kernel
theorem dX4_undo_10 : decode cX4_undo 10 = .ok (.sipush (-1005), 3) := by decide +kernel
theorem dX4_undo_13 : decode cX4_undo 13 = .ok (.ireturn, 1) := by decide +kernel
theorem dX4_undo_14 : decode cX4_undo 14 = .ok (.aload_n 0, 1) := by decide +kernel
theorem dX4_undo_15 : decode cX4_undo 15 = .ok (.getfield 39, 3) := by decide +kernel
theorem dX4_undo_18 : decode cX4_undo 18 = .ok (.aload_n 0, 1) := by decide +kernel
theorem dX4_undo_19 : decode cX4_undo 19 = .ok (.getfield 10, 3) := by decide +kernel
theorem dX4_undo_22 : decode cX4_undo 22 = .ok (.invokevirtual 195, 3) := by decide +kernel
theorem dX4_undo_25 : decode cX4_undo 25 = .ok (.aload_n 0, 1) := by decide +kernel
theorem dX4_undo_26 : decode cX4_undo 26 = .ok (.getfield 39, 3) := by decide +kernel
theorem dX4_undo_29 : decode cX4_undo 29 = .ok (.getfield 165, 3) := by decide +kernel
theorem dX4_undo_32 : decode cX4_undo 32 = .ok (.ireturn, 1) := by decide +kernel
theorem dX4_save_0 : decode cX4_save 0 = .ok (.iload_n 1, 1) := by decide +kernel
theorem dX4_save_1 : decode cX4_save 1 = .ok (.ifCond .lt 8, 3) := by decide +kernel
theorem dX4_save_4 : decode cX4_save 4 = .ok (.iload_n 1, 1) := by decide +kernel
theorem dX4_save_5 : decode cX4_save 5 = .ok (.iconst 2, 1) := by decide +kernel
theorem dX4_save_6 : decode cX4_save 6 = .ok (.if_icmp .lt 7, 3) := by decide +kernel
theorem dX4_save_9 : decode cX4_save 9 = .ok (.sipush (-1002), 3) := by decide +kernel
theorem dX4_save_12 : decode cX4_save 12 = .ok (.ireturn, 1) := by decide +kernel
theorem dX4_save_13 : decode cX4_save 13 = .ok (.aload_n 0, 1) := by decide +kernel
theorem dX4_save_14 : decode cX4_save 14 = .ok (.getfield 43, 3) := by decide +kernel
theorem dX4_save_17 : decode cX4_save 17 = .ok (.iload_n 1, 1) := by decide +kernel
theorem dX4_save_18 : decode cX4_save 18 = .ok (.aaload, 1) := by decide +kernel
theorem dX4_save_19 : decode cX4_save 19 = .ok (.aload_n 0, 1) := by decide +kernel
theorem dX4_save_20 : decode cX4_save 20 = .ok (.getfield 10, 3) := by decide +kernel
theorem dX4_save_23 : decode cX4_save 23 = .ok (.invokevirtual 180, 3) := by decide +kernel
theorem dX4_save_26 : decode cX4_save 26 = .ok (.aload_n 0, 1) := by decide +kernel
theorem dX4_save_27 : decode cX4_save 27 = .ok (.getfield 47, 3) := by decide +kernel
theorem dX4_save_30 : decode cX4_save 30 = .ok (.iload_n 1, 1) := by decide +kernel
theorem dX4_save_31 : decode cX4_save 31 = .ok (.iconst 1, 1) := by decide +kernel
theorem dX4_save_32 : decode cX4_save 32 = .ok (.bastore, 1) := by decide +kernel
theorem dX4_save_33 : decode cX4_save 33 = .ok (.aload_n 0, 1) := by decide +kernel
theorem dX4_save_34 : decode cX4_save 34 = .ok (.getfield 10, 3) := by decide +kernel
theorem dX4_save_37 : decode cX4_save 37 = .ok (.getfield 85, 3) := by decide +kernel
theorem dX4_save_40 : decode cX4_save 40 = .ok (.ireturn, 1) := by decide +kernel
theorem dX4_restore_0 : decode cX4_restore 0 = .ok (.iload_n 1, 1) := by decide +kernel
theorem dX4_restore_1 : decode cX4_restore 1 = .ok (.ifCond .lt 8, 3) := by decide +kernel
theorem dX4_restore_4 : decode cX4_restore 4 = .ok (.iload_n 1, 1) := by decide +kernel
theorem dX4_restore_5 : decode cX4_restore 5 = .ok (.iconst 2, 1) := by decide +kernel
theorem dX4_restore_6 : decode cX4_restore 6 = .ok (.if_icmp .lt 7, 3) := by decide +kernel
theorem dX4_restore_9 : decode cX4_restore 9 = .ok (.sipush (-1002), 3) := by decide +kernel
theorem dX4_restore_12 : decode cX4_restore 12 = .ok (.ireturn, 1) := by decide +kernel
theorem dX4_restore_13 : decode cX4_restore 13 = .ok (.aload_n 0, 1) := by decide +kernel
theorem dX4_restore_14 : decode cX4_restore 14 = .ok (.getfield 47, 3) := by decide +kernel
theorem dX4_restore_17 : decode cX4_restore 17 = .ok (.iload_n 1, 1) := by decide +kernel
theorem dX4_restore_18 : decode cX4_restore 18 = .ok (.baload, 1) := by decide +kernel
theorem dX4_restore_19 : decode cX4_restore 19 = .ok (.ifCond .ne 7, 3) := by decide +kernel
theorem dX4_restore_22 : decode cX4_restore 22 = .ok (.sipush (-1005), 3) := by decide +kernel
theorem dX4_restore_25 : decode cX4_restore 25 = .ok (.ireturn, 1) := by decide +kernel
theorem dX4_restore_26 : decode cX4_restore 26 = .ok (.aload_n 0, 1) := by decide +kernel
theorem dX4_restore_27 : decode cX4_restore 27 = .ok (.getfield 39, 3) := by decide +kernel
theorem dX4_restore_30 : decode cX4_restore 30 = .ok (.aload_n 0, 1) := by decide +kernel
theorem dX4_restore_31 : decode cX4_restore 31 = .ok (.getfield 10, 3) := by decide +kernel
theorem dX4_restore_34 : decode cX4_restore 34 = .ok (.invokevirtual 58, 3) := by decide +kernel
theorem dX4_restore_37 : decode cX4_restore 37 = .ok (.aload_n 0, 1) := by decide +kernel
theorem dX4_restore_38 : decode cX4_restore 38 = .ok (.getfield 10, 3) := by decide +kernel
theorem dX4_restore_41 : decode cX4_restore 41 = .ok (.aload_n 0, 1) := by decide +kernel
theorem dX4_restore_42 : decode cX4_restore 42 = .ok (.getfield 43, 3) := by decide +kernel
theorem dX4_restore_45 : decode cX4_restore 45 = .ok (.iload_n 1, 1) := by decide +kernel
theorem dX4_restore_46 : decode cX4_restore 46 = .ok (.aaload, 1) := by decide +kernel
theorem dX4_restore_47 : decode cX4_restore 47 = .ok (.invokevirtual 180, 3) := by decide +kernel
theorem dX4_restore_50 : decode cX4_restore 50 = .ok (.aload_n 0, 1) := by decide +kernel
theorem dX4_restore_51 : decode cX4_restore 51 = .ok (.getfield 10, 3) := by decide +kernel
theorem dX4_restore_54 : decode cX4_restore 54 = .ok (.getfield 85, 3) := by decide +kernel
theorem dX4_restore_57 : decode cX4_restore 57 = .ok (.ireturn, 1) := by decide +kernel
theorem dX4_isSort_0 : decode cX4_isSort 0 = .ok (.iload_n 0, 1) := by decide +kernel
theorem dX4_isSort_1 : decode cX4_isSort 1 = .ok (.ifCond .lt 13, 3) := by decide +kernel
theorem dX4_isSort_4 : decode cX4_isSort 4 = .ok (.iload_n 0, 1) := by decide +kernel
theorem dX4_isSort_5 : decode cX4_isSort 5 = .ok (.bipush 8, 2) := by decide +kernel
theorem dX4_isSort_7 : decode cX4_isSort 7 = .ok (.if_icmp .ge 7, 3) := by decide +kernel
theorem dX4_isSort_10 : decode cX4_isSort 10 = .ok (.iconst 1, 1) := by decide +kernel
theorem dX4_isSort_11 : decode cX4_isSort 11 = .ok (.goto 4, 3) := by decide +kernel
theorem dX4_isSort_14 : decode cX4_isSort 14 = .ok (.iconst 0, 1) := by decide +kernel
theorem dX4_isSort_15 : decode cX4_isSort 15 = .ok (.ireturn, 1) := by decide +kernel
theorem dX4_isShare_0 : decode cX4_isShare 0 = .ok (.iload_n 0, 1) := by decide +kernel
theorem dX4_isShare_1 : decode cX4_isShare 1 = .ok (.ifCond .lt 13, 3) := by decide +kernel
theorem dX4_isShare_4 : decode cX4_isShare 4 = .ok (.iload_n 0, 1) := by decide +kernel
theorem dX4_isShare_5 : decode cX4_isShare 5 = .ok (.bipush 100, 2) := by decide +kernel
theorem dX4_isShare_7 : decode cX4_isShare 7 = .ok (.if_icmp .gt 7, 3) := by decide +kernel
theorem dX4_isShare_10 : decode cX4_isShare 10 = .ok (.iconst 1, 1) := by decide +kernel
theorem dX4_isShare_11 : decode cX4_isShare 11 = .ok (.goto 4, 3) := by decide +kernel
theorem dX4_isShare_14 : decode cX4_isShare 14 = .ok (.iconst 0, 1) := by decide +kernel
theorem dX4_isShare_15 : decode cX4_isShare 15 = .ok (.ireturn, 1) := by decide +kernel
theorem dX4_isWay_0 : decode cX4_isWay 0 = .ok (.iload_n 0, 1) := by decide +kernel
theorem dX4_isWay_1 : decode cX4_isWay 1 = .ok (.ifCond .lt 12, 3) := by decide +kernel
theorem dX4_isWay_4 : decode cX4_isWay 4 = .ok (.iload_n 0, 1) := by decide +kernel
theorem dX4_isWay_5 : decode cX4_isWay 5 = .ok (.iconst 2, 1) := by decide +kernel
theorem dX4_isWay_6 : decode cX4_isWay 6 = .ok (.if_icmp .ge 7, 3) := by decide +kernel
theorem dX4_isWay_9 : decode cX4_isWay 9 = .ok (.iconst 1, 1) := by decide +kernel
theorem dX4_isWay_10 : decode cX4_isWay 10 = .ok (.goto 4, 3) := by decide +kernel
theorem dX4_isWay_13 : decode cX4_isWay 13 = .ok (.iconst 0, 1) := by decide +kernel
theorem dX4_isWay_14 : decode cX4_isWay 14 = .ok (.ireturn, 1) := by decide +kernel
theorem dX4_isWord_0 : decode cX4_isWord 0 = .ok (.iload_n 1, 1) := by decide +kernel
theorem dX4_isWord_1 : decode cX4_isWord 1 = .ok (.ifCond .lt 18, 3) := by decide +kernel
theorem dX4_isWord_4 : decode cX4_isWord 4 = .ok (.iload_n 1, 1) := by decide +kernel
theorem dX4_isWord_5 : decode cX4_isWord 5 = .ok (.aload_n 0, 1) := by decide +kernel
theorem dX4_isWord_6 : decode cX4_isWord 6 = .ok (.getfield 10, 3) := by decide +kernel
theorem dX4_isWord_9 : decode cX4_isWord 9 = .ok (.getfield 85, 3) := by decide +kernel
theorem dX4_isWord_12 : decode cX4_isWord 12 = .ok (.if_icmp .ge 7, 3) := by decide +kernel
theorem dX4_isWord_15 : decode cX4_isWord 15 = .ok (.iconst 1, 1) := by decide +kernel
theorem dX4_isWord_16 : decode cX4_isWord 16 = .ok (.goto 4, 3) := by decide +kernel
theorem dX4_isWord_19 : decode cX4_isWord 19 = .ok (.iconst 0, 1) := by decide +kernel
theorem dX4_isWord_20 : decode cX4_isWord 20 = .ok (.ireturn, 1) := by decide +kernel
theorem dX4_sortWith_0 : decode cX4_sortWith 0 = .ok (.iload_n 0, 1) := by decide +kernel
theorem dX4_sortWith_1 : decode cX4_sortWith 1 = .ok (.bipush 97, 2) := by decide +kernel
theorem dX4_sortWith_3 : decode cX4_sortWith 3 = .ok (.if_icmp .lt 11, 3) := by decide +kernel
theorem dX4_sortWith_6 : decode cX4_sortWith 6 = .ok (.iload_n 0, 1) := by decide +kernel
theorem dX4_sortWith_7 : decode cX4_sortWith 7 = .ok (.bipush 122, 2) := by decide +kernel
theorem dX4_sortWith_9 : decode cX4_sortWith 9 = .ok (.if_icmp .gt 5, 3) := by decide +kernel
theorem dX4_sortWith_12 : decode cX4_sortWith 12 = .ok (.iconst 0, 1) := by decide +kernel
theorem dX4_sortWith_13 : decode cX4_sortWith 13 = .ok (.ireturn, 1) := by decide +kernel
theorem dX4_sortWith_14 : decode cX4_sortWith 14 = .ok (.iload_n 0, 1) := by decide +kernel
theorem dX4_sortWith_15 : decode cX4_sortWith 15 = .ok (.lookupswitch 81 #[(33, 78), (39, 75), (44, 67), (45, 73), (46, 65), (58, 71), (59, 69)], 65) := by decide +kernel
theorem dX4_sortWith_80 : decode cX4_sortWith 80 = .ok (.iconst 1, 1) := by decide +kernel
theorem dX4_sortWith_81 : decode cX4_sortWith 81 = .ok (.ireturn, 1) := by decide +kernel
theorem dX4_sortWith_82 : decode cX4_sortWith 82 = .ok (.iconst 2, 1) := by decide +kernel
theorem dX4_sortWith_83 : decode cX4_sortWith 83 = .ok (.ireturn, 1) := by decide +kernel
theorem dX4_sortWith_84 : decode cX4_sortWith 84 = .ok (.iconst 3, 1) := by decide +kernel
theorem dX4_sortWith_85 : decode cX4_sortWith 85 = .ok (.ireturn, 1) := by decide +kernel
theorem dX4_sortWith_86 : decode cX4_sortWith 86 = .ok (.iconst 4, 1) := by decide +kernel
theorem dX4_sortWith_87 : decode cX4_sortWith 87 = .ok (.ireturn, 1) := by decide +kernel
theorem dX4_sortWith_88 : decode cX4_sortWith 88 = .ok (.iconst 5, 1) := by decide +kernel
theorem dX4_sortWith_89 : decode cX4_sortWith 89 = .ok (.ireturn, 1) := by decide +kernel
theorem dX4_sortWith_90 : decode cX4_sortWith 90 = .ok (.bipush 6, 2) := by decide +kernel
theorem dX4_sortWith_92 : decode cX4_sortWith 92 = .ok (.ireturn, 1) := by decide +kernel
theorem dX4_sortWith_93 : decode cX4_sortWith 93 = .ok (.bipush 7, 2) := by decide +kernel
theorem dX4_sortWith_95 : decode cX4_sortWith 95 = .ok (.ireturn, 1) := by decide +kernel
theorem dX4_sortWith_96 : decode cX4_sortWith 96 = .ok (.iconst (-1), 1) := by decide +kernel
theorem dX4_sortWith_97 : decode cX4_sortWith 97 = .ok (.ireturn, 1) := by decide +kernel
theorem dX4_broken_0 : decode cX4_broken 0 = .ok (.iload_n 1, 1) := by decide +kernel
theorem dX4_broken_1 : decode cX4_broken 1 = .ok (.ifCond .ne 10, 3) := by decide +kernel
theorem dX4_broken_4 : decode cX4_broken 4 = .ok (.aload_n 0, 1) := by decide +kernel
theorem dX4_broken_5 : decode cX4_broken 5 = .ok (.getfield 22, 3) := by decide +kernel
theorem dX4_broken_8 : decode cX4_broken 8 = .ok (.goto 7, 3) := by decide +kernel
theorem dX4_broken_11 : decode cX4_broken 11 = .ok (.aload_n 0, 1) := by decide +kernel
theorem dX4_broken_12 : decode cX4_broken 12 = .ok (.getfield 26, 3) := by decide +kernel
theorem dX4_broken_15 : decode cX4_broken 15 = .ok (.astore_n 2, 1) := by decide +kernel
theorem dX4_broken_16 : decode cX4_broken 16 = .ok (.aload_n 2, 1) := by decide +kernel
theorem dX4_broken_17 : decode cX4_broken 17 = .ok (.aload_n 0, 1) := by decide +kernel
theorem dX4_broken_18 : decode cX4_broken 18 = .ok (.getfield 10, 3) := by decide +kernel
theorem dX4_broken_21 : decode cX4_broken 21 = .ok (.invokevirtual 168, 3) := by decide +kernel
theorem dX4_broken_24 : decode cX4_broken 24 = .ok (.iload_n 1, 1) := by decide +kernel
theorem dX4_broken_25 : decode cX4_broken 25 = .ok (.ifCond .ne 10, 3) := by decide +kernel
theorem dX4_broken_28 : decode cX4_broken 28 = .ok (.aload_n 2, 1) := by decide +kernel
theorem dX4_broken_29 : decode cX4_broken 29 = .ok (.invokevirtual 177, 3) := by decide +kernel
theorem dX4_broken_32 : decode cX4_broken 32 = .ok (.goto 7, 3) := by decide +kernel
theorem dX4_broken_35 : decode cX4_broken 35 = .ok (.aload_n 2, 1) := by decide +kernel
theorem dX4_broken_36 : decode cX4_broken 36 = .ok (.invokevirtual 198, 3) := by decide +kernel
theorem dX4_broken_39 : decode cX4_broken 39 = .ok (.aload_n 2, 1) := by decide +kernel
theorem dX4_broken_40 : decode cX4_broken 40 = .ok (.areturn, 1) := by decide +kernel
theorem dX4_leastBadnessOf_0 : decode cX4_leastBadnessOf 0 = .ok (.aload_n 0, 1) := by decide +kernel
theorem dX4_leastBadnessOf_1 : decode cX4_leastBadnessOf 1 = .ok (.getfield 26, 3) := by decide +kernel
theorem dX4_leastBadnessOf_4 : decode cX4_leastBadnessOf 4 = .ok (.aload_n 1, 1) := by decide +kernel
theorem dX4_leastBadnessOf_5 : decode cX4_leastBadnessOf 5 = .ok (.invokevirtual 168, 3) := by decide +kernel
theorem dX4_leastBadnessOf_8 : decode cX4_leastBadnessOf 8 = .ok (.aload_n 0, 1) := by decide +kernel
theorem dX4_leastBadnessOf_9 : decode cX4_leastBadnessOf 9 = .ok (.getfield 26, 3) := by decide +kernel
theorem dX4_leastBadnessOf_12 : decode cX4_leastBadnessOf 12 = .ok (.invokevirtual 201, 3) := by decide +kernel
theorem dX4_leastBadnessOf_15 : decode cX4_leastBadnessOf 15 = .ok (.ireturn, 1) := by decide +kernel
theorem dX5_init_0 : decode cX5_init 0 = .ok (.aload_n 0, 1) := by decide +kernel
theorem dX5_init_1 : decode cX5_init 1 = .ok (.invokespecial 1, 3) := by decide +kernel
theorem dX5_init_4 : decode cX5_init 4 = .ok (.aload_n 0, 1) := by decide +kernel
theorem dX5_init_5 : decode cX5_init 5 = .ok (.sipush 293, 3) := by decide +kernel
theorem dX5_init_8 : decode cX5_init 8 = .ok (.newarray .int, 2) := by decide +kernel
theorem dX5_init_10 : decode cX5_init 10 = .ok (.putfield 7, 3) := by decide +kernel
theorem dX5_init_13 : decode cX5_init 13 = .ok (.aload_n 0, 1) := by decide +kernel
theorem dX5_init_14 : decode cX5_init 14 = .ok (.sipush 293, 3) := by decide +kernel
theorem dX5_init_17 : decode cX5_init 17 = .ok (.newarray .int, 2) := by decide +kernel
theorem dX5_init_19 : decode cX5_init 19 = .ok (.putfield 13, 3) := by decide +kernel
theorem dX5_init_22 : decode cX5_init 22 = .ok (.aload_n 0, 1) := by decide +kernel
theorem dX5_init_23 : decode cX5_init 23 = .ok (.sipush 1758, 3) := by decide +kernel
theorem dX5_init_26 : decode cX5_init 26 = .ok (.newarray .int, 2) := by decide +kernel
theorem dX5_init_28 : decode cX5_init 28 = .ok (.putfield 16, 3) := by decide +kernel
theorem dX5_init_31 : decode cX5_init 31 = .ok (.aload_n 0, 1) := by decide +kernel
theorem dX5_init_32 : decode cX5_init 32 = .ok (.sipush 586, 3) := by decide +kernel
theorem dX5_init_35 : decode cX5_init 35 = .ok (.newarray .int, 2) := by decide +kernel
theorem dX5_init_37 : decode cX5_init 37 = .ok (.putfield 19, 3) := by decide +kernel
theorem dX5_init_40 : decode cX5_init 40 = .ok (.aload_n 0, 1) := by decide +kernel
theorem dX5_init_41 : decode cX5_init 41 = .ok (.iconst 2, 1) := by decide +kernel
theorem dX5_init_42 : decode cX5_init 42 = .ok (.newarray .int, 2) := by decide +kernel
theorem dX5_init_44 : decode cX5_init 44 = .ok (.putfield 22, 3) := by decide +kernel
theorem dX5_init_47 : decode cX5_init 47 = .ok (.aload_n 0, 1) := by decide +kernel
theorem dX5_init_48 : decode cX5_init 48 = .ok (.bipush 25, 2) := by decide +kernel
theorem dX5_init_50 : decode cX5_init 50 = .ok (.newarray .int, 2) := by decide +kernel
theorem dX5_init_52 : decode cX5_init 52 = .ok (.putfield 25, 3) := by decide +kernel
theorem dX5_init_55 : decode cX5_init 55 = .ok (.aload_n 0, 1) := by decide +kernel
theorem dX5_init_56 : decode cX5_init 56 = .ok (.bipush 24, 2) := by decide +kernel
theorem dX5_init_58 : decode cX5_init 58 = .ok (.newarray .int, 2) := by decide +kernel
theorem dX5_init_60 : decode cX5_init 60 = .ok (.putfield 28, 3) := by decide +kernel
theorem dX5_init_63 : decode cX5_init 63 = .ok (.aload_n 0, 1) := by decide +kernel
theorem dX5_init_64 : decode cX5_init 64 = .ok (.bipush 24, 2) := by decide +kernel
theorem dX5_init_66 : decode cX5_init 66 = .ok (.newarray .int, 2) := by decide +kernel
theorem dX5_init_68 : decode cX5_init 68 = .ok (.putfield 31, 3) := by decide +kernel
theorem dX5_init_71 : decode cX5_init 71 = .ok (.aload_n 0, 1) := by decide +kernel
theorem dX5_init_72 : decode cX5_init 72 = .ok (.bipush 25, 2) := by decide +kernel
theorem dX5_init_74 : decode cX5_init 74 = .ok (.newarray .int, 2) := by decide +kernel
theorem dX5_init_76 : decode cX5_init 76 = .ok (.putfield 34, 3) := by decide +kernel
theorem dX5_init_79 : decode cX5_init 79 = .ok (.aload_n 0, 1) := by decide +kernel
theorem dX5_init_80 : decode cX5_init 80 = .ok (.bipush 25, 2) := by decide +kernel
theorem dX5_init_82 : decode cX5_init 82 = .ok (.newarray .int, 2) := by decide +kernel
theorem dX5_init_84 : decode cX5_init 84 = .ok (.putfield 37, 3) := by decide +kernel
theorem dX5_init_87 : decode cX5_init 87 = .ok (.aload_n 0, 1) := by decide +kernel
theorem dX5_init_88 : decode cX5_init 88 = .ok (.bipush 25, 2) := by decide +kernel
theorem dX5_init_90 : decode cX5_init 90 = .ok (.newarray .int, 2) := by decide +kernel
theorem dX5_init_92 : decode cX5_init 92 = .ok (.putfield 40, 3) := by decide +kernel
theorem dX5_init_95 : decode cX5_init 95 = .ok (.aload_n 0, 1) := by decide +kernel
theorem dX5_init_96 : decode cX5_init 96 = .ok (.bipush 60, 2) := by decide +kernel
theorem dX5_init_98 : decode cX5_init 98 = .ok (.newarray .int, 2) := by decide +kernel
theorem dX5_init_100 : decode cX5_init 100 = .ok (.putfield 43, 3) := by decide +kernel
theorem dX5_init_103 : decode cX5_init 103 = .ok (.aload_n 0, 1) := by decide +kernel
theorem dX5_init_104 : decode cX5_init 104 = .ok (.bipush 31, 2) := by decide +kernel
theorem dX5_init_106 : decode cX5_init 106 = .ok (.newarray .int, 2) := by decide +kernel
theorem dX5_init_108 : decode cX5_init 108 = .ok (.putfield 46, 3) := by decide +kernel
theorem dX5_init_111 : decode cX5_init 111 = .ok (.aload_n 0, 1) := by decide +kernel
theorem dX5_init_112 : decode cX5_init 112 = .ok (.bipush 31, 2) := by decide +kernel
theorem dX5_init_114 : decode cX5_init 114 = .ok (.newarray .int, 2) := by decide +kernel
theorem dX5_init_116 : decode cX5_init 116 = .ok (.putfield 49, 3) := by decide +kernel
theorem dX5_init_119 : decode cX5_init 119 = .ok (.aload_n 0, 1) := by decide +kernel
theorem dX5_init_120 : decode cX5_init 120 = .ok (.getfield 7, 3) := by decide +kernel
theorem dX5_init_123 : decode cX5_init 123 = .ok (.iconst 0, 1) := by decide +kernel
theorem dX5_init_124 : decode cX5_init 124 = .ok (.bipush 80, 2) := by decide +kernel
theorem dX5_init_126 : decode cX5_init 126 = .ok (.iastore, 1) := by decide +kernel
theorem dX5_init_127 : decode cX5_init 127 = .ok (.aload_n 0, 1) := by decide +kernel
theorem dX5_init_128 : decode cX5_init 128 = .ok (.getfield 7, 3) := by decide +kernel
theorem dX5_init_131 : decode cX5_init 131 = .ok (.iconst 1, 1) := by decide +kernel
theorem dX5_init_132 : decode cX5_init 132 = .ok (.bipush 6, 2) := by decide +kernel
theorem dX5_init_134 : decode cX5_init 134 = .ok (.iastore, 1) := by decide +kernel
theorem dX5_init_135 : decode cX5_init 135 = .ok (.aload_n 0, 1) := by decide +kernel
theorem dX5_init_136 : decode cX5_init 136 = .ok (.getfield 7, 3) := by decide +kernel
theorem dX5_init_139 : decode cX5_init 139 = .ok (.iconst 2, 1) := by decide +kernel
theorem dX5_init_140 : decode cX5_init 140 = .ok (.bipush 12, 2) := by decide +kernel
theorem dX5_init_142 : decode cX5_init 142 = .ok (.iastore, 1) := by decide +kernel
theorem dX5_init_143 : decode cX5_init 143 = .ok (.aload_n 0, 1) := by decide +kernel
theorem dX5_init_144 : decode cX5_init 144 = .ok (.getfield 7, 3) := by decide +kernel
theorem dX5_init_147 : decode cX5_init 147 = .ok (.iconst 3, 1) := by decide +kernel
theorem dX5_init_148 : decode cX5_init 148 = .ok (.iconst 1, 1) := by decide +kernel
theorem dX5_init_149 : decode cX5_init 149 = .ok (.iastore, 1) := by decide +kernel
theorem dX5_init_150 : decode cX5_init 150 = .ok (.iconst 0, 1) := by decide +kernel
theorem dX5_init_151 : decode cX5_init 151 = .ok (.istore_n 1, 1) := by decide +kernel
theorem dX5_init_152 : decode cX5_init 152 = .ok (.iload_n 1, 1) := by decide +kernel
theorem dX5_init_153 : decode cX5_init 153 = .ok (.bipush 8, 2) := by decide +kernel
theorem dX5_init_155 : decode cX5_init 155 = .ok (.if_icmp .ge 118, 3) := by decide +kernel
theorem dX5_init_158 : decode cX5_init 158 = .ok (.aload_n 0, 1) := by decide +kernel
theorem dX5_init_159 : decode cX5_init 159 = .ok (.getfield 7, 3) := by decide +kernel
theorem dX5_init_162 : decode cX5_init 162 = .ok (.iconst 5, 1) := by decide +kernel
theorem dX5_init_163 : decode cX5_init 163 = .ok (.iload_n 1, 1) := by decide +kernel
theorem dX5_init_164 : decode cX5_init 164 = .ok (.iadd, 1) := by decide +kernel
theorem dX5_init_165 : decode cX5_init 165 = .ok (.iload_n 1, 1) := by decide +kernel
theorem dX5_init_166 : decode cX5_init 166 = .ok (.ifCond .ne 8, 3) := by decide +kernel
theorem dX5_init_169 : decode cX5_init 169 = .ok (.bipush 8, 2) := by decide +kernel
theorem dX5_init_171 : decode cX5_init 171 = .ok (.goto 13, 3) := by decide +kernel
theorem dX5_init_174 : decode cX5_init 174 = .ok (.iload_n 1, 1) := by decide +kernel
theorem dX5_init_175 : decode cX5_init 175 = .ok (.iconst 5, 1) := by decide +kernel
theorem dX5_init_176 : decode cX5_init 176 = .ok (.if_icmp .ne 7, 3) := by decide +kernel
theorem dX5_init_179 : decode cX5_init 179 = .ok (.iconst 5, 1) := by decide +kernel
theorem dX5_init_180 : decode cX5_init 180 = .ok (.goto 4, 3) := by decide +kernel
theorem dX5_init_183 : decode cX5_init 183 = .ok (.iconst 3, 1) := by decide +kernel
theorem dX5_init_184 : decode cX5_init 184 = .ok (.iastore, 1) := by decide +kernel
theorem dX5_init_185 : decode cX5_init 185 = .ok (.aload_n 0, 1) := by decide +kernel
theorem dX5_init_186 : decode cX5_init 186 = .ok (.getfield 7, 3) := by decide +kernel
theorem dX5_init_189 : decode cX5_init 189 = .ok (.bipush 13, 2) := by decide +kernel
theorem dX5_init_191 : decode cX5_init 191 = .ok (.iload_n 1, 1) := by decide +kernel
theorem dX5_init_192 : decode cX5_init 192 = .ok (.iadd, 1) := by decide +kernel
theorem dX5_init_193 : decode cX5_init 193 = .ok (.iload_n 1, 1) := by decide +kernel
theorem dX5_init_194 : decode cX5_init 194 = .ok (.bipush 6, 2) := by decide +kernel
theorem dX5_init_196 : decode cX5_init 196 = .ok (.if_icmp .ne 8, 3) := by decide +kernel
theorem dX5_init_199 : decode cX5_init 199 = .ok (.bipush 60, 2) := by decide +kernel
theorem dX5_init_201 : decode cX5_init 201 = .ok (.goto 4, 3) := by decide +kernel
theorem dX5_init_204 : decode cX5_init 204 = .ok (.iconst 0, 1) := by decide +kernel
theorem dX5_init_205 : decode cX5_init 205 = .ok (.iastore, 1) := by decide +kernel
theorem dX5_init_206 : decode cX5_init 206 = .ok (.aload_n 0, 1) := by decide +kernel
theorem dX5_init_207 : decode cX5_init 207 = .ok (.getfield 7, 3) := by decide +kernel
theorem dX5_init_210 : decode cX5_init 210 = .ok (.bipush 21, 2) := by decide +kernel
theorem dX5_init_212 : decode cX5_init 212 = .ok (.iload_n 1, 1) := by decide +kernel
theorem dX5_init_213 : decode cX5_init 213 = .ok (.iadd, 1) := by decide +kernel
theorem dX5_init_214 : decode cX5_init 214 = .ok (.iload_n 1, 1) := by decide +kernel
theorem dX5_init_215 : decode cX5_init 215 = .ok (.iconst 1, 1) := by decide +kernel
theorem dX5_init_216 : decode cX5_init 216 = .ok (.if_icmp .eq 8, 3) := by decide +kernel
theorem dX5_init_219 : decode cX5_init 219 = .ok (.iload_n 1, 1) := by decide +kernel
theorem dX5_init_220 : decode cX5_init 220 = .ok (.iconst 2, 1) := by decide +kernel
theorem dX5_init_221 : decode cX5_init 221 = .ok (.if_icmp .ne 8, 3) := by decide +kernel
theorem dX5_init_224 : decode cX5_init 224 = .ok (.bipush 100, 2) := by decide +kernel
theorem dX5_init_226 : decode cX5_init 226 = .ok (.goto 40, 3) := by decide +kernel
theorem dX5_init_229 : decode cX5_init 229 = .ok (.iload_n 1, 1) := by decide +kernel
theorem dX5_init_230 : decode cX5_init 230 = .ok (.iconst 3, 1) := by decide +kernel
theorem dX5_init_231 : decode cX5_init 231 = .ok (.if_icmp .eq 8, 3) := by decide +kernel
theorem dX5_init_234 : decode cX5_init 234 = .ok (.iload_n 1, 1) := by decide +kernel
theorem dX5_init_235 : decode cX5_init 235 = .ok (.iconst 4, 1) := by decide +kernel
theorem dX5_init_236 : decode cX5_init 236 = .ok (.if_icmp .ne 8, 3) := by decide +kernel
theorem dX5_init_239 : decode cX5_init 239 = .ok (.bipush 50, 2) := by decide +kernel
theorem dX5_init_241 : decode cX5_init 241 = .ok (.goto 25, 3) := by decide +kernel
theorem dX5_init_244 : decode cX5_init 244 = .ok (.iload_n 1, 1) := by decide +kernel
theorem dX5_init_245 : decode cX5_init 245 = .ok (.iconst 5, 1) := by decide +kernel
theorem dX5_init_246 : decode cX5_init 246 = .ok (.if_icmp .ne 8, 3) := by decide +kernel
theorem dX5_init_249 : decode cX5_init 249 = .ok (.bipush 70, 2) := by decide +kernel
theorem dX5_init_251 : decode cX5_init 251 = .ok (.goto 15, 3) := by decide +kernel
theorem dX5_init_254 : decode cX5_init 254 = .ok (.iload_n 1, 1) := by decide +kernel
theorem dX5_init_255 : decode cX5_init 255 = .ok (.bipush 6, 2) := by decide +kernel
theorem dX5_init_257 : decode cX5_init 257 = .ok (.if_icmp .ne 8, 3) := by decide +kernel
theorem dX5_init_260 : decode cX5_init 260 = .ok (.bipush 60, 2) := by decide +kernel
theorem dX5_init_262 : decode cX5_init 262 = .ok (.goto 4, 3) := by decide +kernel
theorem dX5_init_265 : decode cX5_init 265 = .ok (.iconst 0, 1) := by decide +kernel
theorem dX5_init_266 : decode cX5_init 266 = .ok (.iastore, 1) := by decide +kernel
theorem dX5_init_267 : decode cX5_init 267 = .ok (.iinc 1 1, 3) := by decide +kernel
theorem dX5_init_270 : decode cX5_init 270 = .ok (.goto (-118), 3) := by decide +kernel
theorem dX5_init_273 : decode cX5_init 273 = .ok (.return_, 1) := by decide +kernel
theorem dX5_in_0 : decode cX5_in 0 = .ok (.lload_n 0, 1) := by decide +kernel
theorem dX5_in_1 : decode cX5_in 1 = .ok (.lload_n 2, 1) := by decide +kernel
theorem dX5_in_2 : decode cX5_in 2 = .ok (.lcmp, 1) := by decide +kernel
theorem dX5_in_3 : decode cX5_in 3 = .ok (.ifCond .lt 14, 3) := by decide +kernel
theorem dX5_in_6 : decode cX5_in 6 = .ok (.lload_n 0, 1) := by decide +kernel
theorem dX5_in_7 : decode cX5_in 7 = .ok (.lload 4, 2) := by decide +kernel
theorem dX5_in_9 : decode cX5_in 9 = .ok (.lcmp, 1) := by decide +kernel
theorem dX5_in_10 : decode cX5_in 10 = .ok (.ifCond .gt 7, 3) := by decide +kernel
theorem dX5_in_13 : decode cX5_in 13 = .ok (.iconst 1, 1) := by decide +kernel
theorem dX5_in_14 : decode cX5_in 14 = .ok (.goto 4, 3) := by decide +kernel
theorem dX5_in_17 : decode cX5_in 17 = .ok (.iconst 0, 1) := by decide +kernel
theorem dX5_in_18 : decode cX5_in 18 = .ok (.ireturn, 1) := by decide +kernel
theorem dX5_changes_0 : decode cX5_changes 0 = .ok (.aload_n 0, 1) := by decide +kernel
theorem dX5_changes_1 : decode cX5_changes 1 = .ok (.getfield 52, 3) := by decide +kernel
theorem dX5_changes_4 : decode cX5_changes 4 = .ok (.bipush 6, 2) := by decide +kernel
theorem dX5_changes_6 : decode cX5_changes 6 = .ok (.if_icmp .ne 44, 3) := by decide +kernel
theorem dX5_changes_9 : decode cX5_changes 9 = .ok (.iconst 0, 1) := by decide +kernel
theorem dX5_changes_10 : decode cX5_changes 10 = .ok (.istore_n 1, 1) := by decide +kernel
theorem dX5_changes_11 : decode cX5_changes 11 = .ok (.iload_n 1, 1) := by decide +kernel
theorem dX5_changes_12 : decode cX5_changes 12 = .ok (.sipush 1465, 3) := by decide +kernel
theorem dX5_changes_15 : decode cX5_changes 15 = .ok (.if_icmp .ge 25, 3) := by decide +kernel
theorem dX5_changes_18 : decode cX5_changes 18 = .ok (.aload_n 0, 1) := by decide +kernel
theorem dX5_changes_19 : decode cX5_changes 19 = .ok (.getfield 16, 3) := by decide +kernel
theorem dX5_changes_22 : decode cX5_changes 22 = .ok (.iload_n 1, 1) := by decide +kernel
theorem dX5_changes_23 : decode cX5_changes 23 = .ok (.aload_n 0, 1) := by decide +kernel
theorem dX5_changes_24 : decode cX5_changes 24 = .ok (.getfield 16, 3) := by decide +kernel
theorem dX5_changes_27 : decode cX5_changes 27 = .ok (.iload_n 1, 1) := by decide +kernel
theorem dX5_changes_28 : decode cX5_changes 28 = .ok (.sipush 293, 3) := by decide +kernel
theorem dX5_changes_31 : decode cX5_changes 31 = .ok (.iadd, 1) := by decide +kernel
theorem dX5_changes_32 : decode cX5_changes 32 = .ok (.iaload, 1) := by decide +kernel
theorem dX5_changes_33 : decode cX5_changes 33 = .ok (.iastore, 1) := by decide +kernel
theorem dX5_changes_34 : decode cX5_changes 34 = .ok (.iinc 1 1, 3) := by decide +kernel
theorem dX5_changes_37 : decode cX5_changes 37 = .ok (.goto (-26), 3) := by decide +kernel
theorem dX5_changes_40 : decode cX5_changes 40 = .ok (.aload_n 0, 1) := by decide +kernel
theorem dX5_changes_41 : decode cX5_changes 41 = .ok (.dup, 1) := by decide +kernel
theorem dX5_changes_42 : decode cX5_changes 42 = .ok (.getfield 52, 3) := by decide +kernel
theorem dX5_changes_45 : decode cX5_changes 45 = .ok (.iconst 1, 1) := by decide +kernel
theorem dX5_changes_46 : decode cX5_changes 46 = .ok (.isub, 1) := by decide +kernel
theorem dX5_changes_47 : decode cX5_changes 47 = .ok (.putfield 52, 3) := by decide +kernel
theorem dX5_changes_50 : decode cX5_changes 50 = .ok (.iconst 0, 1) := by decide +kernel
theorem dX5_changes_51 : decode cX5_changes 51 = .ok (.istore_n 1, 1) := by decide +kernel
theorem dX5_changes_52 : decode cX5_changes 52 = .ok (.iload_n 1, 1) := by decide +kernel
theorem dX5_changes_53 : decode cX5_changes 53 = .ok (.sipush 293, 3) := by decide +kernel
theorem dX5_changes_56 : decode cX5_changes 56 = .ok (.if_icmp .ge 30, 3) := by decide +kernel
theorem dX5_changes_59 : decode cX5_changes 59 = .ok (.aload_n 0, 1) := by decide +kernel
theorem dX5_changes_60 : decode cX5_changes 60 = .ok (.getfield 16, 3) := by decide +kernel
theorem dX5_changes_63 : decode cX5_changes 63 = .ok (.sipush 293, 3) := by decide +kernel
theorem dX5_changes_66 : decode cX5_changes 66 = .ok (.aload_n 0, 1) := by decide +kernel
theorem dX5_changes_67 : decode cX5_changes 67 = .ok (.getfield 52, 3) := by decide +kernel
theorem dX5_changes_70 : decode cX5_changes 70 = .ok (.imul, 1) := by decide +kernel
theorem dX5_changes_71 : decode cX5_changes 71 = .ok (.iload_n 1, 1) := by decide +kernel
theorem dX5_changes_72 : decode cX5_changes 72 = .ok (.iadd, 1) := by decide +kernel
theorem dX5_changes_73 : decode cX5_changes 73 = .ok (.aload_n 0, 1) := by decide +kernel
theorem dX5_changes_74 : decode cX5_changes 74 = .ok (.getfield 7, 3) := by decide +kernel
theorem dX5_changes_77 : decode cX5_changes 77 = .ok (.iload_n 1, 1) := by decide +kernel
theorem dX5_changes_78 : decode cX5_changes 78 = .ok (.iaload, 1) := by decide +kernel
theorem dX5_changes_79 : decode cX5_changes 79 = .ok (.iastore, 1) := by decide +kernel
theorem dX5_changes_80 : decode cX5_changes 80 = .ok (.iinc 1 1, 3) := by decide +kernel
theorem dX5_changes_83 : decode cX5_changes 83 = .ok (.goto (-31), 3) := by decide +kernel
theorem dX5_changes_86 : decode cX5_changes 86 = .ok (.aload_n 0, 1) := by decide +kernel
theorem dX5_changes_87 : decode cX5_changes 87 = .ok (.dup, 1) := by decide +kernel
theorem dX5_changes_88 : decode cX5_changes 88 = .ok (.getfield 52, 3) := by decide +kernel
theorem dX5_changes_91 : decode cX5_changes 91 = .ok (.iconst 1, 1) := by decide +kernel
theorem dX5_changes_92 : decode cX5_changes 92 = .ok (.iadd, 1) := by decide +kernel
theorem dX5_changes_93 : decode cX5_changes 93 = .ok (.putfield 52, 3) := by decide +kernel
theorem dX5_changes_96 : decode cX5_changes 96 = .ok (.return_, 1) := by decide +kernel
theorem dX5_keeps_0 : decode cX5_keeps 0 = .ok (.iconst 0, 1) := by decide +kernel
theorem dX5_keeps_1 : decode cX5_keeps 1 = .ok (.istore_n 1, 1) := by decide +kernel
theorem dX5_keeps_2 : decode cX5_keeps 2 = .ok (.iload_n 1, 1) := by decide +kernel
theorem dX5_keeps_3 : decode cX5_keeps 3 = .ok (.sipush 293, 3) := by decide +kernel
theorem dX5_keeps_6 : decode cX5_keeps 6 = .ok (.if_icmp .ge 21, 3) := by decide +kernel
theorem dX5_keeps_9 : decode cX5_keeps 9 = .ok (.aload_n 0, 1) := by decide +kernel
theorem dX5_keeps_10 : decode cX5_keeps 10 = .ok (.getfield 13, 3) := by decide +kernel
theorem dX5_keeps_13 : decode cX5_keeps 13 = .ok (.iload_n 1, 1) := by decide +kernel
theorem dX5_keeps_14 : decode cX5_keeps 14 = .ok (.aload_n 0, 1) := by decide +kernel
theorem dX5_keeps_15 : decode cX5_keeps 15 = .ok (.getfield 7, 3) := by decide +kernel
theorem dX5_keeps_18 : decode cX5_keeps 18 = .ok (.iload_n 1, 1) := by decide +kernel
end
section
theorem dX5_keeps_19 : decode cX5_keeps 19 = .ok (.iaload, 1) := by decide +kernel
theorem dX5_keeps_20 : decode cX5_keeps 20 = .ok (.iastore, 1) := by decide +kernel
theorem dX5_keeps_21 : decode cX5_keeps 21 = .ok (.iinc 1 1, 3) := by decide +kernel
theorem dX5_keeps_24 : decode cX5_keeps 24 = .ok (.goto (-22), 3) := by decide +kernel
theorem dX5_keeps_27 : decode cX5_keeps 27 = .ok (.return_, 1) := by decide +kernel
theorem dX5_comesBack_0 : decode cX5_comesBack 0 = .ok (.iconst 0, 1) := by decide +kernel
theorem dX5_comesBack_1 : decode cX5_comesBack 1 = .ok (.istore_n 1, 1) := by decide +kernel
theorem dX5_comesBack_2 : decode cX5_comesBack 2 = .ok (.iload_n 1, 1) := by decide +kernel
theorem dX5_comesBack_3 : decode cX5_comesBack 3 = .ok (.sipush 293, 3) := by decide +kernel
theorem dX5_comesBack_6 : decode cX5_comesBack 6 = .ok (.if_icmp .ge 21, 3) := by decide +kernel
theorem dX5_comesBack_9 : decode cX5_comesBack 9 = .ok (.aload_n 0, 1) := by decide +kernel
theorem dX5_comesBack_10 : decode cX5_comesBack 10 = .ok (.getfield 7, 3) := by decide +kernel
theorem dX5_comesBack_13 : decode cX5_comesBack 13 = .ok (.iload_n 1, 1) := by decide +kernel
theorem dX5_comesBack_14 : decode cX5_comesBack 14 = .ok (.aload_n 0, 1) := by decide +kernel
theorem dX5_comesBack_15 : decode cX5_comesBack 15 = .ok (.getfield 13, 3) := by decide +kernel
theorem dX5_comesBack_18 : decode cX5_comesBack 18 = .ok (.iload_n 1, 1) := by decide +kernel
theorem dX5_comesBack_19 : decode cX5_comesBack 19 = .ok (.iaload, 1) := by decide +kernel
theorem dX5_comesBack_20 : decode cX5_comesBack 20 = .ok (.iastore, 1) := by decide +kernel
theorem dX5_comesBack_21 : decode cX5_comesBack 21 = .ok (.iinc 1 1, 3) := by decide +kernel
theorem dX5_comesBack_24 : decode cX5_comesBack 24 = .ok (.goto (-22), 3) := by decide +kernel
theorem dX5_comesBack_27 : decode cX5_comesBack 27 = .ok (.return_, 1) := by decide +kernel
theorem dX5_isSort_0 : decode cX5_isSort 0 = .ok (.iload_n 0, 1) := by decide +kernel
theorem dX5_isSort_1 : decode cX5_isSort 1 = .ok (.i2l, 1) := by decide +kernel
theorem dX5_isSort_2 : decode cX5_isSort 2 = .ok (.lconst 0, 1) := by decide +kernel
theorem dX5_isSort_3 : decode cX5_isSort 3 = .ok (.ldc2_w 56, 3) := by decide +kernel
theorem dX5_isSort_6 : decode cX5_isSort 6 = .ok (.invokestatic 58, 3) := by decide +kernel
theorem dX5_isSort_9 : decode cX5_isSort 9 = .ok (.ireturn, 1) := by decide +kernel
theorem dX5_sortBy_0 : decode cX5_sortBy 0 = .ok (.iload_n 0, 1) := by decide +kernel
theorem dX5_sortBy_1 : decode cX5_sortBy 1 = .ok (.lookupswitch 83 #[(33, 80), (39, 77), (44, 69), (45, 75), (46, 67), (58, 73), (59, 71)], 67) := by decide +kernel
theorem dX5_sortBy_68 : decode cX5_sortBy 68 = .ok (.iconst 1, 1) := by decide +kernel
theorem dX5_sortBy_69 : decode cX5_sortBy 69 = .ok (.ireturn, 1) := by decide +kernel
theorem dX5_sortBy_70 : decode cX5_sortBy 70 = .ok (.iconst 2, 1) := by decide +kernel
theorem dX5_sortBy_71 : decode cX5_sortBy 71 = .ok (.ireturn, 1) := by decide +kernel
theorem dX5_sortBy_72 : decode cX5_sortBy 72 = .ok (.iconst 3, 1) := by decide +kernel
theorem dX5_sortBy_73 : decode cX5_sortBy 73 = .ok (.ireturn, 1) := by decide +kernel
theorem dX5_sortBy_74 : decode cX5_sortBy 74 = .ok (.iconst 4, 1) := by decide +kernel
theorem dX5_sortBy_75 : decode cX5_sortBy 75 = .ok (.ireturn, 1) := by decide +kernel
theorem dX5_sortBy_76 : decode cX5_sortBy 76 = .ok (.iconst 5, 1) := by decide +kernel
theorem dX5_sortBy_77 : decode cX5_sortBy 77 = .ok (.ireturn, 1) := by decide +kernel
theorem dX5_sortBy_78 : decode cX5_sortBy 78 = .ok (.bipush 6, 2) := by decide +kernel
theorem dX5_sortBy_80 : decode cX5_sortBy 80 = .ok (.ireturn, 1) := by decide +kernel
theorem dX5_sortBy_81 : decode cX5_sortBy 81 = .ok (.bipush 7, 2) := by decide +kernel
theorem dX5_sortBy_83 : decode cX5_sortBy 83 = .ok (.ireturn, 1) := by decide +kernel
theorem dX5_sortBy_84 : decode cX5_sortBy 84 = .ok (.iload_n 0, 1) := by decide +kernel
theorem dX5_sortBy_85 : decode cX5_sortBy 85 = .ok (.i2l, 1) := by decide +kernel
theorem dX5_sortBy_86 : decode cX5_sortBy 86 = .ok (.ldc2_w 62, 3) := by decide +kernel
theorem dX5_sortBy_89 : decode cX5_sortBy 89 = .ok (.ldc2_w 64, 3) := by decide +kernel
theorem dX5_sortBy_92 : decode cX5_sortBy 92 = .ok (.invokestatic 58, 3) := by decide +kernel
theorem dX5_sortBy_95 : decode cX5_sortBy 95 = .ok (.ifCond .eq 7, 3) := by decide +kernel
theorem dX5_sortBy_98 : decode cX5_sortBy 98 = .ok (.iconst 0, 1) := by decide +kernel
theorem dX5_sortBy_99 : decode cX5_sortBy 99 = .ok (.goto 6, 3) := by decide +kernel
theorem dX5_sortBy_102 : decode cX5_sortBy 102 = .ok (.sipush (-1006), 3) := by decide +kernel
theorem dX5_sortBy_105 : decode cX5_sortBy 105 = .ok (.ireturn, 1) := by decide +kernel
theorem dX5_isWord_0 : decode cX5_isWord 0 = .ok (.iload_n 1, 1) := by decide +kernel
theorem dX5_isWord_1 : decode cX5_isWord 1 = .ok (.i2l, 1) := by decide +kernel
theorem dX5_isWord_2 : decode cX5_isWord 2 = .ok (.lconst 0, 1) := by decide +kernel
theorem dX5_isWord_3 : decode cX5_isWord 3 = .ok (.aload_n 0, 1) := by decide +kernel
theorem dX5_isWord_4 : decode cX5_isWord 4 = .ok (.getfield 7, 3) := by decide +kernel
theorem dX5_isWord_7 : decode cX5_isWord 7 = .ok (.iconst 4, 1) := by decide +kernel
theorem dX5_isWord_8 : decode cX5_isWord 8 = .ok (.iaload, 1) := by decide +kernel
theorem dX5_isWord_9 : decode cX5_isWord 9 = .ok (.i2l, 1) := by decide +kernel
theorem dX5_isWord_10 : decode cX5_isWord 10 = .ok (.lconst 1, 1) := by decide +kernel
theorem dX5_isWord_11 : decode cX5_isWord 11 = .ok (.lsub, 1) := by decide +kernel
theorem dX5_isWord_12 : decode cX5_isWord 12 = .ok (.invokestatic 58, 3) := by decide +kernel
theorem dX5_isWord_15 : decode cX5_isWord 15 = .ok (.ireturn, 1) := by decide +kernel
theorem dX5_signs_0 : decode cX5_signs 0 = .ok (.aload_n 0, 1) := by decide +kernel
theorem dX5_signs_1 : decode cX5_signs 1 = .ok (.getfield 7, 3) := by decide +kernel
theorem dX5_signs_4 : decode cX5_signs 4 = .ok (.bipush 29, 2) := by decide +kernel
theorem dX5_signs_6 : decode cX5_signs 6 = .ok (.bipush 11, 2) := by decide +kernel
theorem dX5_signs_8 : decode cX5_signs 8 = .ok (.iload_n 1, 1) := by decide +kernel
theorem dX5_signs_9 : decode cX5_signs 9 = .ok (.imul, 1) := by decide +kernel
theorem dX5_signs_10 : decode cX5_signs 10 = .ok (.iadd, 1) := by decide +kernel
theorem dX5_signs_11 : decode cX5_signs 11 = .ok (.iaload, 1) := by decide +kernel
theorem dX5_signs_12 : decode cX5_signs 12 = .ok (.ireturn, 1) := by decide +kernel
theorem dX5_signAt_0 : decode cX5_signAt 0 = .ok (.aload_n 0, 1) := by decide +kernel
theorem dX5_signAt_1 : decode cX5_signAt 1 = .ok (.getfield 7, 3) := by decide +kernel
theorem dX5_signAt_4 : decode cX5_signAt 4 = .ok (.bipush 29, 2) := by decide +kernel
theorem dX5_signAt_6 : decode cX5_signAt 6 = .ok (.bipush 11, 2) := by decide +kernel
theorem dX5_signAt_8 : decode cX5_signAt 8 = .ok (.iload_n 1, 1) := by decide +kernel
theorem dX5_signAt_9 : decode cX5_signAt 9 = .ok (.imul, 1) := by decide +kernel
theorem dX5_signAt_10 : decode cX5_signAt 10 = .ok (.iadd, 1) := by decide +kernel
theorem dX5_signAt_11 : decode cX5_signAt 11 = .ok (.iconst 1, 1) := by decide +kernel
theorem dX5_signAt_12 : decode cX5_signAt 12 = .ok (.iadd, 1) := by decide +kernel
theorem dX5_signAt_13 : decode cX5_signAt 13 = .ok (.iload_n 2, 1) := by decide +kernel
theorem dX5_signAt_14 : decode cX5_signAt 14 = .ok (.iadd, 1) := by decide +kernel
theorem dX5_signAt_15 : decode cX5_signAt 15 = .ok (.iaload, 1) := by decide +kernel
theorem dX5_signAt_16 : decode cX5_signAt 16 = .ok (.ireturn, 1) := by decide +kernel
theorem dX5_widthOf_0 : decode cX5_widthOf 0 = .ok (.iconst 0, 1) := by decide +kernel
theorem dX5_widthOf_1 : decode cX5_widthOf 1 = .ok (.istore_n 2, 1) := by decide +kernel
theorem dX5_widthOf_2 : decode cX5_widthOf 2 = .ok (.iconst 0, 1) := by decide +kernel
theorem dX5_widthOf_3 : decode cX5_widthOf 3 = .ok (.istore_n 3, 1) := by decide +kernel
theorem dX5_widthOf_4 : decode cX5_widthOf 4 = .ok (.iload_n 3, 1) := by decide +kernel
theorem dX5_widthOf_5 : decode cX5_widthOf 5 = .ok (.aload_n 0, 1) := by decide +kernel
theorem dX5_widthOf_6 : decode cX5_widthOf 6 = .ok (.iload_n 1, 1) := by decide +kernel
theorem dX5_widthOf_7 : decode cX5_widthOf 7 = .ok (.invokevirtual 66, 3) := by decide +kernel
theorem dX5_widthOf_10 : decode cX5_widthOf 10 = .ok (.if_icmp .ge 28, 3) := by decide +kernel
theorem dX5_widthOf_13 : decode cX5_widthOf 13 = .ok (.iload_n 2, 1) := by decide +kernel
theorem dX5_widthOf_14 : decode cX5_widthOf 14 = .ok (.aload_n 0, 1) := by decide +kernel
theorem dX5_widthOf_15 : decode cX5_widthOf 15 = .ok (.getfield 7, 3) := by decide +kernel
theorem dX5_widthOf_18 : decode cX5_widthOf 18 = .ok (.iconst 5, 1) := by decide +kernel
theorem dX5_widthOf_19 : decode cX5_widthOf 19 = .ok (.aload_n 0, 1) := by decide +kernel
theorem dX5_widthOf_20 : decode cX5_widthOf 20 = .ok (.iload_n 1, 1) := by decide +kernel
theorem dX5_widthOf_21 : decode cX5_widthOf 21 = .ok (.iload_n 3, 1) := by decide +kernel
theorem dX5_widthOf_22 : decode cX5_widthOf 22 = .ok (.invokevirtual 70, 3) := by decide +kernel
theorem dX5_widthOf_25 : decode cX5_widthOf 25 = .ok (.invokestatic 74, 3) := by decide +kernel
theorem dX5_widthOf_28 : decode cX5_widthOf 28 = .ok (.iadd, 1) := by decide +kernel
theorem dX5_widthOf_29 : decode cX5_widthOf 29 = .ok (.iaload, 1) := by decide +kernel
theorem dX5_widthOf_30 : decode cX5_widthOf 30 = .ok (.iadd, 1) := by decide +kernel
theorem dX5_widthOf_31 : decode cX5_widthOf 31 = .ok (.istore_n 2, 1) := by decide +kernel
theorem dX5_widthOf_32 : decode cX5_widthOf 32 = .ok (.iinc 3 1, 3) := by decide +kernel
theorem dX5_widthOf_35 : decode cX5_widthOf 35 = .ok (.goto (-31), 3) := by decide +kernel
theorem dX5_widthOf_38 : decode cX5_widthOf 38 = .ok (.iload_n 2, 1) := by decide +kernel
theorem dX5_widthOf_39 : decode cX5_widthOf 39 = .ok (.ireturn, 1) := by decide +kernel
theorem dX5_hang_0 : decode cX5_hang 0 = .ok (.aload_n 0, 1) := by decide +kernel
theorem dX5_hang_1 : decode cX5_hang 1 = .ok (.getfield 7, 3) := by decide +kernel
theorem dX5_hang_4 : decode cX5_hang 4 = .ok (.iconst 3, 1) := by decide +kernel
theorem dX5_hang_5 : decode cX5_hang 5 = .ok (.iaload, 1) := by decide +kernel
theorem dX5_hang_6 : decode cX5_hang 6 = .ok (.ifCond .ne 7, 3) := by decide +kernel
theorem dX5_hang_9 : decode cX5_hang 9 = .ok (.iconst 0, 1) := by decide +kernel
theorem dX5_hang_10 : decode cX5_hang 10 = .ok (.goto 23, 3) := by decide +kernel
theorem dX5_hang_13 : decode cX5_hang 13 = .ok (.aload_n 0, 1) := by decide +kernel
theorem dX5_hang_14 : decode cX5_hang 14 = .ok (.getfield 7, 3) := by decide +kernel
theorem dX5_hang_17 : decode cX5_hang 17 = .ok (.iconst 5, 1) := by decide +kernel
theorem dX5_hang_18 : decode cX5_hang 18 = .ok (.iload_n 1, 1) := by decide +kernel
theorem dX5_hang_19 : decode cX5_hang 19 = .ok (.iadd, 1) := by decide +kernel
theorem dX5_hang_20 : decode cX5_hang 20 = .ok (.iaload, 1) := by decide +kernel
theorem dX5_hang_21 : decode cX5_hang 21 = .ok (.aload_n 0, 1) := by decide +kernel
theorem dX5_hang_22 : decode cX5_hang 22 = .ok (.getfield 7, 3) := by decide +kernel
theorem dX5_hang_25 : decode cX5_hang 25 = .ok (.iload_n 2, 1) := by decide +kernel
theorem dX5_hang_26 : decode cX5_hang 26 = .ok (.iload_n 1, 1) := by decide +kernel
theorem dX5_hang_27 : decode cX5_hang 27 = .ok (.iadd, 1) := by decide +kernel
theorem dX5_hang_28 : decode cX5_hang 28 = .ok (.iaload, 1) := by decide +kernel
theorem dX5_hang_29 : decode cX5_hang 29 = .ok (.imul, 1) := by decide +kernel
theorem dX5_hang_30 : decode cX5_hang 30 = .ok (.bipush 100, 2) := by decide +kernel
theorem dX5_hang_32 : decode cX5_hang 32 = .ok (.idiv, 1) := by decide +kernel
theorem dX5_hang_33 : decode cX5_hang 33 = .ok (.ireturn, 1) := by decide +kernel
theorem dX5_hangsLeft_0 : decode cX5_hangsLeft 0 = .ok (.aload_n 0, 1) := by decide +kernel
theorem dX5_hangsLeft_1 : decode cX5_hangsLeft 1 = .ok (.aload_n 0, 1) := by decide +kernel
theorem dX5_hangsLeft_2 : decode cX5_hangsLeft 2 = .ok (.iload_n 1, 1) := by decide +kernel
theorem dX5_hangsLeft_3 : decode cX5_hangsLeft 3 = .ok (.iconst 0, 1) := by decide +kernel
theorem dX5_hangsLeft_4 : decode cX5_hangsLeft 4 = .ok (.invokevirtual 70, 3) := by decide +kernel
theorem dX5_hangsLeft_7 : decode cX5_hangsLeft 7 = .ok (.invokestatic 74, 3) := by decide +kernel
theorem dX5_hangsLeft_10 : decode cX5_hangsLeft 10 = .ok (.bipush 13, 2) := by decide +kernel
theorem dX5_hangsLeft_12 : decode cX5_hangsLeft 12 = .ok (.invokevirtual 77, 3) := by decide +kernel
theorem dX5_hangsLeft_15 : decode cX5_hangsLeft 15 = .ok (.ireturn, 1) := by decide +kernel
theorem dX5_hangsRight_0 : decode cX5_hangsRight 0 = .ok (.aload_n 0, 1) := by decide +kernel
theorem dX5_hangsRight_1 : decode cX5_hangsRight 1 = .ok (.aload_n 0, 1) := by decide +kernel
theorem dX5_hangsRight_2 : decode cX5_hangsRight 2 = .ok (.iload_n 1, 1) := by decide +kernel
theorem dX5_hangsRight_3 : decode cX5_hangsRight 3 = .ok (.aload_n 0, 1) := by decide +kernel
theorem dX5_hangsRight_4 : decode cX5_hangsRight 4 = .ok (.iload_n 1, 1) := by decide +kernel
theorem dX5_hangsRight_5 : decode cX5_hangsRight 5 = .ok (.invokevirtual 66, 3) := by decide +kernel
theorem dX5_hangsRight_8 : decode cX5_hangsRight 8 = .ok (.iconst 1, 1) := by decide +kernel
theorem dX5_hangsRight_9 : decode cX5_hangsRight 9 = .ok (.isub, 1) := by decide +kernel
theorem dX5_hangsRight_10 : decode cX5_hangsRight 10 = .ok (.invokevirtual 70, 3) := by decide +kernel
theorem dX5_hangsRight_13 : decode cX5_hangsRight 13 = .ok (.invokestatic 74, 3) := by decide +kernel
theorem dX5_hangsRight_16 : decode cX5_hangsRight 16 = .ok (.bipush 21, 2) := by decide +kernel
theorem dX5_hangsRight_18 : decode cX5_hangsRight 18 = .ok (.invokevirtual 77, 3) := by decide +kernel
theorem dX5_hangsRight_21 : decode cX5_hangsRight 21 = .ok (.ireturn, 1) := by decide +kernel
theorem dX5_measures_0 : decode cX5_measures 0 = .ok (.iconst 0, 1) := by decide +kernel
theorem dX5_measures_1 : decode cX5_measures 1 = .ok (.istore_n 1, 1) := by decide +kernel
theorem dX5_measures_2 : decode cX5_measures 2 = .ok (.iload_n 1, 1) := by decide +kernel
theorem dX5_measures_3 : decode cX5_measures 3 = .ok (.aload_n 0, 1) := by decide +kernel
theorem dX5_measures_4 : decode cX5_measures 4 = .ok (.getfield 7, 3) := by decide +kernel
theorem dX5_measures_7 : decode cX5_measures 7 = .ok (.iconst 4, 1) := by decide +kernel
theorem dX5_measures_8 : decode cX5_measures 8 = .ok (.iaload, 1) := by decide +kernel
theorem dX5_measures_9 : decode cX5_measures 9 = .ok (.if_icmp .ge 51, 3) := by decide +kernel
theorem dX5_measures_12 : decode cX5_measures 12 = .ok (.aload_n 0, 1) := by decide +kernel
theorem dX5_measures_13 : decode cX5_measures 13 = .ok (.getfield 25, 3) := by decide +kernel
theorem dX5_measures_16 : decode cX5_measures 16 = .ok (.iload_n 1, 1) := by decide +kernel
theorem dX5_measures_17 : decode cX5_measures 17 = .ok (.iconst 1, 1) := by decide +kernel
theorem dX5_measures_18 : decode cX5_measures 18 = .ok (.iadd, 1) := by decide +kernel
theorem dX5_measures_19 : decode cX5_measures 19 = .ok (.aload_n 0, 1) := by decide +kernel
theorem dX5_measures_20 : decode cX5_measures 20 = .ok (.getfield 25, 3) := by decide +kernel
theorem dX5_measures_23 : decode cX5_measures 23 = .ok (.iload_n 1, 1) := by decide +kernel
theorem dX5_measures_24 : decode cX5_measures 24 = .ok (.iaload, 1) := by decide +kernel
theorem dX5_measures_25 : decode cX5_measures 25 = .ok (.aload_n 0, 1) := by decide +kernel
theorem dX5_measures_26 : decode cX5_measures 26 = .ok (.iload_n 1, 1) := by decide +kernel
theorem dX5_measures_27 : decode cX5_measures 27 = .ok (.invokevirtual 80, 3) := by decide +kernel
theorem dX5_measures_30 : decode cX5_measures 30 = .ok (.iadd, 1) := by decide +kernel
theorem dX5_measures_31 : decode cX5_measures 31 = .ok (.iastore, 1) := by decide +kernel
theorem dX5_measures_32 : decode cX5_measures 32 = .ok (.aload_n 0, 1) := by decide +kernel
theorem dX5_measures_33 : decode cX5_measures 33 = .ok (.getfield 28, 3) := by decide +kernel
theorem dX5_measures_36 : decode cX5_measures 36 = .ok (.iload_n 1, 1) := by decide +kernel
theorem dX5_measures_37 : decode cX5_measures 37 = .ok (.aload_n 0, 1) := by decide +kernel
theorem dX5_measures_38 : decode cX5_measures 38 = .ok (.iload_n 1, 1) := by decide +kernel
theorem dX5_measures_39 : decode cX5_measures 39 = .ok (.invokevirtual 83, 3) := by decide +kernel
theorem dX5_measures_42 : decode cX5_measures 42 = .ok (.iastore, 1) := by decide +kernel
theorem dX5_measures_43 : decode cX5_measures 43 = .ok (.aload_n 0, 1) := by decide +kernel
theorem dX5_measures_44 : decode cX5_measures 44 = .ok (.getfield 31, 3) := by decide +kernel
theorem dX5_measures_47 : decode cX5_measures 47 = .ok (.iload_n 1, 1) := by decide +kernel
theorem dX5_measures_48 : decode cX5_measures 48 = .ok (.aload_n 0, 1) := by decide +kernel
theorem dX5_measures_49 : decode cX5_measures 49 = .ok (.iload_n 1, 1) := by decide +kernel
theorem dX5_measures_50 : decode cX5_measures 50 = .ok (.invokevirtual 86, 3) := by decide +kernel
theorem dX5_measures_53 : decode cX5_measures 53 = .ok (.iastore, 1) := by decide +kernel
theorem dX5_measures_54 : decode cX5_measures 54 = .ok (.iinc 1 1, 3) := by decide +kernel
theorem dX5_measures_57 : decode cX5_measures 57 = .ok (.goto (-55), 3) := by decide +kernel
theorem dX5_measures_60 : decode cX5_measures 60 = .ok (.return_, 1) := by decide +kernel
theorem dX5_widthOfLine_0 : decode cX5_widthOfLine 0 = .ok (.iload_n 2, 1) := by decide +kernel
theorem dX5_widthOfLine_1 : decode cX5_widthOfLine 1 = .ok (.iload_n 1, 1) := by decide +kernel
theorem dX5_widthOfLine_2 : decode cX5_widthOfLine 2 = .ok (.isub, 1) := by decide +kernel
theorem dX5_widthOfLine_3 : decode cX5_widthOfLine 3 = .ok (.aload_n 0, 1) := by decide +kernel
theorem dX5_widthOfLine_4 : decode cX5_widthOfLine 4 = .ok (.getfield 7, 3) := by decide +kernel
theorem dX5_widthOfLine_7 : decode cX5_widthOfLine 7 = .ok (.iconst 1, 1) := by decide +kernel
theorem dX5_widthOfLine_8 : decode cX5_widthOfLine 8 = .ok (.iaload, 1) := by decide +kernel
theorem dX5_widthOfLine_9 : decode cX5_widthOfLine 9 = .ok (.imul, 1) := by decide +kernel
theorem dX5_widthOfLine_10 : decode cX5_widthOfLine 10 = .ok (.aload_n 0, 1) := by decide +kernel
theorem dX5_widthOfLine_11 : decode cX5_widthOfLine 11 = .ok (.getfield 25, 3) := by decide +kernel
theorem dX5_widthOfLine_14 : decode cX5_widthOfLine 14 = .ok (.iload_n 2, 1) := by decide +kernel
theorem dX5_widthOfLine_15 : decode cX5_widthOfLine 15 = .ok (.iconst 1, 1) := by decide +kernel
theorem dX5_widthOfLine_16 : decode cX5_widthOfLine 16 = .ok (.iadd, 1) := by decide +kernel
theorem dX5_widthOfLine_17 : decode cX5_widthOfLine 17 = .ok (.iaload, 1) := by decide +kernel
theorem dX5_widthOfLine_18 : decode cX5_widthOfLine 18 = .ok (.iadd, 1) := by decide +kernel
theorem dX5_widthOfLine_19 : decode cX5_widthOfLine 19 = .ok (.aload_n 0, 1) := by decide +kernel
theorem dX5_widthOfLine_20 : decode cX5_widthOfLine 20 = .ok (.getfield 25, 3) := by decide +kernel
theorem dX5_widthOfLine_23 : decode cX5_widthOfLine 23 = .ok (.iload_n 1, 1) := by decide +kernel
theorem dX5_widthOfLine_24 : decode cX5_widthOfLine 24 = .ok (.iaload, 1) := by decide +kernel
theorem dX5_widthOfLine_25 : decode cX5_widthOfLine 25 = .ok (.isub, 1) := by decide +kernel
theorem dX5_widthOfLine_26 : decode cX5_widthOfLine 26 = .ok (.ireturn, 1) := by decide +kernel
theorem dX5_bodyOf_0 : decode cX5_bodyOf 0 = .ok (.aload_n 0, 1) := by decide +kernel
theorem dX5_bodyOf_1 : decode cX5_bodyOf 1 = .ok (.iload_n 1, 1) := by decide +kernel
theorem dX5_bodyOf_2 : decode cX5_bodyOf 2 = .ok (.iload_n 2, 1) := by decide +kernel
theorem dX5_bodyOf_3 : decode cX5_bodyOf 3 = .ok (.invokevirtual 89, 3) := by decide +kernel
theorem dX5_bodyOf_6 : decode cX5_bodyOf 6 = .ok (.aload_n 0, 1) := by decide +kernel
theorem dX5_bodyOf_7 : decode cX5_bodyOf 7 = .ok (.getfield 28, 3) := by decide +kernel
theorem dX5_bodyOf_10 : decode cX5_bodyOf 10 = .ok (.iload_n 1, 1) := by decide +kernel
theorem dX5_bodyOf_11 : decode cX5_bodyOf 11 = .ok (.iaload, 1) := by decide +kernel
theorem dX5_bodyOf_12 : decode cX5_bodyOf 12 = .ok (.isub, 1) := by decide +kernel
theorem dX5_bodyOf_13 : decode cX5_bodyOf 13 = .ok (.aload_n 0, 1) := by decide +kernel
theorem dX5_bodyOf_14 : decode cX5_bodyOf 14 = .ok (.getfield 31, 3) := by decide +kernel
theorem dX5_bodyOf_17 : decode cX5_bodyOf 17 = .ok (.iload_n 2, 1) := by decide +kernel
theorem dX5_bodyOf_18 : decode cX5_bodyOf 18 = .ok (.iaload, 1) := by decide +kernel
theorem dX5_bodyOf_19 : decode cX5_bodyOf 19 = .ok (.isub, 1) := by decide +kernel
theorem dX5_bodyOf_20 : decode cX5_bodyOf 20 = .ok (.ireturn, 1) := by decide +kernel
theorem dX5_badnessOf_0 : decode cX5_badnessOf 0 = .ok (.aload_n 0, 1) := by decide +kernel
theorem dX5_badnessOf_1 : decode cX5_badnessOf 1 = .ok (.getfield 7, 3) := by decide +kernel
theorem dX5_badnessOf_4 : decode cX5_badnessOf 4 = .ok (.iconst 0, 1) := by decide +kernel
theorem dX5_badnessOf_5 : decode cX5_badnessOf 5 = .ok (.iaload, 1) := by decide +kernel
theorem dX5_badnessOf_6 : decode cX5_badnessOf 6 = .ok (.aload_n 0, 1) := by decide +kernel
theorem dX5_badnessOf_7 : decode cX5_badnessOf 7 = .ok (.iload_n 1, 1) := by decide +kernel
theorem dX5_badnessOf_8 : decode cX5_badnessOf 8 = .ok (.iload_n 2, 1) := by decide +kernel
theorem dX5_badnessOf_9 : decode cX5_badnessOf 9 = .ok (.invokevirtual 92, 3) := by decide +kernel
theorem dX5_badnessOf_12 : decode cX5_badnessOf 12 = .ok (.isub, 1) := by decide +kernel
theorem dX5_badnessOf_13 : decode cX5_badnessOf 13 = .ok (.istore_n 3, 1) := by decide +kernel
theorem dX5_badnessOf_14 : decode cX5_badnessOf 14 = .ok (.iload_n 3, 1) := by decide +kernel
theorem dX5_badnessOf_15 : decode cX5_badnessOf 15 = .ok (.ifCond .ge 9, 3) := by decide +kernel
theorem dX5_badnessOf_18 : decode cX5_badnessOf 18 = .ok (.sipush 10000, 3) := by decide +kernel
theorem dX5_badnessOf_21 : decode cX5_badnessOf 21 = .ok (.goto 22, 3) := by decide +kernel
theorem dX5_badnessOf_24 : decode cX5_badnessOf 24 = .ok (.iload_n 2, 1) := by decide +kernel
theorem dX5_badnessOf_25 : decode cX5_badnessOf 25 = .ok (.aload_n 0, 1) := by decide +kernel
theorem dX5_badnessOf_26 : decode cX5_badnessOf 26 = .ok (.getfield 7, 3) := by decide +kernel
theorem dX5_badnessOf_29 : decode cX5_badnessOf 29 = .ok (.iconst 4, 1) := by decide +kernel
theorem dX5_badnessOf_30 : decode cX5_badnessOf 30 = .ok (.iaload, 1) := by decide +kernel
theorem dX5_badnessOf_31 : decode cX5_badnessOf 31 = .ok (.iconst 1, 1) := by decide +kernel
theorem dX5_badnessOf_32 : decode cX5_badnessOf 32 = .ok (.isub, 1) := by decide +kernel
theorem dX5_badnessOf_33 : decode cX5_badnessOf 33 = .ok (.if_icmp .ne 7, 3) := by decide +kernel
theorem dX5_badnessOf_36 : decode cX5_badnessOf 36 = .ok (.iconst 0, 1) := by decide +kernel
theorem dX5_badnessOf_37 : decode cX5_badnessOf 37 = .ok (.goto 6, 3) := by decide +kernel
theorem dX5_badnessOf_40 : decode cX5_badnessOf 40 = .ok (.iload_n 3, 1) := by decide +kernel
theorem dX5_badnessOf_41 : decode cX5_badnessOf 41 = .ok (.iload_n 3, 1) := by decide +kernel
theorem dX5_badnessOf_42 : decode cX5_badnessOf 42 = .ok (.imul, 1) := by decide +kernel
theorem dX5_badnessOf_43 : decode cX5_badnessOf 43 = .ok (.ireturn, 1) := by decide +kernel
theorem dX5_fills_0 : decode cX5_fills 0 = .ok (.aload_n 0, 1) := by decide +kernel
theorem dX5_fills_1 : decode cX5_fills 1 = .ok (.invokevirtual 95, 3) := by decide +kernel
theorem dX5_fills_4 : decode cX5_fills 4 = .ok (.aload_n 0, 1) := by decide +kernel
theorem dX5_fills_5 : decode cX5_fills 5 = .ok (.iconst 0, 1) := by decide +kernel
theorem dX5_fills_6 : decode cX5_fills 6 = .ok (.putfield 98, 3) := by decide +kernel
theorem dX5_fills_9 : decode cX5_fills 9 = .ok (.iconst 0, 1) := by decide +kernel
theorem dX5_fills_10 : decode cX5_fills 10 = .ok (.istore_n 1, 1) := by decide +kernel
theorem dX5_fills_11 : decode cX5_fills 11 = .ok (.iload_n 1, 1) := by decide +kernel
theorem dX5_fills_12 : decode cX5_fills 12 = .ok (.aload_n 0, 1) := by decide +kernel
theorem dX5_fills_13 : decode cX5_fills 13 = .ok (.getfield 7, 3) := by decide +kernel
theorem dX5_fills_16 : decode cX5_fills 16 = .ok (.iconst 4, 1) := by decide +kernel
theorem dX5_fills_17 : decode cX5_fills 17 = .ok (.iaload, 1) := by decide +kernel
theorem dX5_fills_18 : decode cX5_fills 18 = .ok (.if_icmp .ge 67, 3) := by decide +kernel
theorem dX5_fills_21 : decode cX5_fills 21 = .ok (.iload_n 1, 1) := by decide +kernel
theorem dX5_fills_22 : decode cX5_fills 22 = .ok (.istore_n 2, 1) := by decide +kernel
theorem dX5_fills_23 : decode cX5_fills 23 = .ok (.iload_n 2, 1) := by decide +kernel
theorem dX5_fills_24 : decode cX5_fills 24 = .ok (.iconst 1, 1) := by decide +kernel
theorem dX5_fills_25 : decode cX5_fills 25 = .ok (.iadd, 1) := by decide +kernel
theorem dX5_fills_26 : decode cX5_fills 26 = .ok (.aload_n 0, 1) := by decide +kernel
theorem dX5_fills_27 : decode cX5_fills 27 = .ok (.getfield 7, 3) := by decide +kernel
theorem dX5_fills_30 : decode cX5_fills 30 = .ok (.iconst 4, 1) := by decide +kernel
theorem dX5_fills_31 : decode cX5_fills 31 = .ok (.iaload, 1) := by decide +kernel
theorem dX5_fills_32 : decode cX5_fills 32 = .ok (.if_icmp .ge 26, 3) := by decide +kernel
theorem dX5_fills_35 : decode cX5_fills 35 = .ok (.aload_n 0, 1) := by decide +kernel
theorem dX5_fills_36 : decode cX5_fills 36 = .ok (.iload_n 1, 1) := by decide +kernel
theorem dX5_fills_37 : decode cX5_fills 37 = .ok (.iload_n 2, 1) := by decide +kernel
theorem dX5_fills_38 : decode cX5_fills 38 = .ok (.iconst 1, 1) := by decide +kernel
theorem dX5_fills_39 : decode cX5_fills 39 = .ok (.iadd, 1) := by decide +kernel
theorem dX5_fills_40 : decode cX5_fills 40 = .ok (.invokevirtual 92, 3) := by decide +kernel
theorem dX5_fills_43 : decode cX5_fills 43 = .ok (.aload_n 0, 1) := by decide +kernel
theorem dX5_fills_44 : decode cX5_fills 44 = .ok (.getfield 7, 3) := by decide +kernel
theorem dX5_fills_47 : decode cX5_fills 47 = .ok (.iconst 0, 1) := by decide +kernel
theorem dX5_fills_48 : decode cX5_fills 48 = .ok (.iaload, 1) := by decide +kernel
theorem dX5_fills_49 : decode cX5_fills 49 = .ok (.if_icmp .gt 9, 3) := by decide +kernel
theorem dX5_fills_52 : decode cX5_fills 52 = .ok (.iinc 2 1, 3) := by decide +kernel
theorem dX5_fills_55 : decode cX5_fills 55 = .ok (.goto (-32), 3) := by decide +kernel
theorem dX5_fills_58 : decode cX5_fills 58 = .ok (.aload_n 0, 1) := by decide +kernel
theorem dX5_fills_59 : decode cX5_fills 59 = .ok (.getfield 34, 3) := by decide +kernel
theorem dX5_fills_62 : decode cX5_fills 62 = .ok (.aload_n 0, 1) := by decide +kernel
theorem dX5_fills_63 : decode cX5_fills 63 = .ok (.getfield 98, 3) := by decide +kernel
theorem dX5_fills_66 : decode cX5_fills 66 = .ok (.iload_n 1, 1) := by decide +kernel
theorem dX5_fills_67 : decode cX5_fills 67 = .ok (.iastore, 1) := by decide +kernel
theorem dX5_fills_68 : decode cX5_fills 68 = .ok (.aload_n 0, 1) := by decide +kernel
theorem dX5_fills_69 : decode cX5_fills 69 = .ok (.dup, 1) := by decide +kernel
theorem dX5_fills_70 : decode cX5_fills 70 = .ok (.getfield 98, 3) := by decide +kernel
theorem dX5_fills_73 : decode cX5_fills 73 = .ok (.iconst 1, 1) := by decide +kernel
theorem dX5_fills_74 : decode cX5_fills 74 = .ok (.iadd, 1) := by decide +kernel
theorem dX5_fills_75 : decode cX5_fills 75 = .ok (.putfield 98, 3) := by decide +kernel
theorem dX5_fills_78 : decode cX5_fills 78 = .ok (.iload_n 2, 1) := by decide +kernel
theorem dX5_fills_79 : decode cX5_fills 79 = .ok (.iconst 1, 1) := by decide +kernel
theorem dX5_fills_80 : decode cX5_fills 80 = .ok (.iadd, 1) := by decide +kernel
theorem dX5_fills_81 : decode cX5_fills 81 = .ok (.istore_n 1, 1) := by decide +kernel
theorem dX5_fills_82 : decode cX5_fills 82 = .ok (.goto (-71), 3) := by decide +kernel
theorem dX5_fills_85 : decode cX5_fills 85 = .ok (.aload_n 0, 1) := by decide +kernel
theorem dX5_fills_86 : decode cX5_fills 86 = .ok (.getfield 34, 3) := by decide +kernel
theorem dX5_fills_89 : decode cX5_fills 89 = .ok (.aload_n 0, 1) := by decide +kernel
theorem dX5_fills_90 : decode cX5_fills 90 = .ok (.getfield 98, 3) := by decide +kernel
theorem dX5_fills_93 : decode cX5_fills 93 = .ok (.aload_n 0, 1) := by decide +kernel
theorem dX5_fills_94 : decode cX5_fills 94 = .ok (.getfield 7, 3) := by decide +kernel
theorem dX5_fills_97 : decode cX5_fills 97 = .ok (.iconst 4, 1) := by decide +kernel
theorem dX5_fills_98 : decode cX5_fills 98 = .ok (.iaload, 1) := by decide +kernel
theorem dX5_fills_99 : decode cX5_fills 99 = .ok (.iastore, 1) := by decide +kernel
theorem dX5_fills_100 : decode cX5_fills 100 = .ok (.return_, 1) := by decide +kernel
theorem dX5_worksOutFrom_0 : decode cX5_worksOutFrom 0 = .ok (.aload_n 0, 1) := by decide +kernel
theorem dX5_worksOutFrom_1 : decode cX5_worksOutFrom 1 = .ok (.getfield 40, 3) := by decide +kernel
theorem dX5_worksOutFrom_4 : decode cX5_worksOutFrom 4 = .ok (.iload_n 1, 1) := by decide +kernel
theorem dX5_worksOutFrom_5 : decode cX5_worksOutFrom 5 = .ok (.iconst 0, 1) := by decide +kernel
theorem dX5_worksOutFrom_6 : decode cX5_worksOutFrom 6 = .ok (.iastore, 1) := by decide +kernel
theorem dX5_worksOutFrom_7 : decode cX5_worksOutFrom 7 = .ok (.iload_n 1, 1) := by decide +kernel
theorem dX5_worksOutFrom_8 : decode cX5_worksOutFrom 8 = .ok (.istore_n 2, 1) := by decide +kernel
theorem dX5_worksOutFrom_9 : decode cX5_worksOutFrom 9 = .ok (.iload_n 2, 1) := by decide +kernel
theorem dX5_worksOutFrom_10 : decode cX5_worksOutFrom 10 = .ok (.aload_n 0, 1) := by decide +kernel
theorem dX5_worksOutFrom_11 : decode cX5_worksOutFrom 11 = .ok (.getfield 7, 3) := by decide +kernel
theorem dX5_worksOutFrom_14 : decode cX5_worksOutFrom 14 = .ok (.iconst 4, 1) := by decide +kernel
theorem dX5_worksOutFrom_15 : decode cX5_worksOutFrom 15 = .ok (.iaload, 1) := by decide +kernel
theorem dX5_worksOutFrom_16 : decode cX5_worksOutFrom 16 = .ok (.if_icmp .ge 82, 3) := by decide +kernel
theorem dX5_worksOutFrom_19 : decode cX5_worksOutFrom 19 = .ok (.iload_n 2, 1) := by decide +kernel
theorem dX5_worksOutFrom_20 : decode cX5_worksOutFrom 20 = .ok (.iload_n 1, 1) := by decide +kernel
theorem dX5_worksOutFrom_21 : decode cX5_worksOutFrom 21 = .ok (.if_icmp .eq 18, 3) := by decide +kernel
theorem dX5_worksOutFrom_24 : decode cX5_worksOutFrom 24 = .ok (.aload_n 0, 1) := by decide +kernel
theorem dX5_worksOutFrom_25 : decode cX5_worksOutFrom 25 = .ok (.iload_n 1, 1) := by decide +kernel
theorem dX5_worksOutFrom_26 : decode cX5_worksOutFrom 26 = .ok (.iload_n 2, 1) := by decide +kernel
theorem dX5_worksOutFrom_27 : decode cX5_worksOutFrom 27 = .ok (.invokevirtual 92, 3) := by decide +kernel
theorem dX5_worksOutFrom_30 : decode cX5_worksOutFrom 30 = .ok (.aload_n 0, 1) := by decide +kernel
theorem dX5_worksOutFrom_31 : decode cX5_worksOutFrom 31 = .ok (.getfield 7, 3) := by decide +kernel
theorem dX5_worksOutFrom_34 : decode cX5_worksOutFrom 34 = .ok (.iconst 0, 1) := by decide +kernel
theorem dX5_worksOutFrom_35 : decode cX5_worksOutFrom 35 = .ok (.iaload, 1) := by decide +kernel
theorem dX5_worksOutFrom_36 : decode cX5_worksOutFrom 36 = .ok (.if_icmp .gt 62, 3) := by decide +kernel
theorem dX5_worksOutFrom_39 : decode cX5_worksOutFrom 39 = .ok (.aload_n 0, 1) := by decide +kernel
theorem dX5_worksOutFrom_40 : decode cX5_worksOutFrom 40 = .ok (.iload_n 1, 1) := by decide +kernel
theorem dX5_worksOutFrom_41 : decode cX5_worksOutFrom 41 = .ok (.iload_n 2, 1) := by decide +kernel
theorem dX5_worksOutFrom_42 : decode cX5_worksOutFrom 42 = .ok (.invokevirtual 101, 3) := by decide +kernel
theorem dX5_worksOutFrom_45 : decode cX5_worksOutFrom 45 = .ok (.aload_n 0, 1) := by decide +kernel
theorem dX5_worksOutFrom_46 : decode cX5_worksOutFrom 46 = .ok (.getfield 37, 3) := by decide +kernel
theorem dX5_worksOutFrom_49 : decode cX5_worksOutFrom 49 = .ok (.iload_n 2, 1) := by decide +kernel
theorem dX5_worksOutFrom_50 : decode cX5_worksOutFrom 50 = .ok (.iconst 1, 1) := by decide +kernel
theorem dX5_worksOutFrom_51 : decode cX5_worksOutFrom 51 = .ok (.iadd, 1) := by decide +kernel
theorem dX5_worksOutFrom_52 : decode cX5_worksOutFrom 52 = .ok (.iaload, 1) := by decide +kernel
theorem dX5_worksOutFrom_53 : decode cX5_worksOutFrom 53 = .ok (.iadd, 1) := by decide +kernel
theorem dX5_worksOutFrom_54 : decode cX5_worksOutFrom 54 = .ok (.istore_n 3, 1) := by decide +kernel
theorem dX5_worksOutFrom_55 : decode cX5_worksOutFrom 55 = .ok (.aload_n 0, 1) := by decide +kernel
theorem dX5_worksOutFrom_56 : decode cX5_worksOutFrom 56 = .ok (.getfield 40, 3) := by decide +kernel
theorem dX5_worksOutFrom_59 : decode cX5_worksOutFrom 59 = .ok (.iload_n 1, 1) := by decide +kernel
theorem dX5_worksOutFrom_60 : decode cX5_worksOutFrom 60 = .ok (.iaload, 1) := by decide +kernel
theorem dX5_worksOutFrom_61 : decode cX5_worksOutFrom 61 = .ok (.ifCond .eq 13, 3) := by decide +kernel
theorem dX5_worksOutFrom_64 : decode cX5_worksOutFrom 64 = .ok (.iload_n 3, 1) := by decide +kernel
theorem dX5_worksOutFrom_65 : decode cX5_worksOutFrom 65 = .ok (.aload_n 0, 1) := by decide +kernel
theorem dX5_worksOutFrom_66 : decode cX5_worksOutFrom 66 = .ok (.getfield 37, 3) := by decide +kernel
theorem dX5_worksOutFrom_69 : decode cX5_worksOutFrom 69 = .ok (.iload_n 1, 1) := by decide +kernel
theorem dX5_worksOutFrom_70 : decode cX5_worksOutFrom 70 = .ok (.iaload, 1) := by decide +kernel
theorem dX5_worksOutFrom_71 : decode cX5_worksOutFrom 71 = .ok (.if_icmp .gt 21, 3) := by decide +kernel
theorem dX5_worksOutFrom_74 : decode cX5_worksOutFrom 74 = .ok (.aload_n 0, 1) := by decide +kernel
theorem dX5_worksOutFrom_75 : decode cX5_worksOutFrom 75 = .ok (.getfield 37, 3) := by decide +kernel
theorem dX5_worksOutFrom_78 : decode cX5_worksOutFrom 78 = .ok (.iload_n 1, 1) := by decide +kernel
theorem dX5_worksOutFrom_79 : decode cX5_worksOutFrom 79 = .ok (.iload_n 3, 1) := by decide +kernel
theorem dX5_worksOutFrom_80 : decode cX5_worksOutFrom 80 = .ok (.iastore, 1) := by decide +kernel
theorem dX5_worksOutFrom_81 : decode cX5_worksOutFrom 81 = .ok (.aload_n 0, 1) := by decide +kernel
theorem dX5_worksOutFrom_82 : decode cX5_worksOutFrom 82 = .ok (.getfield 40, 3) := by decide +kernel
theorem dX5_worksOutFrom_85 : decode cX5_worksOutFrom 85 = .ok (.iload_n 1, 1) := by decide +kernel
theorem dX5_worksOutFrom_86 : decode cX5_worksOutFrom 86 = .ok (.iload_n 2, 1) := by decide +kernel
theorem dX5_worksOutFrom_87 : decode cX5_worksOutFrom 87 = .ok (.iconst 1, 1) := by decide +kernel
theorem dX5_worksOutFrom_88 : decode cX5_worksOutFrom 88 = .ok (.iadd, 1) := by decide +kernel
theorem dX5_worksOutFrom_89 : decode cX5_worksOutFrom 89 = .ok (.iload_n 1, 1) := by decide +kernel
theorem dX5_worksOutFrom_90 : decode cX5_worksOutFrom 90 = .ok (.isub, 1) := by decide +kernel
theorem dX5_worksOutFrom_91 : decode cX5_worksOutFrom 91 = .ok (.iastore, 1) := by decide +kernel
theorem dX5_worksOutFrom_92 : decode cX5_worksOutFrom 92 = .ok (.iinc 2 1, 3) := by decide +kernel
theorem dX5_worksOutFrom_95 : decode cX5_worksOutFrom 95 = .ok (.goto (-86), 3) := by decide +kernel
theorem dX5_worksOutFrom_98 : decode cX5_worksOutFrom 98 = .ok (.return_, 1) := by decide +kernel
theorem dX5_breaksBest_0 : decode cX5_breaksBest 0 = .ok (.aload_n 0, 1) := by decide +kernel
theorem dX5_breaksBest_1 : decode cX5_breaksBest 1 = .ok (.invokevirtual 95, 3) := by decide +kernel
theorem dX5_breaksBest_4 : decode cX5_breaksBest 4 = .ok (.aload_n 0, 1) := by decide +kernel
theorem dX5_breaksBest_5 : decode cX5_breaksBest 5 = .ok (.getfield 37, 3) := by decide +kernel
theorem dX5_breaksBest_8 : decode cX5_breaksBest 8 = .ok (.aload_n 0, 1) := by decide +kernel
theorem dX5_breaksBest_9 : decode cX5_breaksBest 9 = .ok (.getfield 7, 3) := by decide +kernel
theorem dX5_breaksBest_12 : decode cX5_breaksBest 12 = .ok (.iconst 4, 1) := by decide +kernel
theorem dX5_breaksBest_13 : decode cX5_breaksBest 13 = .ok (.iaload, 1) := by decide +kernel
theorem dX5_breaksBest_14 : decode cX5_breaksBest 14 = .ok (.iconst 0, 1) := by decide +kernel
theorem dX5_breaksBest_15 : decode cX5_breaksBest 15 = .ok (.iastore, 1) := by decide +kernel
theorem dX5_breaksBest_16 : decode cX5_breaksBest 16 = .ok (.aload_n 0, 1) := by decide +kernel
theorem dX5_breaksBest_17 : decode cX5_breaksBest 17 = .ok (.getfield 7, 3) := by decide +kernel
theorem dX5_breaksBest_20 : decode cX5_breaksBest 20 = .ok (.iconst 4, 1) := by decide +kernel
theorem dX5_breaksBest_21 : decode cX5_breaksBest 21 = .ok (.iaload, 1) := by decide +kernel
theorem dX5_breaksBest_22 : decode cX5_breaksBest 22 = .ok (.iconst 1, 1) := by decide +kernel
theorem dX5_breaksBest_23 : decode cX5_breaksBest 23 = .ok (.isub, 1) := by decide +kernel
theorem dX5_breaksBest_24 : decode cX5_breaksBest 24 = .ok (.istore_n 1, 1) := by decide +kernel
theorem dX5_breaksBest_25 : decode cX5_breaksBest 25 = .ok (.iload_n 1, 1) := by decide +kernel
theorem dX5_breaksBest_26 : decode cX5_breaksBest 26 = .ok (.ifCond .lt 14, 3) := by decide +kernel
theorem dX5_breaksBest_29 : decode cX5_breaksBest 29 = .ok (.aload_n 0, 1) := by decide +kernel
theorem dX5_breaksBest_30 : decode cX5_breaksBest 30 = .ok (.iload_n 1, 1) := by decide +kernel
theorem dX5_breaksBest_31 : decode cX5_breaksBest 31 = .ok (.invokevirtual 104, 3) := by decide +kernel
theorem dX5_breaksBest_34 : decode cX5_breaksBest 34 = .ok (.iinc 1 (-1), 3) := by decide +kernel
theorem dX5_breaksBest_37 : decode cX5_breaksBest 37 = .ok (.goto (-12), 3) := by decide +kernel
theorem dX5_breaksBest_40 : decode cX5_breaksBest 40 = .ok (.aload_n 0, 1) := by decide +kernel
theorem dX5_breaksBest_41 : decode cX5_breaksBest 41 = .ok (.iconst 0, 1) := by decide +kernel
theorem dX5_breaksBest_42 : decode cX5_breaksBest 42 = .ok (.putfield 98, 3) := by decide +kernel
theorem dX5_breaksBest_45 : decode cX5_breaksBest 45 = .ok (.iconst 0, 1) := by decide +kernel
theorem dX5_breaksBest_46 : decode cX5_breaksBest 46 = .ok (.istore_n 1, 1) := by decide +kernel
theorem dX5_breaksBest_47 : decode cX5_breaksBest 47 = .ok (.iload_n 1, 1) := by decide +kernel
theorem dX5_breaksBest_48 : decode cX5_breaksBest 48 = .ok (.aload_n 0, 1) := by decide +kernel
theorem dX5_breaksBest_49 : decode cX5_breaksBest 49 = .ok (.getfield 7, 3) := by decide +kernel
theorem dX5_breaksBest_52 : decode cX5_breaksBest 52 = .ok (.iconst 4, 1) := by decide +kernel
theorem dX5_breaksBest_53 : decode cX5_breaksBest 53 = .ok (.iaload, 1) := by decide +kernel
theorem dX5_breaksBest_54 : decode cX5_breaksBest 54 = .ok (.if_icmp .ge 35, 3) := by decide +kernel
theorem dX5_breaksBest_57 : decode cX5_breaksBest 57 = .ok (.aload_n 0, 1) := by decide +kernel
theorem dX5_breaksBest_58 : decode cX5_breaksBest 58 = .ok (.getfield 34, 3) := by decide +kernel
theorem dX5_breaksBest_61 : decode cX5_breaksBest 61 = .ok (.aload_n 0, 1) := by decide +kernel
theorem dX5_breaksBest_62 : decode cX5_breaksBest 62 = .ok (.getfield 98, 3) := by decide +kernel
theorem dX5_breaksBest_65 : decode cX5_breaksBest 65 = .ok (.iload_n 1, 1) := by decide +kernel
theorem dX5_breaksBest_66 : decode cX5_breaksBest 66 = .ok (.iastore, 1) := by decide +kernel
theorem dX5_breaksBest_67 : decode cX5_breaksBest 67 = .ok (.aload_n 0, 1) := by decide +kernel
theorem dX5_breaksBest_68 : decode cX5_breaksBest 68 = .ok (.dup, 1) := by decide +kernel
theorem dX5_breaksBest_69 : decode cX5_breaksBest 69 = .ok (.getfield 98, 3) := by decide +kernel
theorem dX5_breaksBest_72 : decode cX5_breaksBest 72 = .ok (.iconst 1, 1) := by decide +kernel
theorem dX5_breaksBest_73 : decode cX5_breaksBest 73 = .ok (.iadd, 1) := by decide +kernel
theorem dX5_breaksBest_74 : decode cX5_breaksBest 74 = .ok (.putfield 98, 3) := by decide +kernel
theorem dX5_breaksBest_77 : decode cX5_breaksBest 77 = .ok (.iload_n 1, 1) := by decide +kernel
theorem dX5_breaksBest_78 : decode cX5_breaksBest 78 = .ok (.aload_n 0, 1) := by decide +kernel
theorem dX5_breaksBest_79 : decode cX5_breaksBest 79 = .ok (.getfield 40, 3) := by decide +kernel
theorem dX5_breaksBest_82 : decode cX5_breaksBest 82 = .ok (.iload_n 1, 1) := by decide +kernel
theorem dX5_breaksBest_83 : decode cX5_breaksBest 83 = .ok (.iaload, 1) := by decide +kernel
theorem dX5_breaksBest_84 : decode cX5_breaksBest 84 = .ok (.iadd, 1) := by decide +kernel
theorem dX5_breaksBest_85 : decode cX5_breaksBest 85 = .ok (.istore_n 1, 1) := by decide +kernel
theorem dX5_breaksBest_86 : decode cX5_breaksBest 86 = .ok (.goto (-39), 3) := by decide +kernel
theorem dX5_breaksBest_89 : decode cX5_breaksBest 89 = .ok (.aload_n 0, 1) := by decide +kernel
theorem dX5_breaksBest_90 : decode cX5_breaksBest 90 = .ok (.getfield 34, 3) := by decide +kernel
theorem dX5_breaksBest_93 : decode cX5_breaksBest 93 = .ok (.aload_n 0, 1) := by decide +kernel
theorem dX5_breaksBest_94 : decode cX5_breaksBest 94 = .ok (.getfield 98, 3) := by decide +kernel
theorem dX5_breaksBest_97 : decode cX5_breaksBest 97 = .ok (.aload_n 0, 1) := by decide +kernel
theorem dX5_breaksBest_98 : decode cX5_breaksBest 98 = .ok (.getfield 7, 3) := by decide +kernel
theorem dX5_breaksBest_101 : decode cX5_breaksBest 101 = .ok (.iconst 4, 1) := by decide +kernel
theorem dX5_breaksBest_102 : decode cX5_breaksBest 102 = .ok (.iaload, 1) := by decide +kernel
theorem dX5_breaksBest_103 : decode cX5_breaksBest 103 = .ok (.iastore, 1) := by decide +kernel
theorem dX5_breaksBest_104 : decode cX5_breaksBest 104 = .ok (.return_, 1) := by decide +kernel
theorem dX5_breaks_0 : decode cX5_breaks 0 = .ok (.iload_n 1, 1) := by decide +kernel
theorem dX5_breaks_1 : decode cX5_breaks 1 = .ok (.ifCond .ne 10, 3) := by decide +kernel
theorem dX5_breaks_4 : decode cX5_breaks 4 = .ok (.aload_n 0, 1) := by decide +kernel
theorem dX5_breaks_5 : decode cX5_breaks 5 = .ok (.invokevirtual 108, 3) := by decide +kernel
theorem dX5_breaks_8 : decode cX5_breaks 8 = .ok (.goto 7, 3) := by decide +kernel
theorem dX5_breaks_11 : decode cX5_breaks 11 = .ok (.aload_n 0, 1) := by decide +kernel
theorem dX5_breaks_12 : decode cX5_breaks 12 = .ok (.invokevirtual 111, 3) := by decide +kernel
theorem dX5_breaks_15 : decode cX5_breaks 15 = .ok (.return_, 1) := by decide +kernel
theorem dX5_bestBadness_0 : decode cX5_bestBadness 0 = .ok (.aload_n 0, 1) := by decide +kernel
theorem dX5_bestBadness_1 : decode cX5_bestBadness 1 = .ok (.invokevirtual 111, 3) := by decide +kernel
theorem dX5_bestBadness_4 : decode cX5_bestBadness 4 = .ok (.aload_n 0, 1) := by decide +kernel
theorem dX5_bestBadness_5 : decode cX5_bestBadness 5 = .ok (.getfield 37, 3) := by decide +kernel
theorem dX5_bestBadness_8 : decode cX5_bestBadness 8 = .ok (.iconst 0, 1) := by decide +kernel
theorem dX5_bestBadness_9 : decode cX5_bestBadness 9 = .ok (.iaload, 1) := by decide +kernel
theorem dX5_bestBadness_10 : decode cX5_bestBadness 10 = .ok (.ireturn, 1) := by decide +kernel
theorem dX5_lastOf_0 : decode cX5_lastOf 0 = .ok (.aload_n 0, 1) := by decide +kernel
theorem dX5_lastOf_1 : decode cX5_lastOf 1 = .ok (.getfield 34, 3) := by decide +kernel
theorem dX5_lastOf_4 : decode cX5_lastOf 4 = .ok (.iload_n 1, 1) := by decide +kernel
theorem dX5_lastOf_5 : decode cX5_lastOf 5 = .ok (.iconst 1, 1) := by decide +kernel
theorem dX5_lastOf_6 : decode cX5_lastOf 6 = .ok (.iadd, 1) := by decide +kernel
theorem dX5_lastOf_7 : decode cX5_lastOf 7 = .ok (.iaload, 1) := by decide +kernel
theorem dX5_lastOf_8 : decode cX5_lastOf 8 = .ok (.iconst 1, 1) := by decide +kernel
theorem dX5_lastOf_9 : decode cX5_lastOf 9 = .ok (.isub, 1) := by decide +kernel
theorem dX5_lastOf_10 : decode cX5_lastOf 10 = .ok (.ireturn, 1) := by decide +kernel
theorem dX5_bodyOfLine_0 : decode cX5_bodyOfLine 0 = .ok (.aload_n 0, 1) := by decide +kernel
theorem dX5_bodyOfLine_1 : decode cX5_bodyOfLine 1 = .ok (.aload_n 0, 1) := by decide +kernel
theorem dX5_bodyOfLine_2 : decode cX5_bodyOfLine 2 = .ok (.getfield 34, 3) := by decide +kernel
theorem dX5_bodyOfLine_5 : decode cX5_bodyOfLine 5 = .ok (.iload_n 1, 1) := by decide +kernel
theorem dX5_bodyOfLine_6 : decode cX5_bodyOfLine 6 = .ok (.iaload, 1) := by decide +kernel
theorem dX5_bodyOfLine_7 : decode cX5_bodyOfLine 7 = .ok (.aload_n 0, 1) := by decide +kernel
theorem dX5_bodyOfLine_8 : decode cX5_bodyOfLine 8 = .ok (.iload_n 1, 1) := by decide +kernel
theorem dX5_bodyOfLine_9 : decode cX5_bodyOfLine 9 = .ok (.invokevirtual 114, 3) := by decide +kernel
theorem dX5_bodyOfLine_12 : decode cX5_bodyOfLine 12 = .ok (.invokevirtual 92, 3) := by decide +kernel
theorem dX5_bodyOfLine_15 : decode cX5_bodyOfLine 15 = .ok (.ireturn, 1) := by decide +kernel
theorem dX5_fits_0 : decode cX5_fits 0 = .ok (.aload_n 0, 1) := by decide +kernel
theorem dX5_fits_1 : decode cX5_fits 1 = .ok (.iload_n 1, 1) := by decide +kernel
theorem dX5_fits_2 : decode cX5_fits 2 = .ok (.invokevirtual 117, 3) := by decide +kernel
theorem dX5_fits_5 : decode cX5_fits 5 = .ok (.aload_n 0, 1) := by decide +kernel
theorem dX5_fits_6 : decode cX5_fits 6 = .ok (.getfield 7, 3) := by decide +kernel
theorem dX5_fits_9 : decode cX5_fits 9 = .ok (.iconst 0, 1) := by decide +kernel
theorem dX5_fits_10 : decode cX5_fits 10 = .ok (.iaload, 1) := by decide +kernel
theorem dX5_fits_11 : decode cX5_fits 11 = .ok (.if_icmp .gt 7, 3) := by decide +kernel
theorem dX5_fits_14 : decode cX5_fits 14 = .ok (.iconst 1, 1) := by decide +kernel
theorem dX5_fits_15 : decode cX5_fits 15 = .ok (.goto 4, 3) := by decide +kernel
theorem dX5_fits_18 : decode cX5_fits 18 = .ok (.iconst 0, 1) := by decide +kernel
theorem dX5_fits_19 : decode cX5_fits 19 = .ok (.ireturn, 1) := by decide +kernel
theorem dX5_looksIndented_0 : decode cX5_looksIndented 0 = .ok (.aload_n 0, 1) := by decide +kernel
theorem dX5_looksIndented_1 : decode cX5_looksIndented 1 = .ok (.iload_n 1, 1) := by decide +kernel
theorem dX5_looksIndented_2 : decode cX5_looksIndented 2 = .ok (.invokevirtual 120, 3) := by decide +kernel
theorem dX5_looksIndented_5 : decode cX5_looksIndented 5 = .ok (.ifCond .eq 38, 3) := by decide +kernel
theorem dX5_looksIndented_8 : decode cX5_looksIndented 8 = .ok (.iload_n 1, 1) := by decide +kernel
theorem dX5_looksIndented_9 : decode cX5_looksIndented 9 = .ok (.aload_n 0, 1) := by decide +kernel
theorem dX5_looksIndented_10 : decode cX5_looksIndented 10 = .ok (.getfield 98, 3) := by decide +kernel
theorem dX5_looksIndented_13 : decode cX5_looksIndented 13 = .ok (.iconst 1, 1) := by decide +kernel
theorem dX5_looksIndented_14 : decode cX5_looksIndented 14 = .ok (.isub, 1) := by decide +kernel
theorem dX5_looksIndented_15 : decode cX5_looksIndented 15 = .ok (.if_icmp .ge 28, 3) := by decide +kernel
theorem dX5_looksIndented_18 : decode cX5_looksIndented 18 = .ok (.aload_n 0, 1) := by decide +kernel
theorem dX5_looksIndented_19 : decode cX5_looksIndented 19 = .ok (.getfield 7, 3) := by decide +kernel
theorem dX5_looksIndented_22 : decode cX5_looksIndented 22 = .ok (.iconst 0, 1) := by decide +kernel
theorem dX5_looksIndented_23 : decode cX5_looksIndented 23 = .ok (.iaload, 1) := by decide +kernel
theorem dX5_looksIndented_24 : decode cX5_looksIndented 24 = .ok (.aload_n 0, 1) := by decide +kernel
theorem dX5_looksIndented_25 : decode cX5_looksIndented 25 = .ok (.iload_n 1, 1) := by decide +kernel
theorem dX5_looksIndented_26 : decode cX5_looksIndented 26 = .ok (.invokevirtual 117, 3) := by decide +kernel
theorem dX5_looksIndented_29 : decode cX5_looksIndented 29 = .ok (.isub, 1) := by decide +kernel
theorem dX5_looksIndented_30 : decode cX5_looksIndented 30 = .ok (.aload_n 0, 1) := by decide +kernel
theorem dX5_looksIndented_31 : decode cX5_looksIndented 31 = .ok (.getfield 7, 3) := by decide +kernel
theorem dX5_looksIndented_34 : decode cX5_looksIndented 34 = .ok (.iconst 2, 1) := by decide +kernel
theorem dX5_looksIndented_35 : decode cX5_looksIndented 35 = .ok (.iaload, 1) := by decide +kernel
theorem dX5_looksIndented_36 : decode cX5_looksIndented 36 = .ok (.if_icmp .le 7, 3) := by decide +kernel
theorem dX5_looksIndented_39 : decode cX5_looksIndented 39 = .ok (.iconst 1, 1) := by decide +kernel
theorem dX5_looksIndented_40 : decode cX5_looksIndented 40 = .ok (.goto 4, 3) := by decide +kernel
theorem dX5_looksIndented_43 : decode cX5_looksIndented 43 = .ok (.iconst 0, 1) := by decide +kernel
theorem dX5_looksIndented_44 : decode cX5_looksIndented 44 = .ok (.ireturn, 1) := by decide +kernel
theorem dX5_isSetting_0 : decode cX5_isSetting 0 = .ok (.iload_n 0, 1) := by decide +kernel
theorem dX5_isSetting_1 : decode cX5_isSetting 1 = .ok (.tableswitch 71 0 3 #[31, 43, 53, 63], 31) := by decide +kernel
theorem dX5_isSetting_32 : decode cX5_isSetting 32 = .ok (.iload_n 1, 1) := by decide +kernel
theorem dX5_isSetting_33 : decode cX5_isSetting 33 = .ok (.i2l, 1) := by decide +kernel
theorem dX5_isSetting_34 : decode cX5_isSetting 34 = .ok (.ldc2_w 124, 3) := by decide +kernel
theorem dX5_isSetting_37 : decode cX5_isSetting 37 = .ok (.ldc2_w 126, 3) := by decide +kernel
theorem dX5_isSetting_40 : decode cX5_isSetting 40 = .ok (.invokestatic 58, 3) := by decide +kernel
theorem dX5_isSetting_43 : decode cX5_isSetting 43 = .ok (.ireturn, 1) := by decide +kernel
theorem dX5_isSetting_44 : decode cX5_isSetting 44 = .ok (.iload_n 1, 1) := by decide +kernel
theorem dX5_isSetting_45 : decode cX5_isSetting 45 = .ok (.i2l, 1) := by decide +kernel
theorem dX5_isSetting_46 : decode cX5_isSetting 46 = .ok (.lconst 1, 1) := by decide +kernel
theorem dX5_isSetting_47 : decode cX5_isSetting 47 = .ok (.ldc2_w 124, 3) := by decide +kernel
theorem dX5_isSetting_50 : decode cX5_isSetting 50 = .ok (.invokestatic 58, 3) := by decide +kernel
theorem dX5_isSetting_53 : decode cX5_isSetting 53 = .ok (.ireturn, 1) := by decide +kernel
theorem dX5_isSetting_54 : decode cX5_isSetting 54 = .ok (.iload_n 1, 1) := by decide +kernel
theorem dX5_isSetting_55 : decode cX5_isSetting 55 = .ok (.i2l, 1) := by decide +kernel
theorem dX5_isSetting_56 : decode cX5_isSetting 56 = .ok (.lconst 0, 1) := by decide +kernel
theorem dX5_isSetting_57 : decode cX5_isSetting 57 = .ok (.ldc2_w 128, 3) := by decide +kernel
theorem dX5_isSetting_60 : decode cX5_isSetting 60 = .ok (.invokestatic 58, 3) := by decide +kernel
theorem dX5_isSetting_63 : decode cX5_isSetting 63 = .ok (.ireturn, 1) := by decide +kernel
theorem dX5_isSetting_64 : decode cX5_isSetting 64 = .ok (.iload_n 1, 1) := by decide +kernel
theorem dX5_isSetting_65 : decode cX5_isSetting 65 = .ok (.i2l, 1) := by decide +kernel
theorem dX5_isSetting_66 : decode cX5_isSetting 66 = .ok (.lconst 0, 1) := by decide +kernel
theorem dX5_isSetting_67 : decode cX5_isSetting 67 = .ok (.lconst 1, 1) := by decide +kernel
theorem dX5_isSetting_68 : decode cX5_isSetting 68 = .ok (.invokestatic 58, 3) := by decide +kernel
theorem dX5_isSetting_71 : decode cX5_isSetting 71 = .ok (.ireturn, 1) := by decide +kernel
theorem dX5_isSetting_72 : decode cX5_isSetting 72 = .ok (.iconst 0, 1) := by decide +kernel
theorem dX5_isSetting_73 : decode cX5_isSetting 73 = .ok (.ireturn, 1) := by decide +kernel
theorem dX5_set_0 : decode cX5_set 0 = .ok (.iload_n 1, 1) := by decide +kernel
theorem dX5_set_1 : decode cX5_set 1 = .ok (.iload_n 2, 1) := by decide +kernel
theorem dX5_set_2 : decode cX5_set 2 = .ok (.invokestatic 130, 3) := by decide +kernel
theorem dX5_set_5 : decode cX5_set 5 = .ok (.ifCond .ne 7, 3) := by decide +kernel
theorem dX5_set_8 : decode cX5_set 8 = .ok (.sipush (-1002), 3) := by decide +kernel
theorem dX5_set_11 : decode cX5_set 11 = .ok (.ireturn, 1) := by decide +kernel
theorem dX5_set_12 : decode cX5_set 12 = .ok (.aload_n 0, 1) := by decide +kernel
theorem dX5_set_13 : decode cX5_set 13 = .ok (.invokevirtual 134, 3) := by decide +kernel
theorem dX5_set_16 : decode cX5_set 16 = .ok (.aload_n 0, 1) := by decide +kernel
theorem dX5_set_17 : decode cX5_set 17 = .ok (.getfield 7, 3) := by decide +kernel
theorem dX5_set_20 : decode cX5_set 20 = .ok (.iload_n 1, 1) := by decide +kernel
theorem dX5_set_21 : decode cX5_set 21 = .ok (.iaload, 1) := by decide +kernel
theorem dX5_set_22 : decode cX5_set 22 = .ok (.istore_n 3, 1) := by decide +kernel
theorem dX5_set_23 : decode cX5_set 23 = .ok (.aload_n 0, 1) := by decide +kernel
theorem dX5_set_24 : decode cX5_set 24 = .ok (.getfield 7, 3) := by decide +kernel
theorem dX5_set_27 : decode cX5_set 27 = .ok (.iload_n 1, 1) := by decide +kernel
theorem dX5_set_28 : decode cX5_set 28 = .ok (.iload_n 2, 1) := by decide +kernel
theorem dX5_set_29 : decode cX5_set 29 = .ok (.iastore, 1) := by decide +kernel
theorem dX5_set_30 : decode cX5_set 30 = .ok (.iload_n 3, 1) := by decide +kernel
theorem dX5_set_31 : decode cX5_set 31 = .ok (.ireturn, 1) := by decide +kernel
theorem dX5_sort_0 : decode cX5_sort 0 = .ok (.iload_n 1, 1) := by decide +kernel
theorem dX5_sort_1 : decode cX5_sort 1 = .ok (.invokestatic 137, 3) := by decide +kernel
theorem dX5_sort_4 : decode cX5_sort 4 = .ok (.ifCond .ne 7, 3) := by decide +kernel
theorem dX5_sort_7 : decode cX5_sort 7 = .ok (.sipush (-1001), 3) := by decide +kernel
theorem dX5_sort_10 : decode cX5_sort 10 = .ok (.ireturn, 1) := by decide +kernel
theorem dX5_sort_11 : decode cX5_sort 11 = .ok (.iload_n 2, 1) := by decide +kernel
theorem dX5_sort_12 : decode cX5_sort 12 = .ok (.i2l, 1) := by decide +kernel
theorem dX5_sort_13 : decode cX5_sort 13 = .ok (.lconst 1, 1) := by decide +kernel
theorem dX5_sort_14 : decode cX5_sort 14 = .ok (.ldc2_w 124, 3) := by decide +kernel
theorem dX5_sort_17 : decode cX5_sort 17 = .ok (.invokestatic 58, 3) := by decide +kernel
theorem dX5_sort_20 : decode cX5_sort 20 = .ok (.ifCond .eq 28, 3) := by decide +kernel
theorem dX5_sort_23 : decode cX5_sort 23 = .ok (.iload_n 3, 1) := by decide +kernel
theorem dX5_sort_24 : decode cX5_sort 24 = .ok (.i2l, 1) := by decide +kernel
theorem dX5_sort_25 : decode cX5_sort 25 = .ok (.lconst 0, 1) := by decide +kernel
theorem dX5_sort_26 : decode cX5_sort 26 = .ok (.ldc2_w 140, 3) := by decide +kernel
theorem dX5_sort_29 : decode cX5_sort 29 = .ok (.invokestatic 58, 3) := by decide +kernel
theorem dX5_sort_32 : decode cX5_sort 32 = .ok (.ifCond .eq 16, 3) := by decide +kernel
theorem dX5_sort_35 : decode cX5_sort 35 = .ok (.iload 4, 2) := by decide +kernel
theorem dX5_sort_37 : decode cX5_sort 37 = .ok (.i2l, 1) := by decide +kernel
theorem dX5_sort_38 : decode cX5_sort 38 = .ok (.lconst 0, 1) := by decide +kernel
theorem dX5_sort_39 : decode cX5_sort 39 = .ok (.ldc2_w 140, 3) := by decide +kernel
theorem dX5_sort_42 : decode cX5_sort 42 = .ok (.invokestatic 58, 3) := by decide +kernel
theorem dX5_sort_45 : decode cX5_sort 45 = .ok (.ifCond .ne 7, 3) := by decide +kernel
theorem dX5_sort_48 : decode cX5_sort 48 = .ok (.sipush (-1002), 3) := by decide +kernel
theorem dX5_sort_51 : decode cX5_sort 51 = .ok (.ireturn, 1) := by decide +kernel
theorem dX5_sort_52 : decode cX5_sort 52 = .ok (.aload_n 0, 1) := by decide +kernel
theorem dX5_sort_53 : decode cX5_sort 53 = .ok (.invokevirtual 134, 3) := by decide +kernel
theorem dX5_sort_56 : decode cX5_sort 56 = .ok (.aload_n 0, 1) := by decide +kernel
theorem dX5_sort_57 : decode cX5_sort 57 = .ok (.getfield 7, 3) := by decide +kernel
theorem dX5_sort_60 : decode cX5_sort 60 = .ok (.iconst 5, 1) := by decide +kernel
theorem dX5_sort_61 : decode cX5_sort 61 = .ok (.iload_n 1, 1) := by decide +kernel
theorem dX5_sort_62 : decode cX5_sort 62 = .ok (.iadd, 1) := by decide +kernel
theorem dX5_sort_63 : decode cX5_sort 63 = .ok (.iaload, 1) := by decide +kernel
theorem dX5_sort_64 : decode cX5_sort 64 = .ok (.istore 5, 2) := by decide +kernel
theorem dX5_sort_66 : decode cX5_sort 66 = .ok (.aload_n 0, 1) := by decide +kernel
theorem dX5_sort_67 : decode cX5_sort 67 = .ok (.getfield 7, 3) := by decide +kernel
theorem dX5_sort_70 : decode cX5_sort 70 = .ok (.iconst 5, 1) := by decide +kernel
theorem dX5_sort_71 : decode cX5_sort 71 = .ok (.iload_n 1, 1) := by decide +kernel
theorem dX5_sort_72 : decode cX5_sort 72 = .ok (.iadd, 1) := by decide +kernel
theorem dX5_sort_73 : decode cX5_sort 73 = .ok (.iload_n 2, 1) := by decide +kernel
theorem dX5_sort_74 : decode cX5_sort 74 = .ok (.iastore, 1) := by decide +kernel
theorem dX5_sort_75 : decode cX5_sort 75 = .ok (.aload_n 0, 1) := by decide +kernel
theorem dX5_sort_76 : decode cX5_sort 76 = .ok (.getfield 7, 3) := by decide +kernel
theorem dX5_sort_79 : decode cX5_sort 79 = .ok (.bipush 13, 2) := by decide +kernel
theorem dX5_sort_81 : decode cX5_sort 81 = .ok (.iload_n 1, 1) := by decide +kernel
theorem dX5_sort_82 : decode cX5_sort 82 = .ok (.iadd, 1) := by decide +kernel
theorem dX5_sort_83 : decode cX5_sort 83 = .ok (.iload_n 3, 1) := by decide +kernel
theorem dX5_sort_84 : decode cX5_sort 84 = .ok (.iastore, 1) := by decide +kernel
theorem dX5_sort_85 : decode cX5_sort 85 = .ok (.aload_n 0, 1) := by decide +kernel
theorem dX5_sort_86 : decode cX5_sort 86 = .ok (.getfield 7, 3) := by decide +kernel
theorem dX5_sort_89 : decode cX5_sort 89 = .ok (.bipush 21, 2) := by decide +kernel
theorem dX5_sort_91 : decode cX5_sort 91 = .ok (.iload_n 1, 1) := by decide +kernel
theorem dX5_sort_92 : decode cX5_sort 92 = .ok (.iadd, 1) := by decide +kernel
theorem dX5_sort_93 : decode cX5_sort 93 = .ok (.iload 4, 2) := by decide +kernel
theorem dX5_sort_95 : decode cX5_sort 95 = .ok (.iastore, 1) := by decide +kernel
theorem dX5_sort_96 : decode cX5_sort 96 = .ok (.iload 5, 2) := by decide +kernel
theorem dX5_sort_98 : decode cX5_sort 98 = .ok (.ireturn, 1) := by decide +kernel
theorem dX5_takesOut_0 : decode cX5_takesOut 0 = .ok (.bipush 29, 2) := by decide +kernel
theorem dX5_takesOut_2 : decode cX5_takesOut 2 = .ok (.bipush 11, 2) := by decide +kernel
theorem dX5_takesOut_4 : decode cX5_takesOut 4 = .ok (.iload_n 1, 1) := by decide +kernel
theorem dX5_takesOut_5 : decode cX5_takesOut 5 = .ok (.imul, 1) := by decide +kernel
theorem dX5_takesOut_6 : decode cX5_takesOut 6 = .ok (.iadd, 1) := by decide +kernel
theorem dX5_takesOut_7 : decode cX5_takesOut 7 = .ok (.istore_n 2, 1) := by decide +kernel
theorem dX5_takesOut_8 : decode cX5_takesOut 8 = .ok (.iload_n 2, 1) := by decide +kernel
theorem dX5_takesOut_9 : decode cX5_takesOut 9 = .ok (.sipush 282, 3) := by decide +kernel
theorem dX5_takesOut_12 : decode cX5_takesOut 12 = .ok (.if_icmp .ge 24, 3) := by decide +kernel
theorem dX5_takesOut_15 : decode cX5_takesOut 15 = .ok (.aload_n 0, 1) := by decide +kernel
theorem dX5_takesOut_16 : decode cX5_takesOut 16 = .ok (.getfield 7, 3) := by decide +kernel
theorem dX5_takesOut_19 : decode cX5_takesOut 19 = .ok (.iload_n 2, 1) := by decide +kernel
theorem dX5_takesOut_20 : decode cX5_takesOut 20 = .ok (.aload_n 0, 1) := by decide +kernel
theorem dX5_takesOut_21 : decode cX5_takesOut 21 = .ok (.getfield 7, 3) := by decide +kernel
theorem dX5_takesOut_24 : decode cX5_takesOut 24 = .ok (.iload_n 2, 1) := by decide +kernel
theorem dX5_takesOut_25 : decode cX5_takesOut 25 = .ok (.bipush 11, 2) := by decide +kernel
theorem dX5_takesOut_27 : decode cX5_takesOut 27 = .ok (.iadd, 1) := by decide +kernel
theorem dX5_takesOut_28 : decode cX5_takesOut 28 = .ok (.iaload, 1) := by decide +kernel
theorem dX5_takesOut_29 : decode cX5_takesOut 29 = .ok (.iastore, 1) := by decide +kernel
theorem dX5_takesOut_30 : decode cX5_takesOut 30 = .ok (.iinc 2 1, 3) := by decide +kernel
theorem dX5_takesOut_33 : decode cX5_takesOut 33 = .ok (.goto (-25), 3) := by decide +kernel
theorem dX5_takesOut_36 : decode cX5_takesOut 36 = .ok (.sipush 282, 3) := by decide +kernel
theorem dX5_takesOut_39 : decode cX5_takesOut 39 = .ok (.istore_n 2, 1) := by decide +kernel
theorem dX5_takesOut_40 : decode cX5_takesOut 40 = .ok (.iload_n 2, 1) := by decide +kernel
theorem dX5_takesOut_41 : decode cX5_takesOut 41 = .ok (.sipush 293, 3) := by decide +kernel
theorem dX5_takesOut_44 : decode cX5_takesOut 44 = .ok (.if_icmp .ge 16, 3) := by decide +kernel
theorem dX5_takesOut_47 : decode cX5_takesOut 47 = .ok (.aload_n 0, 1) := by decide +kernel
theorem dX5_takesOut_48 : decode cX5_takesOut 48 = .ok (.getfield 7, 3) := by decide +kernel
theorem dX5_takesOut_51 : decode cX5_takesOut 51 = .ok (.iload_n 2, 1) := by decide +kernel
theorem dX5_takesOut_52 : decode cX5_takesOut 52 = .ok (.iconst 0, 1) := by decide +kernel
theorem dX5_takesOut_53 : decode cX5_takesOut 53 = .ok (.iastore, 1) := by decide +kernel
theorem dX5_takesOut_54 : decode cX5_takesOut 54 = .ok (.iinc 2 1, 3) := by decide +kernel
theorem dX5_takesOut_57 : decode cX5_takesOut 57 = .ok (.goto (-17), 3) := by decide +kernel
theorem dX5_takesOut_60 : decode cX5_takesOut 60 = .ok (.aload_n 0, 1) := by decide +kernel
theorem dX5_takesOut_61 : decode cX5_takesOut 61 = .ok (.getfield 7, 3) := by decide +kernel
theorem dX5_takesOut_64 : decode cX5_takesOut 64 = .ok (.iconst 4, 1) := by decide +kernel
theorem dX5_takesOut_65 : decode cX5_takesOut 65 = .ok (.dup2, 1) := by decide +kernel
theorem dX5_takesOut_66 : decode cX5_takesOut 66 = .ok (.iaload, 1) := by decide +kernel
theorem dX5_takesOut_67 : decode cX5_takesOut 67 = .ok (.iconst 1, 1) := by decide +kernel
theorem dX5_takesOut_68 : decode cX5_takesOut 68 = .ok (.isub, 1) := by decide +kernel
theorem dX5_takesOut_69 : decode cX5_takesOut 69 = .ok (.iastore, 1) := by decide +kernel
theorem dX5_takesOut_70 : decode cX5_takesOut 70 = .ok (.return_, 1) := by decide +kernel
theorem dX5_drop_0 : decode cX5_drop 0 = .ok (.aload_n 0, 1) := by decide +kernel
theorem dX5_drop_1 : decode cX5_drop 1 = .ok (.iload_n 1, 1) := by decide +kernel
theorem dX5_drop_2 : decode cX5_drop 2 = .ok (.invokevirtual 142, 3) := by decide +kernel
theorem dX5_drop_5 : decode cX5_drop 5 = .ok (.ifCond .ne 7, 3) := by decide +kernel
theorem dX5_drop_8 : decode cX5_drop 8 = .ok (.sipush (-1001), 3) := by decide +kernel
theorem dX5_drop_11 : decode cX5_drop 11 = .ok (.ireturn, 1) := by decide +kernel
theorem dX5_drop_12 : decode cX5_drop 12 = .ok (.aload_n 0, 1) := by decide +kernel
theorem dX5_drop_13 : decode cX5_drop 13 = .ok (.invokevirtual 134, 3) := by decide +kernel
theorem dX5_drop_16 : decode cX5_drop 16 = .ok (.aload_n 0, 1) := by decide +kernel
theorem dX5_drop_17 : decode cX5_drop 17 = .ok (.iload_n 1, 1) := by decide +kernel
theorem dX5_drop_18 : decode cX5_drop 18 = .ok (.invokevirtual 80, 3) := by decide +kernel
theorem dX5_drop_21 : decode cX5_drop 21 = .ok (.istore_n 2, 1) := by decide +kernel
theorem dX5_drop_22 : decode cX5_drop 22 = .ok (.aload_n 0, 1) := by decide +kernel
theorem dX5_drop_23 : decode cX5_drop 23 = .ok (.iload_n 1, 1) := by decide +kernel
theorem dX5_drop_24 : decode cX5_drop 24 = .ok (.invokevirtual 145, 3) := by decide +kernel
theorem dX5_drop_27 : decode cX5_drop 27 = .ok (.iload_n 2, 1) := by decide +kernel
theorem dX5_drop_28 : decode cX5_drop 28 = .ok (.ireturn, 1) := by decide +kernel
theorem dX5_swap_0 : decode cX5_swap 0 = .ok (.aload_n 0, 1) := by decide +kernel
theorem dX5_swap_1 : decode cX5_swap 1 = .ok (.iload_n 1, 1) := by decide +kernel
theorem dX5_swap_2 : decode cX5_swap 2 = .ok (.invokevirtual 142, 3) := by decide +kernel
theorem dX5_swap_5 : decode cX5_swap 5 = .ok (.ifCond .eq 11, 3) := by decide +kernel
theorem dX5_swap_8 : decode cX5_swap 8 = .ok (.aload_n 0, 1) := by decide +kernel
theorem dX5_swap_9 : decode cX5_swap 9 = .ok (.iload_n 2, 1) := by decide +kernel
theorem dX5_swap_10 : decode cX5_swap 10 = .ok (.invokevirtual 142, 3) := by decide +kernel
theorem dX5_swap_13 : decode cX5_swap 13 = .ok (.ifCond .ne 7, 3) := by decide +kernel
theorem dX5_swap_16 : decode cX5_swap 16 = .ok (.sipush (-1001), 3) := by decide +kernel
theorem dX5_swap_19 : decode cX5_swap 19 = .ok (.ireturn, 1) := by decide +kernel
theorem dX5_swap_20 : decode cX5_swap 20 = .ok (.iload_n 1, 1) := by decide +kernel
theorem dX5_swap_21 : decode cX5_swap 21 = .ok (.iload_n 2, 1) := by decide +kernel
theorem dX5_swap_22 : decode cX5_swap 22 = .ok (.if_icmp .ne 7, 3) := by decide +kernel
theorem dX5_swap_25 : decode cX5_swap 25 = .ok (.sipush (-1002), 3) := by decide +kernel
theorem dX5_swap_28 : decode cX5_swap 28 = .ok (.ireturn, 1) := by decide +kernel
theorem dX5_swap_29 : decode cX5_swap 29 = .ok (.aload_n 0, 1) := by decide +kernel
theorem dX5_swap_30 : decode cX5_swap 30 = .ok (.invokevirtual 134, 3) := by decide +kernel
theorem dX5_swap_33 : decode cX5_swap 33 = .ok (.iconst 0, 1) := by decide +kernel
theorem dX5_swap_34 : decode cX5_swap 34 = .ok (.istore_n 3, 1) := by decide +kernel
theorem dX5_swap_35 : decode cX5_swap 35 = .ok (.iload_n 3, 1) := by decide +kernel
theorem dX5_swap_36 : decode cX5_swap 36 = .ok (.bipush 11, 2) := by decide +kernel
theorem dX5_swap_38 : decode cX5_swap 38 = .ok (.if_icmp .ge 69, 3) := by decide +kernel
theorem dX5_swap_41 : decode cX5_swap 41 = .ok (.aload_n 0, 1) := by decide +kernel
theorem dX5_swap_42 : decode cX5_swap 42 = .ok (.getfield 7, 3) := by decide +kernel
theorem dX5_swap_45 : decode cX5_swap 45 = .ok (.bipush 29, 2) := by decide +kernel
theorem dX5_swap_47 : decode cX5_swap 47 = .ok (.bipush 11, 2) := by decide +kernel
theorem dX5_swap_49 : decode cX5_swap 49 = .ok (.iload_n 1, 1) := by decide +kernel
theorem dX5_swap_50 : decode cX5_swap 50 = .ok (.imul, 1) := by decide +kernel
theorem dX5_swap_51 : decode cX5_swap 51 = .ok (.iadd, 1) := by decide +kernel
theorem dX5_swap_52 : decode cX5_swap 52 = .ok (.iload_n 3, 1) := by decide +kernel
theorem dX5_swap_53 : decode cX5_swap 53 = .ok (.iadd, 1) := by decide +kernel
theorem dX5_swap_54 : decode cX5_swap 54 = .ok (.iaload, 1) := by decide +kernel
theorem dX5_swap_55 : decode cX5_swap 55 = .ok (.istore 4, 2) := by decide +kernel
theorem dX5_swap_57 : decode cX5_swap 57 = .ok (.aload_n 0, 1) := by decide +kernel
theorem dX5_swap_58 : decode cX5_swap 58 = .ok (.getfield 7, 3) := by decide +kernel
theorem dX5_swap_61 : decode cX5_swap 61 = .ok (.bipush 29, 2) := by decide +kernel
theorem dX5_swap_63 : decode cX5_swap 63 = .ok (.bipush 11, 2) := by decide +kernel
theorem dX5_swap_65 : decode cX5_swap 65 = .ok (.iload_n 1, 1) := by decide +kernel
theorem dX5_swap_66 : decode cX5_swap 66 = .ok (.imul, 1) := by decide +kernel
theorem dX5_swap_67 : decode cX5_swap 67 = .ok (.iadd, 1) := by decide +kernel
theorem dX5_swap_68 : decode cX5_swap 68 = .ok (.iload_n 3, 1) := by decide +kernel
theorem dX5_swap_69 : decode cX5_swap 69 = .ok (.iadd, 1) := by decide +kernel
theorem dX5_swap_70 : decode cX5_swap 70 = .ok (.aload_n 0, 1) := by decide +kernel
theorem dX5_swap_71 : decode cX5_swap 71 = .ok (.getfield 7, 3) := by decide +kernel
theorem dX5_swap_74 : decode cX5_swap 74 = .ok (.bipush 29, 2) := by decide +kernel
theorem dX5_swap_76 : decode cX5_swap 76 = .ok (.bipush 11, 2) := by decide +kernel
theorem dX5_swap_78 : decode cX5_swap 78 = .ok (.iload_n 2, 1) := by decide +kernel
theorem dX5_swap_79 : decode cX5_swap 79 = .ok (.imul, 1) := by decide +kernel
theorem dX5_swap_80 : decode cX5_swap 80 = .ok (.iadd, 1) := by decide +kernel
theorem dX5_swap_81 : decode cX5_swap 81 = .ok (.iload_n 3, 1) := by decide +kernel
theorem dX5_swap_82 : decode cX5_swap 82 = .ok (.iadd, 1) := by decide +kernel
theorem dX5_swap_83 : decode cX5_swap 83 = .ok (.iaload, 1) := by decide +kernel
theorem dX5_swap_84 : decode cX5_swap 84 = .ok (.iastore, 1) := by decide +kernel
theorem dX5_swap_85 : decode cX5_swap 85 = .ok (.aload_n 0, 1) := by decide +kernel
theorem dX5_swap_86 : decode cX5_swap 86 = .ok (.getfield 7, 3) := by decide +kernel
theorem dX5_swap_89 : decode cX5_swap 89 = .ok (.bipush 29, 2) := by decide +kernel
theorem dX5_swap_91 : decode cX5_swap 91 = .ok (.bipush 11, 2) := by decide +kernel
theorem dX5_swap_93 : decode cX5_swap 93 = .ok (.iload_n 2, 1) := by decide +kernel
theorem dX5_swap_94 : decode cX5_swap 94 = .ok (.imul, 1) := by decide +kernel
theorem dX5_swap_95 : decode cX5_swap 95 = .ok (.iadd, 1) := by decide +kernel
theorem dX5_swap_96 : decode cX5_swap 96 = .ok (.iload_n 3, 1) := by decide +kernel
theorem dX5_swap_97 : decode cX5_swap 97 = .ok (.iadd, 1) := by decide +kernel
theorem dX5_swap_98 : decode cX5_swap 98 = .ok (.iload 4, 2) := by decide +kernel
theorem dX5_swap_100 : decode cX5_swap 100 = .ok (.iastore, 1) := by decide +kernel
theorem dX5_swap_101 : decode cX5_swap 101 = .ok (.iinc 3 1, 3) := by decide +kernel
theorem dX5_swap_104 : decode cX5_swap 104 = .ok (.goto (-69), 3) := by decide +kernel
theorem dX5_swap_107 : decode cX5_swap 107 = .ok (.aload_n 0, 1) := by decide +kernel
theorem dX5_swap_108 : decode cX5_swap 108 = .ok (.invokevirtual 108, 3) := by decide +kernel
theorem dX5_swap_111 : decode cX5_swap 111 = .ok (.aload_n 0, 1) := by decide +kernel
theorem dX5_swap_112 : decode cX5_swap 112 = .ok (.getfield 98, 3) := by decide +kernel
theorem dX5_swap_115 : decode cX5_swap 115 = .ok (.ireturn, 1) := by decide +kernel
theorem dX5_clear_0 : decode cX5_clear 0 = .ok (.aload_n 0, 1) := by decide +kernel
theorem dX5_clear_1 : decode cX5_clear 1 = .ok (.invokevirtual 134, 3) := by decide +kernel
theorem dX5_clear_4 : decode cX5_clear 4 = .ok (.aload_n 0, 1) := by decide +kernel
theorem dX5_clear_5 : decode cX5_clear 5 = .ok (.getfield 7, 3) := by decide +kernel
theorem dX5_clear_8 : decode cX5_clear 8 = .ok (.iconst 4, 1) := by decide +kernel
theorem dX5_clear_9 : decode cX5_clear 9 = .ok (.iaload, 1) := by decide +kernel
theorem dX5_clear_10 : decode cX5_clear 10 = .ok (.istore_n 1, 1) := by decide +kernel
theorem dX5_clear_11 : decode cX5_clear 11 = .ok (.bipush 29, 2) := by decide +kernel
theorem dX5_clear_13 : decode cX5_clear 13 = .ok (.istore_n 2, 1) := by decide +kernel
theorem dX5_clear_14 : decode cX5_clear 14 = .ok (.iload_n 2, 1) := by decide +kernel
theorem dX5_clear_15 : decode cX5_clear 15 = .ok (.sipush 293, 3) := by decide +kernel
theorem dX5_clear_18 : decode cX5_clear 18 = .ok (.if_icmp .ge 16, 3) := by decide +kernel
theorem dX5_clear_21 : decode cX5_clear 21 = .ok (.aload_n 0, 1) := by decide +kernel
theorem dX5_clear_22 : decode cX5_clear 22 = .ok (.getfield 7, 3) := by decide +kernel
theorem dX5_clear_25 : decode cX5_clear 25 = .ok (.iload_n 2, 1) := by decide +kernel
theorem dX5_clear_26 : decode cX5_clear 26 = .ok (.iconst 0, 1) := by decide +kernel
theorem dX5_clear_27 : decode cX5_clear 27 = .ok (.iastore, 1) := by decide +kernel
theorem dX5_clear_28 : decode cX5_clear 28 = .ok (.iinc 2 1, 3) := by decide +kernel
theorem dX5_clear_31 : decode cX5_clear 31 = .ok (.goto (-17), 3) := by decide +kernel
theorem dX5_clear_34 : decode cX5_clear 34 = .ok (.aload_n 0, 1) := by decide +kernel
theorem dX5_clear_35 : decode cX5_clear 35 = .ok (.getfield 7, 3) := by decide +kernel
theorem dX5_clear_38 : decode cX5_clear 38 = .ok (.iconst 4, 1) := by decide +kernel
theorem dX5_clear_39 : decode cX5_clear 39 = .ok (.iconst 0, 1) := by decide +kernel
theorem dX5_clear_40 : decode cX5_clear 40 = .ok (.iastore, 1) := by decide +kernel
theorem dX5_clear_41 : decode cX5_clear 41 = .ok (.iload_n 1, 1) := by decide +kernel
theorem dX5_clear_42 : decode cX5_clear 42 = .ok (.ireturn, 1) := by decide +kernel
theorem dX5_often_0 : decode cX5_often 0 = .ok (.iconst 0, 1) := by decide +kernel
theorem dX5_often_1 : decode cX5_often 1 = .ok (.istore_n 2, 1) := by decide +kernel
theorem dX5_often_2 : decode cX5_often 2 = .ok (.iconst 0, 1) := by decide +kernel
theorem dX5_often_3 : decode cX5_often 3 = .ok (.istore_n 3, 1) := by decide +kernel
theorem dX5_often_4 : decode cX5_often 4 = .ok (.iload_n 3, 1) := by decide +kernel
theorem dX5_often_5 : decode cX5_often 5 = .ok (.aload_n 0, 1) := by decide +kernel
theorem dX5_often_6 : decode cX5_often 6 = .ok (.getfield 7, 3) := by decide +kernel
theorem dX5_often_9 : decode cX5_often 9 = .ok (.iconst 4, 1) := by decide +kernel
theorem dX5_often_10 : decode cX5_often 10 = .ok (.iaload, 1) := by decide +kernel
theorem dX5_often_11 : decode cX5_often 11 = .ok (.if_icmp .ge 74, 3) := by decide +kernel
theorem dX5_often_14 : decode cX5_often 14 = .ok (.iconst 0, 1) := by decide +kernel
theorem dX5_often_15 : decode cX5_often 15 = .ok (.istore 4, 2) := by decide +kernel
theorem dX5_often_17 : decode cX5_often 17 = .ok (.iload 4, 2) := by decide +kernel
theorem dX5_often_19 : decode cX5_often 19 = .ok (.aload_n 0, 1) := by decide +kernel
theorem dX5_often_20 : decode cX5_often 20 = .ok (.iload_n 3, 1) := by decide +kernel
theorem dX5_often_21 : decode cX5_often 21 = .ok (.invokevirtual 66, 3) := by decide +kernel
theorem dX5_often_24 : decode cX5_often 24 = .ok (.if_icmp .ge 55, 3) := by decide +kernel
theorem dX5_often_27 : decode cX5_often 27 = .ok (.aload_n 0, 1) := by decide +kernel
theorem dX5_often_28 : decode cX5_often 28 = .ok (.iload_n 3, 1) := by decide +kernel
theorem dX5_often_29 : decode cX5_often 29 = .ok (.iload 4, 2) := by decide +kernel
theorem dX5_often_31 : decode cX5_often 31 = .ok (.invokevirtual 70, 3) := by decide +kernel
theorem dX5_often_34 : decode cX5_often 34 = .ok (.invokestatic 74, 3) := by decide +kernel
theorem dX5_often_37 : decode cX5_often 37 = .ok (.istore 5, 2) := by decide +kernel
theorem dX5_often_39 : decode cX5_often 39 = .ok (.iload_n 2, 1) := by decide +kernel
theorem dX5_often_40 : decode cX5_often 40 = .ok (.iload_n 1, 1) := by decide +kernel
theorem dX5_often_41 : decode cX5_often 41 = .ok (.sipush (-1006), 3) := by decide +kernel
theorem dX5_often_44 : decode cX5_often 44 = .ok (.if_icmp .ne 16, 3) := by decide +kernel
theorem dX5_often_47 : decode cX5_often 47 = .ok (.iload 5, 2) := by decide +kernel
theorem dX5_often_49 : decode cX5_often 49 = .ok (.ifCond .le 7, 3) := by decide +kernel
theorem dX5_often_52 : decode cX5_often 52 = .ok (.iconst 1, 1) := by decide +kernel
theorem dX5_often_53 : decode cX5_often 53 = .ok (.goto 18, 3) := by decide +kernel
theorem dX5_often_56 : decode cX5_often 56 = .ok (.iconst 0, 1) := by decide +kernel
theorem dX5_often_57 : decode cX5_often 57 = .ok (.goto 14, 3) := by decide +kernel
theorem dX5_often_60 : decode cX5_often 60 = .ok (.iload 5, 2) := by decide +kernel
theorem dX5_often_62 : decode cX5_often 62 = .ok (.iload_n 1, 1) := by decide +kernel
theorem dX5_often_63 : decode cX5_often 63 = .ok (.if_icmp .ne 7, 3) := by decide +kernel
theorem dX5_often_66 : decode cX5_often 66 = .ok (.iconst 1, 1) := by decide +kernel
theorem dX5_often_67 : decode cX5_often 67 = .ok (.goto 4, 3) := by decide +kernel
theorem dX5_often_70 : decode cX5_often 70 = .ok (.iconst 0, 1) := by decide +kernel
theorem dX5_often_71 : decode cX5_often 71 = .ok (.iadd, 1) := by decide +kernel
theorem dX5_often_72 : decode cX5_often 72 = .ok (.istore_n 2, 1) := by decide +kernel
theorem dX5_often_73 : decode cX5_often 73 = .ok (.iinc 4 1, 3) := by decide +kernel
theorem dX5_often_76 : decode cX5_often 76 = .ok (.goto (-59), 3) := by decide +kernel
theorem dX5_often_79 : decode cX5_often 79 = .ok (.iinc 3 1, 3) := by decide +kernel
theorem dX5_often_82 : decode cX5_often 82 = .ok (.goto (-78), 3) := by decide +kernel
theorem dX5_often_85 : decode cX5_often 85 = .ok (.iload_n 2, 1) := by decide +kernel
theorem dX5_often_86 : decode cX5_often 86 = .ok (.ireturn, 1) := by decide +kernel
theorem dX5_sortOf_0 : decode cX5_sortOf 0 = .ok (.iload_n 1, 1) := by decide +kernel
theorem dX5_sortOf_1 : decode cX5_sortOf 1 = .ok (.invokestatic 137, 3) := by decide +kernel
theorem dX5_sortOf_4 : decode cX5_sortOf 4 = .ok (.ifCond .ne 7, 3) := by decide +kernel
theorem dX5_sortOf_7 : decode cX5_sortOf 7 = .ok (.sipush (-1001), 3) := by decide +kernel
theorem dX5_sortOf_10 : decode cX5_sortOf 10 = .ok (.ireturn, 1) := by decide +kernel
theorem dX5_sortOf_11 : decode cX5_sortOf 11 = .ok (.iload_n 2, 1) := by decide +kernel
theorem dX5_sortOf_12 : decode cX5_sortOf 12 = .ok (.tableswitch 76 0 5 #[40, 40, 40, 54, 62, 70], 40) := by decide +kernel
theorem dX5_sortOf_52 : decode cX5_sortOf 52 = .ok (.aload_n 0, 1) := by decide +kernel
theorem dX5_sortOf_53 : decode cX5_sortOf 53 = .ok (.getfield 7, 3) := by decide +kernel
theorem dX5_sortOf_56 : decode cX5_sortOf 56 = .ok (.iconst 5, 1) := by decide +kernel
theorem dX5_sortOf_57 : decode cX5_sortOf 57 = .ok (.bipush 8, 2) := by decide +kernel
theorem dX5_sortOf_59 : decode cX5_sortOf 59 = .ok (.iload_n 2, 1) := by decide +kernel
theorem dX5_sortOf_60 : decode cX5_sortOf 60 = .ok (.imul, 1) := by decide +kernel
theorem dX5_sortOf_61 : decode cX5_sortOf 61 = .ok (.iadd, 1) := by decide +kernel
theorem dX5_sortOf_62 : decode cX5_sortOf 62 = .ok (.iload_n 1, 1) := by decide +kernel
theorem dX5_sortOf_63 : decode cX5_sortOf 63 = .ok (.iadd, 1) := by decide +kernel
theorem dX5_sortOf_64 : decode cX5_sortOf 64 = .ok (.iaload, 1) := by decide +kernel
theorem dX5_sortOf_65 : decode cX5_sortOf 65 = .ok (.ireturn, 1) := by decide +kernel
theorem dX5_sortOf_66 : decode cX5_sortOf 66 = .ok (.aload_n 0, 1) := by decide +kernel
theorem dX5_sortOf_67 : decode cX5_sortOf 67 = .ok (.iload_n 1, 1) := by decide +kernel
theorem dX5_sortOf_68 : decode cX5_sortOf 68 = .ok (.bipush 13, 2) := by decide +kernel
theorem dX5_sortOf_70 : decode cX5_sortOf 70 = .ok (.invokevirtual 77, 3) := by decide +kernel
theorem dX5_sortOf_73 : decode cX5_sortOf 73 = .ok (.ireturn, 1) := by decide +kernel
theorem dX5_sortOf_74 : decode cX5_sortOf 74 = .ok (.aload_n 0, 1) := by decide +kernel
theorem dX5_sortOf_75 : decode cX5_sortOf 75 = .ok (.iload_n 1, 1) := by decide +kernel
theorem dX5_sortOf_76 : decode cX5_sortOf 76 = .ok (.bipush 21, 2) := by decide +kernel
theorem dX5_sortOf_78 : decode cX5_sortOf 78 = .ok (.invokevirtual 77, 3) := by decide +kernel
theorem dX5_sortOf_81 : decode cX5_sortOf 81 = .ok (.ireturn, 1) := by decide +kernel
theorem dX5_sortOf_82 : decode cX5_sortOf 82 = .ok (.aload_n 0, 1) := by decide +kernel
theorem dX5_sortOf_83 : decode cX5_sortOf 83 = .ok (.iload_n 1, 1) := by decide +kernel
theorem dX5_sortOf_84 : decode cX5_sortOf 84 = .ok (.invokevirtual 148, 3) := by decide +kernel
theorem dX5_sortOf_87 : decode cX5_sortOf 87 = .ok (.ireturn, 1) := by decide +kernel
theorem dX5_sortOf_88 : decode cX5_sortOf 88 = .ok (.sipush (-1002), 3) := by decide +kernel
theorem dX5_sortOf_91 : decode cX5_sortOf 91 = .ok (.ireturn, 1) := by decide +kernel
theorem dX5_lineOf_0 : decode cX5_lineOf 0 = .ok (.aload_n 0, 1) := by decide +kernel
theorem dX5_lineOf_1 : decode cX5_lineOf 1 = .ok (.iload_n 1, 1) := by decide +kernel
theorem dX5_lineOf_2 : decode cX5_lineOf 2 = .ok (.invokevirtual 151, 3) := by decide +kernel
theorem dX5_lineOf_5 : decode cX5_lineOf 5 = .ok (.iconst 0, 1) := by decide +kernel
theorem dX5_lineOf_6 : decode cX5_lineOf 6 = .ok (.istore_n 3, 1) := by decide +kernel
theorem dX5_lineOf_7 : decode cX5_lineOf 7 = .ok (.aload_n 0, 1) := by decide +kernel
theorem dX5_lineOf_8 : decode cX5_lineOf 8 = .ok (.getfield 34, 3) := by decide +kernel
theorem dX5_lineOf_11 : decode cX5_lineOf 11 = .ok (.iload_n 3, 1) := by decide +kernel
theorem dX5_lineOf_12 : decode cX5_lineOf 12 = .ok (.iconst 1, 1) := by decide +kernel
theorem dX5_lineOf_13 : decode cX5_lineOf 13 = .ok (.iadd, 1) := by decide +kernel
theorem dX5_lineOf_14 : decode cX5_lineOf 14 = .ok (.iaload, 1) := by decide +kernel
theorem dX5_lineOf_15 : decode cX5_lineOf 15 = .ok (.iload_n 2, 1) := by decide +kernel
theorem dX5_lineOf_16 : decode cX5_lineOf 16 = .ok (.if_icmp .gt 9, 3) := by decide +kernel
theorem dX5_lineOf_19 : decode cX5_lineOf 19 = .ok (.iinc 3 1, 3) := by decide +kernel
theorem dX5_lineOf_22 : decode cX5_lineOf 22 = .ok (.goto (-15), 3) := by decide +kernel
theorem dX5_lineOf_25 : decode cX5_lineOf 25 = .ok (.iload_n 3, 1) := by decide +kernel
theorem dX5_lineOf_26 : decode cX5_lineOf 26 = .ok (.ireturn, 1) := by decide +kernel
theorem dX5_word_0 : decode cX5_word 0 = .ok (.aload_n 0, 1) := by decide +kernel
theorem dX5_word_1 : decode cX5_word 1 = .ok (.iload_n 1, 1) := by decide +kernel
theorem dX5_word_2 : decode cX5_word 2 = .ok (.invokevirtual 142, 3) := by decide +kernel
theorem dX5_word_5 : decode cX5_word 5 = .ok (.ifCond .ne 7, 3) := by decide +kernel
theorem dX5_word_8 : decode cX5_word 8 = .ok (.sipush (-1001), 3) := by decide +kernel
theorem dX5_word_11 : decode cX5_word 11 = .ok (.ireturn, 1) := by decide +kernel
theorem dX5_word_12 : decode cX5_word 12 = .ok (.iload_n 2, 1) := by decide +kernel
theorem dX5_word_13 : decode cX5_word 13 = .ok (.tableswitch 52 0 3 #[31, 37, 43, 43], 31) := by decide +kernel
theorem dX5_word_44 : decode cX5_word 44 = .ok (.aload_n 0, 1) := by decide +kernel
theorem dX5_word_45 : decode cX5_word 45 = .ok (.iload_n 1, 1) := by decide +kernel
theorem dX5_word_46 : decode cX5_word 46 = .ok (.invokevirtual 66, 3) := by decide +kernel
theorem dX5_word_49 : decode cX5_word 49 = .ok (.ireturn, 1) := by decide +kernel
theorem dX5_word_50 : decode cX5_word 50 = .ok (.aload_n 0, 1) := by decide +kernel
theorem dX5_word_51 : decode cX5_word 51 = .ok (.iload_n 1, 1) := by decide +kernel
theorem dX5_word_52 : decode cX5_word 52 = .ok (.invokevirtual 80, 3) := by decide +kernel
theorem dX5_word_55 : decode cX5_word 55 = .ok (.ireturn, 1) := by decide +kernel
theorem dX5_word_56 : decode cX5_word 56 = .ok (.aload_n 0, 1) := by decide +kernel
theorem dX5_word_57 : decode cX5_word 57 = .ok (.iload_n 2, 1) := by decide +kernel
theorem dX5_word_58 : decode cX5_word 58 = .ok (.iconst 2, 1) := by decide +kernel
theorem dX5_word_59 : decode cX5_word 59 = .ok (.isub, 1) := by decide +kernel
theorem dX5_word_60 : decode cX5_word 60 = .ok (.iload_n 1, 1) := by decide +kernel
theorem dX5_word_61 : decode cX5_word 61 = .ok (.invokevirtual 154, 3) := by decide +kernel
theorem dX5_word_64 : decode cX5_word 64 = .ok (.ireturn, 1) := by decide +kernel
theorem dX5_word_65 : decode cX5_word 65 = .ok (.iload_n 2, 1) := by decide +kernel
theorem dX5_word_66 : decode cX5_word 66 = .ok (.ifCond .ge 9, 3) := by decide +kernel
theorem dX5_word_69 : decode cX5_word 69 = .ok (.sipush (-1002), 3) := by decide +kernel
theorem dX5_word_72 : decode cX5_word 72 = .ok (.goto 28, 3) := by decide +kernel
theorem dX5_word_75 : decode cX5_word 75 = .ok (.iload_n 2, 1) := by decide +kernel
theorem dX5_word_76 : decode cX5_word 76 = .ok (.iconst 4, 1) := by decide +kernel
theorem dX5_word_77 : decode cX5_word 77 = .ok (.isub, 1) := by decide +kernel
theorem dX5_word_78 : decode cX5_word 78 = .ok (.aload_n 0, 1) := by decide +kernel
theorem dX5_word_79 : decode cX5_word 79 = .ok (.iload_n 1, 1) := by decide +kernel
theorem dX5_word_80 : decode cX5_word 80 = .ok (.invokevirtual 66, 3) := by decide +kernel
theorem dX5_word_83 : decode cX5_word 83 = .ok (.if_icmp .ge 14, 3) := by decide +kernel
theorem dX5_word_86 : decode cX5_word 86 = .ok (.aload_n 0, 1) := by decide +kernel
theorem dX5_word_87 : decode cX5_word 87 = .ok (.iload_n 1, 1) := by decide +kernel
theorem dX5_word_88 : decode cX5_word 88 = .ok (.iload_n 2, 1) := by decide +kernel
theorem dX5_word_89 : decode cX5_word 89 = .ok (.iconst 4, 1) := by decide +kernel
theorem dX5_word_90 : decode cX5_word 90 = .ok (.isub, 1) := by decide +kernel
theorem dX5_word_91 : decode cX5_word 91 = .ok (.invokevirtual 70, 3) := by decide +kernel
theorem dX5_word_94 : decode cX5_word 94 = .ok (.goto 6, 3) := by decide +kernel
theorem dX5_word_97 : decode cX5_word 97 = .ok (.sipush (-1006), 3) := by decide +kernel
theorem dX5_word_100 : decode cX5_word 100 = .ok (.ireturn, 1) := by decide +kernel
theorem dX5_isWay_0 : decode cX5_isWay 0 = .ok (.iload_n 0, 1) := by decide +kernel
theorem dX5_isWay_1 : decode cX5_isWay 1 = .ok (.ifCond .eq 8, 3) := by decide +kernel
theorem dX5_isWay_4 : decode cX5_isWay 4 = .ok (.iload_n 0, 1) := by decide +kernel
theorem dX5_isWay_5 : decode cX5_isWay 5 = .ok (.iconst 1, 1) := by decide +kernel
theorem dX5_isWay_6 : decode cX5_isWay 6 = .ok (.if_icmp .ne 7, 3) := by decide +kernel
theorem dX5_isWay_9 : decode cX5_isWay 9 = .ok (.iconst 1, 1) := by decide +kernel
theorem dX5_isWay_10 : decode cX5_isWay 10 = .ok (.goto 4, 3) := by decide +kernel
theorem dX5_isWay_13 : decode cX5_isWay 13 = .ok (.iconst 0, 1) := by decide +kernel
theorem dX5_isWay_14 : decode cX5_isWay 14 = .ok (.ireturn, 1) := by decide +kernel
theorem dX5_line_0 : decode cX5_line 0 = .ok (.iload_n 1, 1) := by decide +kernel
theorem dX5_line_1 : decode cX5_line 1 = .ok (.invokestatic 157, 3) := by decide +kernel
theorem dX5_line_4 : decode cX5_line 4 = .ok (.ifCond .eq 15, 3) := by decide +kernel
theorem dX5_line_7 : decode cX5_line 7 = .ok (.iload_n 3, 1) := by decide +kernel
theorem dX5_line_8 : decode cX5_line 8 = .ok (.i2l, 1) := by decide +kernel
theorem dX5_line_9 : decode cX5_line 9 = .ok (.lconst 0, 1) := by decide +kernel
theorem dX5_line_10 : decode cX5_line 10 = .ok (.ldc2_w 160, 3) := by decide +kernel
theorem dX5_line_13 : decode cX5_line 13 = .ok (.invokestatic 58, 3) := by decide +kernel
theorem dX5_line_16 : decode cX5_line 16 = .ok (.ifCond .ne 7, 3) := by decide +kernel
theorem dX5_line_19 : decode cX5_line 19 = .ok (.sipush (-1002), 3) := by decide +kernel
theorem dX5_line_22 : decode cX5_line 22 = .ok (.ireturn, 1) := by decide +kernel
theorem dX5_line_23 : decode cX5_line 23 = .ok (.aload_n 0, 1) := by decide +kernel
theorem dX5_line_24 : decode cX5_line 24 = .ok (.iload_n 1, 1) := by decide +kernel
theorem dX5_line_25 : decode cX5_line 25 = .ok (.invokevirtual 151, 3) := by decide +kernel
theorem dX5_line_28 : decode cX5_line 28 = .ok (.iload_n 2, 1) := by decide +kernel
theorem dX5_line_29 : decode cX5_line 29 = .ok (.i2l, 1) := by decide +kernel
theorem dX5_line_30 : decode cX5_line 30 = .ok (.lconst 0, 1) := by decide +kernel
theorem dX5_line_31 : decode cX5_line 31 = .ok (.aload_n 0, 1) := by decide +kernel
theorem dX5_line_32 : decode cX5_line 32 = .ok (.getfield 98, 3) := by decide +kernel
theorem dX5_line_35 : decode cX5_line 35 = .ok (.i2l, 1) := by decide +kernel
theorem dX5_line_36 : decode cX5_line 36 = .ok (.lconst 1, 1) := by decide +kernel
theorem dX5_line_37 : decode cX5_line 37 = .ok (.lsub, 1) := by decide +kernel
theorem dX5_line_38 : decode cX5_line 38 = .ok (.invokestatic 58, 3) := by decide +kernel
theorem dX5_line_41 : decode cX5_line 41 = .ok (.ifCond .ne 7, 3) := by decide +kernel
theorem dX5_line_44 : decode cX5_line 44 = .ok (.sipush (-1001), 3) := by decide +kernel
theorem dX5_line_47 : decode cX5_line 47 = .ok (.ireturn, 1) := by decide +kernel
theorem dX5_line_48 : decode cX5_line 48 = .ok (.aload_n 0, 1) := by decide +kernel
theorem dX5_line_49 : decode cX5_line 49 = .ok (.getfield 34, 3) := by decide +kernel
theorem dX5_line_52 : decode cX5_line 52 = .ok (.iload_n 2, 1) := by decide +kernel
theorem dX5_line_53 : decode cX5_line 53 = .ok (.iaload, 1) := by decide +kernel
theorem dX5_line_54 : decode cX5_line 54 = .ok (.istore 4, 2) := by decide +kernel
theorem dX5_line_56 : decode cX5_line 56 = .ok (.aload_n 0, 1) := by decide +kernel
theorem dX5_line_57 : decode cX5_line 57 = .ok (.iload_n 2, 1) := by decide +kernel
theorem dX5_line_58 : decode cX5_line 58 = .ok (.invokevirtual 114, 3) := by decide +kernel
theorem dX5_line_61 : decode cX5_line 61 = .ok (.istore 5, 2) := by decide +kernel
theorem dX5_line_63 : decode cX5_line 63 = .ok (.iload_n 3, 1) := by decide +kernel
theorem dX5_line_64 : decode cX5_line 64 = .ok (.tableswitch 135 0 7 #[48, 51, 59, 68, 75, 82, 91, 121], 48) := by decide +kernel
theorem dX5_line_112 : decode cX5_line 112 = .ok (.iload 4, 2) := by decide +kernel
theorem dX5_line_114 : decode cX5_line 114 = .ok (.ireturn, 1) := by decide +kernel
theorem dX5_line_115 : decode cX5_line 115 = .ok (.iload 5, 2) := by decide +kernel
theorem dX5_line_117 : decode cX5_line 117 = .ok (.iconst 1, 1) := by decide +kernel
theorem dX5_line_118 : decode cX5_line 118 = .ok (.iadd, 1) := by decide +kernel
theorem dX5_line_119 : decode cX5_line 119 = .ok (.iload 4, 2) := by decide +kernel
theorem dX5_line_121 : decode cX5_line 121 = .ok (.isub, 1) := by decide +kernel
theorem dX5_line_122 : decode cX5_line 122 = .ok (.ireturn, 1) := by decide +kernel
theorem dX5_line_123 : decode cX5_line 123 = .ok (.aload_n 0, 1) := by decide +kernel
theorem dX5_line_124 : decode cX5_line 124 = .ok (.iload 4, 2) := by decide +kernel
theorem dX5_line_126 : decode cX5_line 126 = .ok (.iload 5, 2) := by decide +kernel
theorem dX5_line_128 : decode cX5_line 128 = .ok (.invokevirtual 89, 3) := by decide +kernel
theorem dX5_line_131 : decode cX5_line 131 = .ok (.ireturn, 1) := by decide +kernel
theorem dX5_line_132 : decode cX5_line 132 = .ok (.aload_n 0, 1) := by decide +kernel
theorem dX5_line_133 : decode cX5_line 133 = .ok (.iload 4, 2) := by decide +kernel
theorem dX5_line_135 : decode cX5_line 135 = .ok (.invokevirtual 83, 3) := by decide +kernel
theorem dX5_line_138 : decode cX5_line 138 = .ok (.ireturn, 1) := by decide +kernel
theorem dX5_line_139 : decode cX5_line 139 = .ok (.aload_n 0, 1) := by decide +kernel
theorem dX5_line_140 : decode cX5_line 140 = .ok (.iload 5, 2) := by decide +kernel
theorem dX5_line_142 : decode cX5_line 142 = .ok (.invokevirtual 86, 3) := by decide +kernel
theorem dX5_line_145 : decode cX5_line 145 = .ok (.ireturn, 1) := by decide +kernel
theorem dX5_line_146 : decode cX5_line 146 = .ok (.aload_n 0, 1) := by decide +kernel
theorem dX5_line_147 : decode cX5_line 147 = .ok (.iload 4, 2) := by decide +kernel
theorem dX5_line_149 : decode cX5_line 149 = .ok (.iload 5, 2) := by decide +kernel
theorem dX5_line_151 : decode cX5_line 151 = .ok (.invokevirtual 92, 3) := by decide +kernel
theorem dX5_line_154 : decode cX5_line 154 = .ok (.ireturn, 1) := by decide +kernel
theorem dX5_line_155 : decode cX5_line 155 = .ok (.aload_n 0, 1) := by decide +kernel
theorem dX5_line_156 : decode cX5_line 156 = .ok (.iload_n 2, 1) := by decide +kernel
theorem dX5_line_157 : decode cX5_line 157 = .ok (.invokevirtual 120, 3) := by decide +kernel
theorem dX5_line_160 : decode cX5_line 160 = .ok (.ifCond .eq 21, 3) := by decide +kernel
theorem dX5_line_163 : decode cX5_line 163 = .ok (.aload_n 0, 1) := by decide +kernel
theorem dX5_line_164 : decode cX5_line 164 = .ok (.getfield 7, 3) := by decide +kernel
theorem dX5_line_167 : decode cX5_line 167 = .ok (.iconst 0, 1) := by decide +kernel
theorem dX5_line_168 : decode cX5_line 168 = .ok (.iaload, 1) := by decide +kernel
theorem dX5_line_169 : decode cX5_line 169 = .ok (.aload_n 0, 1) := by decide +kernel
theorem dX5_line_170 : decode cX5_line 170 = .ok (.iload 4, 2) := by decide +kernel
theorem dX5_line_172 : decode cX5_line 172 = .ok (.iload 5, 2) := by decide +kernel
theorem dX5_line_174 : decode cX5_line 174 = .ok (.invokevirtual 92, 3) := by decide +kernel
theorem dX5_line_177 : decode cX5_line 177 = .ok (.isub, 1) := by decide +kernel
theorem dX5_line_178 : decode cX5_line 178 = .ok (.goto 6, 3) := by decide +kernel
theorem dX5_line_181 : decode cX5_line 181 = .ok (.sipush (-1006), 3) := by decide +kernel
theorem dX5_line_184 : decode cX5_line 184 = .ok (.ireturn, 1) := by decide +kernel
theorem dX5_line_185 : decode cX5_line 185 = .ok (.aload_n 0, 1) := by decide +kernel
theorem dX5_line_186 : decode cX5_line 186 = .ok (.iload_n 2, 1) := by decide +kernel
theorem dX5_line_187 : decode cX5_line 187 = .ok (.invokevirtual 120, 3) := by decide +kernel
theorem dX5_line_190 : decode cX5_line 190 = .ok (.ifCond .eq 7, 3) := by decide +kernel
theorem dX5_line_193 : decode cX5_line 193 = .ok (.iconst 1, 1) := by decide +kernel
theorem dX5_line_194 : decode cX5_line 194 = .ok (.goto 4, 3) := by decide +kernel
theorem dX5_line_197 : decode cX5_line 197 = .ok (.iconst 0, 1) := by decide +kernel
theorem dX5_line_198 : decode cX5_line 198 = .ok (.ireturn, 1) := by decide +kernel
theorem dX5_line_199 : decode cX5_line 199 = .ok (.aload_n 0, 1) := by decide +kernel
theorem dX5_line_200 : decode cX5_line 200 = .ok (.iload_n 2, 1) := by decide +kernel
theorem dX5_line_201 : decode cX5_line 201 = .ok (.invokevirtual 162, 3) := by decide +kernel
theorem dX5_line_204 : decode cX5_line 204 = .ok (.ifCond .eq 7, 3) := by decide +kernel
theorem dX5_line_207 : decode cX5_line 207 = .ok (.iconst 1, 1) := by decide +kernel
theorem dX5_line_208 : decode cX5_line 208 = .ok (.goto 4, 3) := by decide +kernel
theorem dX5_line_211 : decode cX5_line 211 = .ok (.iconst 0, 1) := by decide +kernel
theorem dX5_line_212 : decode cX5_line 212 = .ok (.ireturn, 1) := by decide +kernel
theorem dX5_ofLines_0 : decode cX5_ofLines 0 = .ok (.iconst 0, 1) := by decide +kernel
theorem dX5_ofLines_1 : decode cX5_ofLines 1 = .ok (.istore_n 2, 1) := by decide +kernel
theorem dX5_ofLines_2 : decode cX5_ofLines 2 = .ok (.sipush (-1006), 3) := by decide +kernel
theorem dX5_ofLines_5 : decode cX5_ofLines 5 = .ok (.istore_n 3, 1) := by decide +kernel
theorem dX5_ofLines_6 : decode cX5_ofLines 6 = .ok (.iconst 0, 1) := by decide +kernel
theorem dX5_ofLines_7 : decode cX5_ofLines 7 = .ok (.istore 4, 2) := by decide +kernel
theorem dX5_ofLines_9 : decode cX5_ofLines 9 = .ok (.iload 4, 2) := by decide +kernel
theorem dX5_ofLines_11 : decode cX5_ofLines 11 = .ok (.aload_n 0, 1) := by decide +kernel
theorem dX5_ofLines_12 : decode cX5_ofLines 12 = .ok (.getfield 98, 3) := by decide +kernel
theorem dX5_ofLines_15 : decode cX5_ofLines 15 = .ok (.if_icmp .ge 94, 3) := by decide +kernel
theorem dX5_ofLines_18 : decode cX5_ofLines 18 = .ok (.aload_n 0, 1) := by decide +kernel
theorem dX5_ofLines_19 : decode cX5_ofLines 19 = .ok (.iload 4, 2) := by decide +kernel
theorem dX5_ofLines_21 : decode cX5_ofLines 21 = .ok (.invokevirtual 117, 3) := by decide +kernel
theorem dX5_ofLines_24 : decode cX5_ofLines 24 = .ok (.istore 5, 2) := by decide +kernel
theorem dX5_ofLines_26 : decode cX5_ofLines 26 = .ok (.iload 4, 2) := by decide +kernel
theorem dX5_ofLines_28 : decode cX5_ofLines 28 = .ok (.ifCond .eq 9, 3) := by decide +kernel
theorem dX5_ofLines_31 : decode cX5_ofLines 31 = .ok (.iload 5, 2) := by decide +kernel
theorem dX5_ofLines_33 : decode cX5_ofLines 33 = .ok (.iload_n 3, 1) := by decide +kernel
theorem dX5_ofLines_34 : decode cX5_ofLines 34 = .ok (.if_icmp .le 8, 3) := by decide +kernel
theorem dX5_ofLines_37 : decode cX5_ofLines 37 = .ok (.iload 5, 2) := by decide +kernel
theorem dX5_ofLines_39 : decode cX5_ofLines 39 = .ok (.goto 4, 3) := by decide +kernel
theorem dX5_ofLines_42 : decode cX5_ofLines 42 = .ok (.iload_n 3, 1) := by decide +kernel
theorem dX5_ofLines_43 : decode cX5_ofLines 43 = .ok (.istore_n 3, 1) := by decide +kernel
theorem dX5_ofLines_44 : decode cX5_ofLines 44 = .ok (.iload_n 2, 1) := by decide +kernel
theorem dX5_ofLines_45 : decode cX5_ofLines 45 = .ok (.iload_n 1, 1) := by decide +kernel
theorem dX5_ofLines_46 : decode cX5_ofLines 46 = .ok (.iconst 1, 1) := by decide +kernel
theorem dX5_ofLines_47 : decode cX5_ofLines 47 = .ok (.if_icmp .ne 23, 3) := by decide +kernel
theorem dX5_ofLines_50 : decode cX5_ofLines 50 = .ok (.aload_n 0, 1) := by decide +kernel
theorem dX5_ofLines_51 : decode cX5_ofLines 51 = .ok (.aload_n 0, 1) := by decide +kernel
theorem dX5_ofLines_52 : decode cX5_ofLines 52 = .ok (.getfield 34, 3) := by decide +kernel
theorem dX5_ofLines_55 : decode cX5_ofLines 55 = .ok (.iload 4, 2) := by decide +kernel
theorem dX5_ofLines_57 : decode cX5_ofLines 57 = .ok (.iaload, 1) := by decide +kernel
theorem dX5_ofLines_58 : decode cX5_ofLines 58 = .ok (.aload_n 0, 1) := by decide +kernel
theorem dX5_ofLines_59 : decode cX5_ofLines 59 = .ok (.iload 4, 2) := by decide +kernel
theorem dX5_ofLines_61 : decode cX5_ofLines 61 = .ok (.invokevirtual 114, 3) := by decide +kernel
theorem dX5_ofLines_64 : decode cX5_ofLines 64 = .ok (.invokevirtual 101, 3) := by decide +kernel
theorem dX5_ofLines_67 : decode cX5_ofLines 67 = .ok (.goto 34, 3) := by decide +kernel
theorem dX5_ofLines_70 : decode cX5_ofLines 70 = .ok (.iload_n 1, 1) := by decide +kernel
theorem dX5_ofLines_71 : decode cX5_ofLines 71 = .ok (.iconst 2, 1) := by decide +kernel
theorem dX5_ofLines_72 : decode cX5_ofLines 72 = .ok (.if_icmp .ne 15, 3) := by decide +kernel
theorem dX5_ofLines_75 : decode cX5_ofLines 75 = .ok (.aload_n 0, 1) := by decide +kernel
theorem dX5_ofLines_76 : decode cX5_ofLines 76 = .ok (.iload 4, 2) := by decide +kernel
theorem dX5_ofLines_78 : decode cX5_ofLines 78 = .ok (.invokevirtual 162, 3) := by decide +kernel
theorem dX5_ofLines_81 : decode cX5_ofLines 81 = .ok (.ifCond .eq 19, 3) := by decide +kernel
theorem dX5_ofLines_84 : decode cX5_ofLines 84 = .ok (.goto 12, 3) := by decide +kernel
theorem dX5_ofLines_87 : decode cX5_ofLines 87 = .ok (.aload_n 0, 1) := by decide +kernel
theorem dX5_ofLines_88 : decode cX5_ofLines 88 = .ok (.iload 4, 2) := by decide +kernel
theorem dX5_ofLines_90 : decode cX5_ofLines 90 = .ok (.invokevirtual 120, 3) := by decide +kernel
theorem dX5_ofLines_93 : decode cX5_ofLines 93 = .ok (.ifCond .ne 7, 3) := by decide +kernel
theorem dX5_ofLines_96 : decode cX5_ofLines 96 = .ok (.iconst 1, 1) := by decide +kernel
theorem dX5_ofLines_97 : decode cX5_ofLines 97 = .ok (.goto 4, 3) := by decide +kernel
theorem dX5_ofLines_100 : decode cX5_ofLines 100 = .ok (.iconst 0, 1) := by decide +kernel
theorem dX5_ofLines_101 : decode cX5_ofLines 101 = .ok (.iadd, 1) := by decide +kernel
theorem dX5_ofLines_102 : decode cX5_ofLines 102 = .ok (.istore_n 2, 1) := by decide +kernel
theorem dX5_ofLines_103 : decode cX5_ofLines 103 = .ok (.iinc 4 1, 3) := by decide +kernel
theorem dX5_ofLines_106 : decode cX5_ofLines 106 = .ok (.goto (-97), 3) := by decide +kernel
theorem dX5_ofLines_109 : decode cX5_ofLines 109 = .ok (.iload_n 1, 1) := by decide +kernel
theorem dX5_ofLines_110 : decode cX5_ofLines 110 = .ok (.iconst 4, 1) := by decide +kernel
theorem dX5_ofLines_111 : decode cX5_ofLines 111 = .ok (.if_icmp .ne 7, 3) := by decide +kernel
theorem dX5_ofLines_114 : decode cX5_ofLines 114 = .ok (.iload_n 3, 1) := by decide +kernel
theorem dX5_ofLines_115 : decode cX5_ofLines 115 = .ok (.goto 4, 3) := by decide +kernel
theorem dX5_ofLines_118 : decode cX5_ofLines 118 = .ok (.iload_n 2, 1) := by decide +kernel
theorem dX5_ofLines_119 : decode cX5_ofLines 119 = .ok (.ireturn, 1) := by decide +kernel
theorem dX5_lines_0 : decode cX5_lines 0 = .ok (.iload_n 1, 1) := by decide +kernel
theorem dX5_lines_1 : decode cX5_lines 1 = .ok (.invokestatic 157, 3) := by decide +kernel
theorem dX5_lines_4 : decode cX5_lines 4 = .ok (.ifCond .eq 15, 3) := by decide +kernel
theorem dX5_lines_7 : decode cX5_lines 7 = .ok (.iload_n 2, 1) := by decide +kernel
theorem dX5_lines_8 : decode cX5_lines 8 = .ok (.i2l, 1) := by decide +kernel
theorem dX5_lines_9 : decode cX5_lines 9 = .ok (.lconst 0, 1) := by decide +kernel
theorem dX5_lines_10 : decode cX5_lines 10 = .ok (.ldc2_w 165, 3) := by decide +kernel
theorem dX5_lines_13 : decode cX5_lines 13 = .ok (.invokestatic 58, 3) := by decide +kernel
theorem dX5_lines_16 : decode cX5_lines 16 = .ok (.ifCond .ne 7, 3) := by decide +kernel
theorem dX5_lines_19 : decode cX5_lines 19 = .ok (.sipush (-1002), 3) := by decide +kernel
theorem dX5_lines_22 : decode cX5_lines 22 = .ok (.ireturn, 1) := by decide +kernel
theorem dX5_lines_23 : decode cX5_lines 23 = .ok (.aload_n 0, 1) := by decide +kernel
theorem dX5_lines_24 : decode cX5_lines 24 = .ok (.iload_n 1, 1) := by decide +kernel
theorem dX5_lines_25 : decode cX5_lines 25 = .ok (.invokevirtual 151, 3) := by decide +kernel
theorem dX5_lines_28 : decode cX5_lines 28 = .ok (.iload_n 2, 1) := by decide +kernel
theorem dX5_lines_29 : decode cX5_lines 29 = .ok (.ifCond .ne 10, 3) := by decide +kernel
theorem dX5_lines_32 : decode cX5_lines 32 = .ok (.aload_n 0, 1) := by decide +kernel
theorem dX5_lines_33 : decode cX5_lines 33 = .ok (.getfield 98, 3) := by decide +kernel
theorem dX5_lines_36 : decode cX5_lines 36 = .ok (.goto 8, 3) := by decide +kernel
theorem dX5_lines_39 : decode cX5_lines 39 = .ok (.aload_n 0, 1) := by decide +kernel
theorem dX5_lines_40 : decode cX5_lines 40 = .ok (.iload_n 2, 1) := by decide +kernel
theorem dX5_lines_41 : decode cX5_lines 41 = .ok (.invokevirtual 167, 3) := by decide +kernel
theorem dX5_lines_44 : decode cX5_lines 44 = .ok (.ireturn, 1) := by decide +kernel
theorem dX5_areAlike_0 : decode cX5_areAlike 0 = .ok (.aload_n 0, 1) := by decide +kernel
theorem dX5_areAlike_1 : decode cX5_areAlike 1 = .ok (.invokevirtual 108, 3) := by decide +kernel
theorem dX5_areAlike_4 : decode cX5_areAlike 4 = .ok (.iconst 0, 1) := by decide +kernel
theorem dX5_areAlike_5 : decode cX5_areAlike 5 = .ok (.istore_n 1, 1) := by decide +kernel
theorem dX5_areAlike_6 : decode cX5_areAlike 6 = .ok (.iconst 0, 1) := by decide +kernel
theorem dX5_areAlike_7 : decode cX5_areAlike 7 = .ok (.istore_n 2, 1) := by decide +kernel
theorem dX5_areAlike_8 : decode cX5_areAlike 8 = .ok (.iload_n 2, 1) := by decide +kernel
theorem dX5_areAlike_9 : decode cX5_areAlike 9 = .ok (.aload_n 0, 1) := by decide +kernel
theorem dX5_areAlike_10 : decode cX5_areAlike 10 = .ok (.getfield 98, 3) := by decide +kernel
theorem dX5_areAlike_13 : decode cX5_areAlike 13 = .ok (.if_icmp .ge 20, 3) := by decide +kernel
theorem dX5_areAlike_16 : decode cX5_areAlike 16 = .ok (.iload_n 1, 1) := by decide +kernel
theorem dX5_areAlike_17 : decode cX5_areAlike 17 = .ok (.iconst 1, 1) := by decide +kernel
theorem dX5_areAlike_18 : decode cX5_areAlike 18 = .ok (.aload_n 0, 1) := by decide +kernel
theorem dX5_areAlike_19 : decode cX5_areAlike 19 = .ok (.getfield 34, 3) := by decide +kernel
theorem dX5_areAlike_22 : decode cX5_areAlike 22 = .ok (.iload_n 2, 1) := by decide +kernel
theorem dX5_areAlike_23 : decode cX5_areAlike 23 = .ok (.iaload, 1) := by decide +kernel
theorem dX5_areAlike_24 : decode cX5_areAlike 24 = .ok (.ishl, 1) := by decide +kernel
theorem dX5_areAlike_25 : decode cX5_areAlike 25 = .ok (.ior, 1) := by decide +kernel
theorem dX5_areAlike_26 : decode cX5_areAlike 26 = .ok (.istore_n 1, 1) := by decide +kernel
theorem dX5_areAlike_27 : decode cX5_areAlike 27 = .ok (.iinc 2 1, 3) := by decide +kernel
theorem dX5_areAlike_30 : decode cX5_areAlike 30 = .ok (.goto (-22), 3) := by decide +kernel
theorem dX5_areAlike_33 : decode cX5_areAlike 33 = .ok (.aload_n 0, 1) := by decide +kernel
theorem dX5_areAlike_34 : decode cX5_areAlike 34 = .ok (.invokevirtual 111, 3) := by decide +kernel
theorem dX5_areAlike_37 : decode cX5_areAlike 37 = .ok (.iconst 0, 1) := by decide +kernel
theorem dX5_areAlike_38 : decode cX5_areAlike 38 = .ok (.istore_n 2, 1) := by decide +kernel
theorem dX5_areAlike_39 : decode cX5_areAlike 39 = .ok (.iconst 0, 1) := by decide +kernel
theorem dX5_areAlike_40 : decode cX5_areAlike 40 = .ok (.istore_n 3, 1) := by decide +kernel
theorem dX5_areAlike_41 : decode cX5_areAlike 41 = .ok (.iload_n 3, 1) := by decide +kernel
theorem dX5_areAlike_42 : decode cX5_areAlike 42 = .ok (.aload_n 0, 1) := by decide +kernel
theorem dX5_areAlike_43 : decode cX5_areAlike 43 = .ok (.getfield 98, 3) := by decide +kernel
theorem dX5_areAlike_46 : decode cX5_areAlike 46 = .ok (.if_icmp .ge 20, 3) := by decide +kernel
theorem dX5_areAlike_49 : decode cX5_areAlike 49 = .ok (.iload_n 2, 1) := by decide +kernel
theorem dX5_areAlike_50 : decode cX5_areAlike 50 = .ok (.iconst 1, 1) := by decide +kernel
theorem dX5_areAlike_51 : decode cX5_areAlike 51 = .ok (.aload_n 0, 1) := by decide +kernel
theorem dX5_areAlike_52 : decode cX5_areAlike 52 = .ok (.getfield 34, 3) := by decide +kernel
theorem dX5_areAlike_55 : decode cX5_areAlike 55 = .ok (.iload_n 3, 1) := by decide +kernel
theorem dX5_areAlike_56 : decode cX5_areAlike 56 = .ok (.iaload, 1) := by decide +kernel
theorem dX5_areAlike_57 : decode cX5_areAlike 57 = .ok (.ishl, 1) := by decide +kernel
theorem dX5_areAlike_58 : decode cX5_areAlike 58 = .ok (.ior, 1) := by decide +kernel
theorem dX5_areAlike_59 : decode cX5_areAlike 59 = .ok (.istore_n 2, 1) := by decide +kernel
theorem dX5_areAlike_60 : decode cX5_areAlike 60 = .ok (.iinc 3 1, 3) := by decide +kernel
theorem dX5_areAlike_63 : decode cX5_areAlike 63 = .ok (.goto (-22), 3) := by decide +kernel
theorem dX5_areAlike_66 : decode cX5_areAlike 66 = .ok (.iload_n 1, 1) := by decide +kernel
theorem dX5_areAlike_67 : decode cX5_areAlike 67 = .ok (.iload_n 2, 1) := by decide +kernel
theorem dX5_areAlike_68 : decode cX5_areAlike 68 = .ok (.if_icmp .ne 7, 3) := by decide +kernel
theorem dX5_areAlike_71 : decode cX5_areAlike 71 = .ok (.iconst 1, 1) := by decide +kernel
theorem dX5_areAlike_72 : decode cX5_areAlike 72 = .ok (.goto 4, 3) := by decide +kernel
theorem dX5_areAlike_75 : decode cX5_areAlike 75 = .ok (.iconst 0, 1) := by decide +kernel
theorem dX5_areAlike_76 : decode cX5_areAlike 76 = .ok (.ireturn, 1) := by decide +kernel
theorem dX5_allSigns_0 : decode cX5_allSigns 0 = .ok (.iconst 0, 1) := by decide +kernel
theorem dX5_allSigns_1 : decode cX5_allSigns 1 = .ok (.istore_n 1, 1) := by decide +kernel
theorem dX5_allSigns_2 : decode cX5_allSigns 2 = .ok (.iconst 0, 1) := by decide +kernel
theorem dX5_allSigns_3 : decode cX5_allSigns 3 = .ok (.istore_n 2, 1) := by decide +kernel
theorem dX5_allSigns_4 : decode cX5_allSigns 4 = .ok (.iload_n 2, 1) := by decide +kernel
theorem dX5_allSigns_5 : decode cX5_allSigns 5 = .ok (.aload_n 0, 1) := by decide +kernel
theorem dX5_allSigns_6 : decode cX5_allSigns 6 = .ok (.getfield 7, 3) := by decide +kernel
theorem dX5_allSigns_9 : decode cX5_allSigns 9 = .ok (.iconst 4, 1) := by decide +kernel
theorem dX5_allSigns_10 : decode cX5_allSigns 10 = .ok (.iaload, 1) := by decide +kernel
theorem dX5_allSigns_11 : decode cX5_allSigns 11 = .ok (.if_icmp .ge 17, 3) := by decide +kernel
theorem dX5_allSigns_14 : decode cX5_allSigns 14 = .ok (.iload_n 1, 1) := by decide +kernel
theorem dX5_allSigns_15 : decode cX5_allSigns 15 = .ok (.aload_n 0, 1) := by decide +kernel
theorem dX5_allSigns_16 : decode cX5_allSigns 16 = .ok (.iload_n 2, 1) := by decide +kernel
theorem dX5_allSigns_17 : decode cX5_allSigns 17 = .ok (.invokevirtual 66, 3) := by decide +kernel
theorem dX5_allSigns_20 : decode cX5_allSigns 20 = .ok (.iadd, 1) := by decide +kernel
theorem dX5_allSigns_21 : decode cX5_allSigns 21 = .ok (.istore_n 1, 1) := by decide +kernel
theorem dX5_allSigns_22 : decode cX5_allSigns 22 = .ok (.iinc 2 1, 3) := by decide +kernel
theorem dX5_allSigns_25 : decode cX5_allSigns 25 = .ok (.goto (-21), 3) := by decide +kernel
theorem dX5_allSigns_28 : decode cX5_allSigns 28 = .ok (.iload_n 1, 1) := by decide +kernel
theorem dX5_allSigns_29 : decode cX5_allSigns 29 = .ok (.ireturn, 1) := by decide +kernel
theorem dX5_count_0 : decode cX5_count 0 = .ok (.iload_n 1, 1) := by decide +kernel
theorem dX5_count_1 : decode cX5_count 1 = .ok (.tableswitch 63 5 9 #[35, 40, 48, 53, 58], 35) := by decide +kernel
theorem dX5_count_36 : decode cX5_count 36 = .ok (.aload_n 0, 1) := by decide +kernel
theorem dX5_count_37 : decode cX5_count 37 = .ok (.invokevirtual 170, 3) := by decide +kernel
theorem dX5_count_40 : decode cX5_count 40 = .ok (.ireturn, 1) := by decide +kernel
theorem dX5_count_41 : decode cX5_count 41 = .ok (.aload_n 0, 1) := by decide +kernel
theorem dX5_count_42 : decode cX5_count 42 = .ok (.sipush (-1006), 3) := by decide +kernel
theorem dX5_count_45 : decode cX5_count 45 = .ok (.invokevirtual 148, 3) := by decide +kernel
theorem dX5_count_48 : decode cX5_count 48 = .ok (.ireturn, 1) := by decide +kernel
theorem dX5_count_49 : decode cX5_count 49 = .ok (.aload_n 0, 1) := by decide +kernel
theorem dX5_count_50 : decode cX5_count 50 = .ok (.invokevirtual 174, 3) := by decide +kernel
theorem dX5_count_53 : decode cX5_count 53 = .ok (.ireturn, 1) := by decide +kernel
end
section
theorem dX5_count_54 : decode cX5_count 54 = .ok (.aload_n 0, 1) := by decide +kernel
theorem dX5_count_55 : decode cX5_count 55 = .ok (.getfield 177, 3) := by decide +kernel
theorem dX5_count_58 : decode cX5_count 58 = .ok (.ireturn, 1) := by decide +kernel
theorem dX5_count_59 : decode cX5_count 59 = .ok (.aload_n 0, 1) := by decide +kernel
theorem dX5_count_60 : decode cX5_count 60 = .ok (.getfield 52, 3) := by decide +kernel
theorem dX5_count_63 : decode cX5_count 63 = .ok (.ireturn, 1) := by decide +kernel
theorem dX5_count_64 : decode cX5_count 64 = .ok (.iload_n 1, 1) := by decide +kernel
theorem dX5_count_65 : decode cX5_count 65 = .ok (.i2l, 1) := by decide +kernel
theorem dX5_count_66 : decode cX5_count 66 = .ok (.lconst 0, 1) := by decide +kernel
theorem dX5_count_67 : decode cX5_count 67 = .ok (.ldc2_w 165, 3) := by decide +kernel
theorem dX5_count_70 : decode cX5_count 70 = .ok (.invokestatic 58, 3) := by decide +kernel
theorem dX5_count_73 : decode cX5_count 73 = .ok (.ifCond .eq 12, 3) := by decide +kernel
theorem dX5_count_76 : decode cX5_count 76 = .ok (.aload_n 0, 1) := by decide +kernel
theorem dX5_count_77 : decode cX5_count 77 = .ok (.getfield 7, 3) := by decide +kernel
theorem dX5_count_80 : decode cX5_count 80 = .ok (.iload_n 1, 1) := by decide +kernel
theorem dX5_count_81 : decode cX5_count 81 = .ok (.iaload, 1) := by decide +kernel
theorem dX5_count_82 : decode cX5_count 82 = .ok (.goto 6, 3) := by decide +kernel
theorem dX5_count_85 : decode cX5_count 85 = .ok (.sipush (-1002), 3) := by decide +kernel
theorem dX5_count_88 : decode cX5_count 88 = .ok (.ireturn, 1) := by decide +kernel
theorem dX5_body_0 : decode cX5_body 0 = .ok (.aload_n 0, 1) := by decide +kernel
theorem dX5_body_1 : decode cX5_body 1 = .ok (.invokevirtual 95, 3) := by decide +kernel
theorem dX5_body_4 : decode cX5_body 4 = .ok (.aload_n 0, 1) := by decide +kernel
theorem dX5_body_5 : decode cX5_body 5 = .ok (.iload_n 1, 1) := by decide +kernel
theorem dX5_body_6 : decode cX5_body 6 = .ok (.invokevirtual 142, 3) := by decide +kernel
theorem dX5_body_9 : decode cX5_body 9 = .ok (.ifCond .eq 25, 3) := by decide +kernel
theorem dX5_body_12 : decode cX5_body 12 = .ok (.aload_n 0, 1) := by decide +kernel
theorem dX5_body_13 : decode cX5_body 13 = .ok (.iload_n 2, 1) := by decide +kernel
theorem dX5_body_14 : decode cX5_body 14 = .ok (.invokevirtual 142, 3) := by decide +kernel
theorem dX5_body_17 : decode cX5_body 17 = .ok (.ifCond .eq 17, 3) := by decide +kernel
theorem dX5_body_20 : decode cX5_body 20 = .ok (.iload_n 1, 1) := by decide +kernel
theorem dX5_body_21 : decode cX5_body 21 = .ok (.iload_n 2, 1) := by decide +kernel
theorem dX5_body_22 : decode cX5_body 22 = .ok (.if_icmp .gt 12, 3) := by decide +kernel
theorem dX5_body_25 : decode cX5_body 25 = .ok (.aload_n 0, 1) := by decide +kernel
theorem dX5_body_26 : decode cX5_body 26 = .ok (.iload_n 1, 1) := by decide +kernel
theorem dX5_body_27 : decode cX5_body 27 = .ok (.iload_n 2, 1) := by decide +kernel
theorem dX5_body_28 : decode cX5_body 28 = .ok (.invokevirtual 92, 3) := by decide +kernel
theorem dX5_body_31 : decode cX5_body 31 = .ok (.goto 6, 3) := by decide +kernel
theorem dX5_body_34 : decode cX5_body 34 = .ok (.sipush (-1001), 3) := by decide +kernel
theorem dX5_body_37 : decode cX5_body 37 = .ok (.ireturn, 1) := by decide +kernel
theorem dX5_leastMeasure_0 : decode cX5_leastMeasure 0 = .ok (.iload_n 1, 1) := by decide +kernel
theorem dX5_leastMeasure_1 : decode cX5_leastMeasure 1 = .ok (.i2l, 1) := by decide +kernel
theorem dX5_leastMeasure_2 : decode cX5_leastMeasure 2 = .ok (.lconst 1, 1) := by decide +kernel
theorem dX5_leastMeasure_3 : decode cX5_leastMeasure 3 = .ok (.ldc2_w 180, 3) := by decide +kernel
theorem dX5_leastMeasure_6 : decode cX5_leastMeasure 6 = .ok (.invokestatic 58, 3) := by decide +kernel
theorem dX5_leastMeasure_9 : decode cX5_leastMeasure 9 = .ok (.ifCond .ne 7, 3) := by decide +kernel
theorem dX5_leastMeasure_12 : decode cX5_leastMeasure 12 = .ok (.sipush (-1002), 3) := by decide +kernel
theorem dX5_leastMeasure_15 : decode cX5_leastMeasure 15 = .ok (.ireturn, 1) := by decide +kernel
theorem dX5_leastMeasure_16 : decode cX5_leastMeasure 16 = .ok (.aload_n 0, 1) := by decide +kernel
theorem dX5_leastMeasure_17 : decode cX5_leastMeasure 17 = .ok (.getfield 7, 3) := by decide +kernel
theorem dX5_leastMeasure_20 : decode cX5_leastMeasure 20 = .ok (.iconst 0, 1) := by decide +kernel
theorem dX5_leastMeasure_21 : decode cX5_leastMeasure 21 = .ok (.iaload, 1) := by decide +kernel
theorem dX5_leastMeasure_22 : decode cX5_leastMeasure 22 = .ok (.istore_n 2, 1) := by decide +kernel
theorem dX5_leastMeasure_23 : decode cX5_leastMeasure 23 = .ok (.sipush (-1006), 3) := by decide +kernel
theorem dX5_leastMeasure_26 : decode cX5_leastMeasure 26 = .ok (.istore_n 3, 1) := by decide +kernel
theorem dX5_leastMeasure_27 : decode cX5_leastMeasure 27 = .ok (.sipush 200, 3) := by decide +kernel
theorem dX5_leastMeasure_30 : decode cX5_leastMeasure 30 = .ok (.istore 4, 2) := by decide +kernel
theorem dX5_leastMeasure_32 : decode cX5_leastMeasure 32 = .ok (.iload 4, 2) := by decide +kernel
theorem dX5_leastMeasure_34 : decode cX5_leastMeasure 34 = .ok (.bipush 20, 2) := by decide +kernel
theorem dX5_leastMeasure_36 : decode cX5_leastMeasure 36 = .ok (.if_icmp .lt 36, 3) := by decide +kernel
theorem dX5_leastMeasure_39 : decode cX5_leastMeasure 39 = .ok (.aload_n 0, 1) := by decide +kernel
theorem dX5_leastMeasure_40 : decode cX5_leastMeasure 40 = .ok (.getfield 7, 3) := by decide +kernel
theorem dX5_leastMeasure_43 : decode cX5_leastMeasure 43 = .ok (.iconst 0, 1) := by decide +kernel
theorem dX5_leastMeasure_44 : decode cX5_leastMeasure 44 = .ok (.iload 4, 2) := by decide +kernel
theorem dX5_leastMeasure_46 : decode cX5_leastMeasure 46 = .ok (.iastore, 1) := by decide +kernel
theorem dX5_leastMeasure_47 : decode cX5_leastMeasure 47 = .ok (.aload_n 0, 1) := by decide +kernel
theorem dX5_leastMeasure_48 : decode cX5_leastMeasure 48 = .ok (.invokevirtual 108, 3) := by decide +kernel
theorem dX5_leastMeasure_51 : decode cX5_leastMeasure 51 = .ok (.aload_n 0, 1) := by decide +kernel
theorem dX5_leastMeasure_52 : decode cX5_leastMeasure 52 = .ok (.getfield 98, 3) := by decide +kernel
theorem dX5_leastMeasure_55 : decode cX5_leastMeasure 55 = .ok (.iload_n 1, 1) := by decide +kernel
theorem dX5_leastMeasure_56 : decode cX5_leastMeasure 56 = .ok (.if_icmp .gt 8, 3) := by decide +kernel
theorem dX5_leastMeasure_59 : decode cX5_leastMeasure 59 = .ok (.iload 4, 2) := by decide +kernel
theorem dX5_leastMeasure_61 : decode cX5_leastMeasure 61 = .ok (.goto 4, 3) := by decide +kernel
theorem dX5_leastMeasure_64 : decode cX5_leastMeasure 64 = .ok (.iload_n 3, 1) := by decide +kernel
theorem dX5_leastMeasure_65 : decode cX5_leastMeasure 65 = .ok (.istore_n 3, 1) := by decide +kernel
theorem dX5_leastMeasure_66 : decode cX5_leastMeasure 66 = .ok (.iinc 4 (-1), 3) := by decide +kernel
theorem dX5_leastMeasure_69 : decode cX5_leastMeasure 69 = .ok (.goto (-37), 3) := by decide +kernel
theorem dX5_leastMeasure_72 : decode cX5_leastMeasure 72 = .ok (.aload_n 0, 1) := by decide +kernel
theorem dX5_leastMeasure_73 : decode cX5_leastMeasure 73 = .ok (.getfield 7, 3) := by decide +kernel
theorem dX5_leastMeasure_76 : decode cX5_leastMeasure 76 = .ok (.iconst 0, 1) := by decide +kernel
theorem dX5_leastMeasure_77 : decode cX5_leastMeasure 77 = .ok (.iload_n 2, 1) := by decide +kernel
theorem dX5_leastMeasure_78 : decode cX5_leastMeasure 78 = .ok (.iastore, 1) := by decide +kernel
theorem dX5_leastMeasure_79 : decode cX5_leastMeasure 79 = .ok (.iload_n 3, 1) := by decide +kernel
theorem dX5_leastMeasure_80 : decode cX5_leastMeasure 80 = .ok (.ireturn, 1) := by decide +kernel
theorem dX5_bestShare_0 : decode cX5_bestShare 0 = .ok (.iload_n 1, 1) := by decide +kernel
theorem dX5_bestShare_1 : decode cX5_bestShare 1 = .ok (.invokestatic 137, 3) := by decide +kernel
theorem dX5_bestShare_4 : decode cX5_bestShare 4 = .ok (.ifCond .ne 7, 3) := by decide +kernel
theorem dX5_bestShare_7 : decode cX5_bestShare 7 = .ok (.sipush (-1001), 3) := by decide +kernel
theorem dX5_bestShare_10 : decode cX5_bestShare 10 = .ok (.ireturn, 1) := by decide +kernel
theorem dX5_bestShare_11 : decode cX5_bestShare 11 = .ok (.aload_n 0, 1) := by decide +kernel
theorem dX5_bestShare_12 : decode cX5_bestShare 12 = .ok (.getfield 7, 3) := by decide +kernel
theorem dX5_bestShare_15 : decode cX5_bestShare 15 = .ok (.bipush 21, 2) := by decide +kernel
theorem dX5_bestShare_17 : decode cX5_bestShare 17 = .ok (.iload_n 1, 1) := by decide +kernel
theorem dX5_bestShare_18 : decode cX5_bestShare 18 = .ok (.iadd, 1) := by decide +kernel
theorem dX5_bestShare_19 : decode cX5_bestShare 19 = .ok (.iaload, 1) := by decide +kernel
theorem dX5_bestShare_20 : decode cX5_bestShare 20 = .ok (.istore_n 2, 1) := by decide +kernel
theorem dX5_bestShare_21 : decode cX5_bestShare 21 = .ok (.iconst 0, 1) := by decide +kernel
theorem dX5_bestShare_22 : decode cX5_bestShare 22 = .ok (.istore_n 3, 1) := by decide +kernel
theorem dX5_bestShare_23 : decode cX5_bestShare 23 = .ok (.iconst 0, 1) := by decide +kernel
theorem dX5_bestShare_24 : decode cX5_bestShare 24 = .ok (.istore 4, 2) := by decide +kernel
theorem dX5_bestShare_26 : decode cX5_bestShare 26 = .ok (.iconst 0, 1) := by decide +kernel
theorem dX5_bestShare_27 : decode cX5_bestShare 27 = .ok (.istore 5, 2) := by decide +kernel
theorem dX5_bestShare_29 : decode cX5_bestShare 29 = .ok (.iload 5, 2) := by decide +kernel
theorem dX5_bestShare_31 : decode cX5_bestShare 31 = .ok (.bipush 100, 2) := by decide +kernel
theorem dX5_bestShare_33 : decode cX5_bestShare 33 = .ok (.if_icmp .gt 66, 3) := by decide +kernel
theorem dX5_bestShare_36 : decode cX5_bestShare 36 = .ok (.aload_n 0, 1) := by decide +kernel
theorem dX5_bestShare_37 : decode cX5_bestShare 37 = .ok (.getfield 7, 3) := by decide +kernel
theorem dX5_bestShare_40 : decode cX5_bestShare 40 = .ok (.bipush 21, 2) := by decide +kernel
theorem dX5_bestShare_42 : decode cX5_bestShare 42 = .ok (.iload_n 1, 1) := by decide +kernel
theorem dX5_bestShare_43 : decode cX5_bestShare 43 = .ok (.iadd, 1) := by decide +kernel
theorem dX5_bestShare_44 : decode cX5_bestShare 44 = .ok (.iload 5, 2) := by decide +kernel
theorem dX5_bestShare_46 : decode cX5_bestShare 46 = .ok (.iastore, 1) := by decide +kernel
theorem dX5_bestShare_47 : decode cX5_bestShare 47 = .ok (.aload_n 0, 1) := by decide +kernel
theorem dX5_bestShare_48 : decode cX5_bestShare 48 = .ok (.invokevirtual 182, 3) := by decide +kernel
theorem dX5_bestShare_51 : decode cX5_bestShare 51 = .ok (.istore 6, 2) := by decide +kernel
theorem dX5_bestShare_53 : decode cX5_bestShare 53 = .ok (.iload 5, 2) := by decide +kernel
theorem dX5_bestShare_55 : decode cX5_bestShare 55 = .ok (.ifCond .eq 10, 3) := by decide +kernel
theorem dX5_bestShare_58 : decode cX5_bestShare 58 = .ok (.iload 6, 2) := by decide +kernel
theorem dX5_bestShare_60 : decode cX5_bestShare 60 = .ok (.iload 4, 2) := by decide +kernel
theorem dX5_bestShare_62 : decode cX5_bestShare 62 = .ok (.if_icmp .ge 8, 3) := by decide +kernel
theorem dX5_bestShare_65 : decode cX5_bestShare 65 = .ok (.iload 5, 2) := by decide +kernel
theorem dX5_bestShare_67 : decode cX5_bestShare 67 = .ok (.goto 4, 3) := by decide +kernel
theorem dX5_bestShare_70 : decode cX5_bestShare 70 = .ok (.iload_n 3, 1) := by decide +kernel
theorem dX5_bestShare_71 : decode cX5_bestShare 71 = .ok (.istore_n 3, 1) := by decide +kernel
theorem dX5_bestShare_72 : decode cX5_bestShare 72 = .ok (.iload 5, 2) := by decide +kernel
theorem dX5_bestShare_74 : decode cX5_bestShare 74 = .ok (.ifCond .eq 10, 3) := by decide +kernel
theorem dX5_bestShare_77 : decode cX5_bestShare 77 = .ok (.iload 6, 2) := by decide +kernel
theorem dX5_bestShare_79 : decode cX5_bestShare 79 = .ok (.iload 4, 2) := by decide +kernel
theorem dX5_bestShare_81 : decode cX5_bestShare 81 = .ok (.if_icmp .ge 8, 3) := by decide +kernel
theorem dX5_bestShare_84 : decode cX5_bestShare 84 = .ok (.iload 6, 2) := by decide +kernel
theorem dX5_bestShare_86 : decode cX5_bestShare 86 = .ok (.goto 5, 3) := by decide +kernel
theorem dX5_bestShare_89 : decode cX5_bestShare 89 = .ok (.iload 4, 2) := by decide +kernel
theorem dX5_bestShare_91 : decode cX5_bestShare 91 = .ok (.istore 4, 2) := by decide +kernel
theorem dX5_bestShare_93 : decode cX5_bestShare 93 = .ok (.iinc 5 1, 3) := by decide +kernel
theorem dX5_bestShare_96 : decode cX5_bestShare 96 = .ok (.goto (-67), 3) := by decide +kernel
theorem dX5_bestShare_99 : decode cX5_bestShare 99 = .ok (.aload_n 0, 1) := by decide +kernel
theorem dX5_bestShare_100 : decode cX5_bestShare 100 = .ok (.getfield 7, 3) := by decide +kernel
theorem dX5_bestShare_103 : decode cX5_bestShare 103 = .ok (.bipush 21, 2) := by decide +kernel
theorem dX5_bestShare_105 : decode cX5_bestShare 105 = .ok (.iload_n 1, 1) := by decide +kernel
theorem dX5_bestShare_106 : decode cX5_bestShare 106 = .ok (.iadd, 1) := by decide +kernel
theorem dX5_bestShare_107 : decode cX5_bestShare 107 = .ok (.iload_n 2, 1) := by decide +kernel
theorem dX5_bestShare_108 : decode cX5_bestShare 108 = .ok (.iastore, 1) := by decide +kernel
theorem dX5_bestShare_109 : decode cX5_bestShare 109 = .ok (.iload_n 3, 1) := by decide +kernel
theorem dX5_bestShare_110 : decode cX5_bestShare 110 = .ok (.ireturn, 1) := by decide +kernel
theorem dX5_worstWord_0 : decode cX5_worstWord 0 = .ok (.sipush (-1006), 3) := by decide +kernel
theorem dX5_worstWord_3 : decode cX5_worstWord 3 = .ok (.istore_n 1, 1) := by decide +kernel
theorem dX5_worstWord_4 : decode cX5_worstWord 4 = .ok (.iconst 0, 1) := by decide +kernel
theorem dX5_worstWord_5 : decode cX5_worstWord 5 = .ok (.istore_n 2, 1) := by decide +kernel
theorem dX5_worstWord_6 : decode cX5_worstWord 6 = .ok (.aload_n 0, 1) := by decide +kernel
theorem dX5_worstWord_7 : decode cX5_worstWord 7 = .ok (.invokevirtual 185, 3) := by decide +kernel
theorem dX5_worstWord_10 : decode cX5_worstWord 10 = .ok (.iconst 0, 1) := by decide +kernel
theorem dX5_worstWord_11 : decode cX5_worstWord 11 = .ok (.istore_n 3, 1) := by decide +kernel
theorem dX5_worstWord_12 : decode cX5_worstWord 12 = .ok (.iload_n 3, 1) := by decide +kernel
theorem dX5_worstWord_13 : decode cX5_worstWord 13 = .ok (.aload_n 0, 1) := by decide +kernel
theorem dX5_worstWord_14 : decode cX5_worstWord 14 = .ok (.getfield 13, 3) := by decide +kernel
theorem dX5_worstWord_17 : decode cX5_worstWord 17 = .ok (.iconst 4, 1) := by decide +kernel
theorem dX5_worstWord_18 : decode cX5_worstWord 18 = .ok (.iaload, 1) := by decide +kernel
theorem dX5_worstWord_19 : decode cX5_worstWord 19 = .ok (.if_icmp .ge 67, 3) := by decide +kernel
theorem dX5_worstWord_22 : decode cX5_worstWord 22 = .ok (.aload_n 0, 1) := by decide +kernel
theorem dX5_worstWord_23 : decode cX5_worstWord 23 = .ok (.iload_n 3, 1) := by decide +kernel
theorem dX5_worstWord_24 : decode cX5_worstWord 24 = .ok (.invokevirtual 145, 3) := by decide +kernel
theorem dX5_worstWord_27 : decode cX5_worstWord 27 = .ok (.aload_n 0, 1) := by decide +kernel
theorem dX5_worstWord_28 : decode cX5_worstWord 28 = .ok (.invokevirtual 182, 3) := by decide +kernel
theorem dX5_worstWord_31 : decode cX5_worstWord 31 = .ok (.istore 4, 2) := by decide +kernel
theorem dX5_worstWord_33 : decode cX5_worstWord 33 = .ok (.aload_n 0, 1) := by decide +kernel
theorem dX5_worstWord_34 : decode cX5_worstWord 34 = .ok (.invokevirtual 188, 3) := by decide +kernel
theorem dX5_worstWord_37 : decode cX5_worstWord 37 = .ok (.iload_n 1, 1) := by decide +kernel
theorem dX5_worstWord_38 : decode cX5_worstWord 38 = .ok (.sipush (-1006), 3) := by decide +kernel
theorem dX5_worstWord_41 : decode cX5_worstWord 41 = .ok (.if_icmp .eq 9, 3) := by decide +kernel
theorem dX5_worstWord_44 : decode cX5_worstWord 44 = .ok (.iload 4, 2) := by decide +kernel
theorem dX5_worstWord_46 : decode cX5_worstWord 46 = .ok (.iload_n 2, 1) := by decide +kernel
theorem dX5_worstWord_47 : decode cX5_worstWord 47 = .ok (.if_icmp .ge 7, 3) := by decide +kernel
theorem dX5_worstWord_50 : decode cX5_worstWord 50 = .ok (.iconst 1, 1) := by decide +kernel
theorem dX5_worstWord_51 : decode cX5_worstWord 51 = .ok (.goto 4, 3) := by decide +kernel
theorem dX5_worstWord_54 : decode cX5_worstWord 54 = .ok (.iconst 0, 1) := by decide +kernel
theorem dX5_worstWord_55 : decode cX5_worstWord 55 = .ok (.istore 5, 2) := by decide +kernel
theorem dX5_worstWord_57 : decode cX5_worstWord 57 = .ok (.iload 5, 2) := by decide +kernel
theorem dX5_worstWord_59 : decode cX5_worstWord 59 = .ok (.ifCond .eq 7, 3) := by decide +kernel
theorem dX5_worstWord_62 : decode cX5_worstWord 62 = .ok (.iload_n 3, 1) := by decide +kernel
theorem dX5_worstWord_63 : decode cX5_worstWord 63 = .ok (.goto 4, 3) := by decide +kernel
theorem dX5_worstWord_66 : decode cX5_worstWord 66 = .ok (.iload_n 1, 1) := by decide +kernel
theorem dX5_worstWord_67 : decode cX5_worstWord 67 = .ok (.istore_n 1, 1) := by decide +kernel
theorem dX5_worstWord_68 : decode cX5_worstWord 68 = .ok (.iload 5, 2) := by decide +kernel
theorem dX5_worstWord_70 : decode cX5_worstWord 70 = .ok (.ifCond .eq 8, 3) := by decide +kernel
theorem dX5_worstWord_73 : decode cX5_worstWord 73 = .ok (.iload 4, 2) := by decide +kernel
theorem dX5_worstWord_75 : decode cX5_worstWord 75 = .ok (.goto 4, 3) := by decide +kernel
theorem dX5_worstWord_78 : decode cX5_worstWord 78 = .ok (.iload_n 2, 1) := by decide +kernel
theorem dX5_worstWord_79 : decode cX5_worstWord 79 = .ok (.istore_n 2, 1) := by decide +kernel
theorem dX5_worstWord_80 : decode cX5_worstWord 80 = .ok (.iinc 3 1, 3) := by decide +kernel
theorem dX5_worstWord_83 : decode cX5_worstWord 83 = .ok (.goto (-71), 3) := by decide +kernel
theorem dX5_worstWord_86 : decode cX5_worstWord 86 = .ok (.iload_n 1, 1) := by decide +kernel
theorem dX5_worstWord_87 : decode cX5_worstWord 87 = .ok (.ireturn, 1) := by decide +kernel
theorem dX5_charactersOf_0 : decode cX5_charactersOf 0 = .ok (.lload_n 0, 1) := by decide +kernel
theorem dX5_charactersOf_1 : decode cX5_charactersOf 1 = .ok (.lstore_n 2, 1) := by decide +kernel
theorem dX5_charactersOf_2 : decode cX5_charactersOf 2 = .ok (.iconst 0, 1) := by decide +kernel
theorem dX5_charactersOf_3 : decode cX5_charactersOf 3 = .ok (.istore 4, 2) := by decide +kernel
theorem dX5_charactersOf_5 : decode cX5_charactersOf 5 = .ok (.iload 4, 2) := by decide +kernel
theorem dX5_charactersOf_7 : decode cX5_charactersOf 7 = .ok (.bipush 8, 2) := by decide +kernel
theorem dX5_charactersOf_9 : decode cX5_charactersOf 9 = .ok (.if_icmp .ge 31, 3) := by decide +kernel
theorem dX5_charactersOf_12 : decode cX5_charactersOf 12 = .ok (.lload_n 2, 1) := by decide +kernel
theorem dX5_charactersOf_13 : decode cX5_charactersOf 13 = .ok (.ldc2_w 191, 3) := by decide +kernel
theorem dX5_charactersOf_16 : decode cX5_charactersOf 16 = .ok (.land, 1) := by decide +kernel
theorem dX5_charactersOf_17 : decode cX5_charactersOf 17 = .ok (.ldc2_w 193, 3) := by decide +kernel
theorem dX5_charactersOf_20 : decode cX5_charactersOf 20 = .ok (.ldc2_w 195, 3) := by decide +kernel
theorem dX5_charactersOf_23 : decode cX5_charactersOf 23 = .ok (.invokestatic 58, 3) := by decide +kernel
theorem dX5_charactersOf_26 : decode cX5_charactersOf 26 = .ok (.ifCond .eq 14, 3) := by decide +kernel
theorem dX5_charactersOf_29 : decode cX5_charactersOf 29 = .ok (.lload_n 2, 1) := by decide +kernel
theorem dX5_charactersOf_30 : decode cX5_charactersOf 30 = .ok (.bipush 8, 2) := by decide +kernel
theorem dX5_charactersOf_32 : decode cX5_charactersOf 32 = .ok (.lushr, 1) := by decide +kernel
theorem dX5_charactersOf_33 : decode cX5_charactersOf 33 = .ok (.lstore_n 2, 1) := by decide +kernel
theorem dX5_charactersOf_34 : decode cX5_charactersOf 34 = .ok (.iinc 4 1, 3) := by decide +kernel
theorem dX5_charactersOf_37 : decode cX5_charactersOf 37 = .ok (.goto (-32), 3) := by decide +kernel
theorem dX5_charactersOf_40 : decode cX5_charactersOf 40 = .ok (.lload_n 2, 1) := by decide +kernel
theorem dX5_charactersOf_41 : decode cX5_charactersOf 41 = .ok (.lconst 0, 1) := by decide +kernel
theorem dX5_charactersOf_42 : decode cX5_charactersOf 42 = .ok (.lcmp, 1) := by decide +kernel
theorem dX5_charactersOf_43 : decode cX5_charactersOf 43 = .ok (.ifCond .ne 8, 3) := by decide +kernel
theorem dX5_charactersOf_46 : decode cX5_charactersOf 46 = .ok (.iload 4, 2) := by decide +kernel
theorem dX5_charactersOf_48 : decode cX5_charactersOf 48 = .ok (.goto 4, 3) := by decide +kernel
theorem dX5_charactersOf_51 : decode cX5_charactersOf 51 = .ok (.iconst 0, 1) := by decide +kernel
theorem dX5_charactersOf_52 : decode cX5_charactersOf 52 = .ok (.ireturn, 1) := by decide +kernel
theorem dX5_put_0 : decode cX5_put 0 = .ok (.lload_n 1, 1) := by decide +kernel
theorem dX5_put_1 : decode cX5_put 1 = .ok (.invokestatic 197, 3) := by decide +kernel
theorem dX5_put_4 : decode cX5_put 4 = .ok (.istore_n 3, 1) := by decide +kernel
theorem dX5_put_5 : decode cX5_put 5 = .ok (.iload_n 3, 1) := by decide +kernel
theorem dX5_put_6 : decode cX5_put 6 = .ok (.ifCond .ne 7, 3) := by decide +kernel
theorem dX5_put_9 : decode cX5_put 9 = .ok (.sipush (-1002), 3) := by decide +kernel
theorem dX5_put_12 : decode cX5_put 12 = .ok (.ireturn, 1) := by decide +kernel
theorem dX5_put_13 : decode cX5_put 13 = .ok (.aload_n 0, 1) := by decide +kernel
theorem dX5_put_14 : decode cX5_put 14 = .ok (.getfield 177, 3) := by decide +kernel
theorem dX5_put_17 : decode cX5_put 17 = .ok (.iload_n 3, 1) := by decide +kernel
theorem dX5_put_18 : decode cX5_put 18 = .ok (.iadd, 1) := by decide +kernel
theorem dX5_put_19 : decode cX5_put 19 = .ok (.bipush 60, 2) := by decide +kernel
theorem dX5_put_21 : decode cX5_put 21 = .ok (.if_icmp .le 7, 3) := by decide +kernel
theorem dX5_put_24 : decode cX5_put 24 = .ok (.sipush (-1004), 3) := by decide +kernel
theorem dX5_put_27 : decode cX5_put 27 = .ok (.ireturn, 1) := by decide +kernel
theorem dX5_put_28 : decode cX5_put 28 = .ok (.iconst 0, 1) := by decide +kernel
theorem dX5_put_29 : decode cX5_put 29 = .ok (.istore 4, 2) := by decide +kernel
theorem dX5_put_31 : decode cX5_put 31 = .ok (.iload 4, 2) := by decide +kernel
theorem dX5_put_33 : decode cX5_put 33 = .ok (.iload_n 3, 1) := by decide +kernel
theorem dX5_put_34 : decode cX5_put 34 = .ok (.if_icmp .ge 37, 3) := by decide +kernel
theorem dX5_put_37 : decode cX5_put 37 = .ok (.aload_n 0, 1) := by decide +kernel
theorem dX5_put_38 : decode cX5_put 38 = .ok (.getfield 43, 3) := by decide +kernel
theorem dX5_put_41 : decode cX5_put 41 = .ok (.aload_n 0, 1) := by decide +kernel
theorem dX5_put_42 : decode cX5_put 42 = .ok (.getfield 177, 3) := by decide +kernel
theorem dX5_put_45 : decode cX5_put 45 = .ok (.iload 4, 2) := by decide +kernel
theorem dX5_put_47 : decode cX5_put 47 = .ok (.iadd, 1) := by decide +kernel
theorem dX5_put_48 : decode cX5_put 48 = .ok (.lload_n 1, 1) := by decide +kernel
theorem dX5_put_49 : decode cX5_put 49 = .ok (.bipush 8, 2) := by decide +kernel
theorem dX5_put_51 : decode cX5_put 51 = .ok (.iload_n 3, 1) := by decide +kernel
theorem dX5_put_52 : decode cX5_put 52 = .ok (.iconst 1, 1) := by decide +kernel
theorem dX5_put_53 : decode cX5_put 53 = .ok (.isub, 1) := by decide +kernel
theorem dX5_put_54 : decode cX5_put 54 = .ok (.iload 4, 2) := by decide +kernel
theorem dX5_put_56 : decode cX5_put 56 = .ok (.isub, 1) := by decide +kernel
theorem dX5_put_57 : decode cX5_put 57 = .ok (.imul, 1) := by decide +kernel
theorem dX5_put_58 : decode cX5_put 58 = .ok (.lushr, 1) := by decide +kernel
theorem dX5_put_59 : decode cX5_put 59 = .ok (.ldc2_w 191, 3) := by decide +kernel
theorem dX5_put_62 : decode cX5_put 62 = .ok (.land, 1) := by decide +kernel
theorem dX5_put_63 : decode cX5_put 63 = .ok (.l2i, 1) := by decide +kernel
theorem dX5_put_64 : decode cX5_put 64 = .ok (.iastore, 1) := by decide +kernel
theorem dX5_put_65 : decode cX5_put 65 = .ok (.iinc 4 1, 3) := by decide +kernel
theorem dX5_put_68 : decode cX5_put 68 = .ok (.goto (-37), 3) := by decide +kernel
theorem dX5_put_71 : decode cX5_put 71 = .ok (.aload_n 0, 1) := by decide +kernel
theorem dX5_put_72 : decode cX5_put 72 = .ok (.dup, 1) := by decide +kernel
theorem dX5_put_73 : decode cX5_put 73 = .ok (.getfield 177, 3) := by decide +kernel
theorem dX5_put_76 : decode cX5_put 76 = .ok (.iload_n 3, 1) := by decide +kernel
theorem dX5_put_77 : decode cX5_put 77 = .ok (.iadd, 1) := by decide +kernel
theorem dX5_put_78 : decode cX5_put 78 = .ok (.putfield 177, 3) := by decide +kernel
theorem dX5_put_81 : decode cX5_put 81 = .ok (.aload_n 0, 1) := by decide +kernel
theorem dX5_put_82 : decode cX5_put 82 = .ok (.getfield 177, 3) := by decide +kernel
theorem dX5_put_85 : decode cX5_put 85 = .ok (.ireturn, 1) := by decide +kernel
theorem dX5_wipe_0 : decode cX5_wipe 0 = .ok (.aload_n 0, 1) := by decide +kernel
theorem dX5_wipe_1 : decode cX5_wipe 1 = .ok (.getfield 177, 3) := by decide +kernel
theorem dX5_wipe_4 : decode cX5_wipe 4 = .ok (.istore_n 1, 1) := by decide +kernel
theorem dX5_wipe_5 : decode cX5_wipe 5 = .ok (.aload_n 0, 1) := by decide +kernel
theorem dX5_wipe_6 : decode cX5_wipe 6 = .ok (.iconst 0, 1) := by decide +kernel
theorem dX5_wipe_7 : decode cX5_wipe 7 = .ok (.putfield 177, 3) := by decide +kernel
theorem dX5_wipe_10 : decode cX5_wipe 10 = .ok (.iload_n 1, 1) := by decide +kernel
theorem dX5_wipe_11 : decode cX5_wipe 11 = .ok (.ireturn, 1) := by decide +kernel
theorem dX5_wordEnd_0 : decode cX5_wordEnd 0 = .ok (.iload_n 1, 1) := by decide +kernel
theorem dX5_wordEnd_1 : decode cX5_wordEnd 1 = .ok (.istore_n 2, 1) := by decide +kernel
theorem dX5_wordEnd_2 : decode cX5_wordEnd 2 = .ok (.iload_n 2, 1) := by decide +kernel
theorem dX5_wordEnd_3 : decode cX5_wordEnd 3 = .ok (.aload_n 0, 1) := by decide +kernel
theorem dX5_wordEnd_4 : decode cX5_wordEnd 4 = .ok (.getfield 177, 3) := by decide +kernel
theorem dX5_wordEnd_7 : decode cX5_wordEnd 7 = .ok (.if_icmp .ge 32, 3) := by decide +kernel
theorem dX5_wordEnd_10 : decode cX5_wordEnd 10 = .ok (.iload_n 2, 1) := by decide +kernel
theorem dX5_wordEnd_11 : decode cX5_wordEnd 11 = .ok (.iload_n 1, 1) := by decide +kernel
theorem dX5_wordEnd_12 : decode cX5_wordEnd 12 = .ok (.isub, 1) := by decide +kernel
theorem dX5_wordEnd_13 : decode cX5_wordEnd 13 = .ok (.bipush 10, 2) := by decide +kernel
theorem dX5_wordEnd_15 : decode cX5_wordEnd 15 = .ok (.if_icmp .ge 24, 3) := by decide +kernel
theorem dX5_wordEnd_18 : decode cX5_wordEnd 18 = .ok (.aload_n 0, 1) := by decide +kernel
theorem dX5_wordEnd_19 : decode cX5_wordEnd 19 = .ok (.getfield 43, 3) := by decide +kernel
theorem dX5_wordEnd_22 : decode cX5_wordEnd 22 = .ok (.iload_n 2, 1) := by decide +kernel
theorem dX5_wordEnd_23 : decode cX5_wordEnd 23 = .ok (.iaload, 1) := by decide +kernel
theorem dX5_wordEnd_24 : decode cX5_wordEnd 24 = .ok (.invokestatic 74, 3) := by decide +kernel
theorem dX5_wordEnd_27 : decode cX5_wordEnd 27 = .ok (.sipush (-1006), 3) := by decide +kernel
theorem dX5_wordEnd_30 : decode cX5_wordEnd 30 = .ok (.if_icmp .eq 9, 3) := by decide +kernel
theorem dX5_wordEnd_33 : decode cX5_wordEnd 33 = .ok (.iinc 2 1, 3) := by decide +kernel
theorem dX5_wordEnd_36 : decode cX5_wordEnd 36 = .ok (.goto (-34), 3) := by decide +kernel
theorem dX5_wordEnd_39 : decode cX5_wordEnd 39 = .ok (.aload_n 0, 1) := by decide +kernel
theorem dX5_wordEnd_40 : decode cX5_wordEnd 40 = .ok (.getfield 46, 3) := by decide +kernel
theorem dX5_wordEnd_43 : decode cX5_wordEnd 43 = .ok (.aload_n 0, 1) := by decide +kernel
theorem dX5_wordEnd_44 : decode cX5_wordEnd 44 = .ok (.getfield 201, 3) := by decide +kernel
theorem dX5_wordEnd_47 : decode cX5_wordEnd 47 = .ok (.iload_n 1, 1) := by decide +kernel
theorem dX5_wordEnd_48 : decode cX5_wordEnd 48 = .ok (.iastore, 1) := by decide +kernel
theorem dX5_wordEnd_49 : decode cX5_wordEnd 49 = .ok (.aload_n 0, 1) := by decide +kernel
theorem dX5_wordEnd_50 : decode cX5_wordEnd 50 = .ok (.getfield 49, 3) := by decide +kernel
theorem dX5_wordEnd_53 : decode cX5_wordEnd 53 = .ok (.aload_n 0, 1) := by decide +kernel
theorem dX5_wordEnd_54 : decode cX5_wordEnd 54 = .ok (.getfield 201, 3) := by decide +kernel
theorem dX5_wordEnd_57 : decode cX5_wordEnd 57 = .ok (.iload_n 2, 1) := by decide +kernel
theorem dX5_wordEnd_58 : decode cX5_wordEnd 58 = .ok (.iload_n 1, 1) := by decide +kernel
theorem dX5_wordEnd_59 : decode cX5_wordEnd 59 = .ok (.isub, 1) := by decide +kernel
theorem dX5_wordEnd_60 : decode cX5_wordEnd 60 = .ok (.iastore, 1) := by decide +kernel
theorem dX5_wordEnd_61 : decode cX5_wordEnd 61 = .ok (.iload_n 2, 1) := by decide +kernel
theorem dX5_wordEnd_62 : decode cX5_wordEnd 62 = .ok (.ireturn, 1) := by decide +kernel
theorem dX5_fault_0 : decode cX5_fault 0 = .ok (.aload_n 0, 1) := by decide +kernel
theorem dX5_fault_1 : decode cX5_fault 1 = .ok (.iconst 0, 1) := by decide +kernel
theorem dX5_fault_2 : decode cX5_fault 2 = .ok (.putfield 201, 3) := by decide +kernel
theorem dX5_fault_5 : decode cX5_fault 5 = .ok (.iconst 0, 1) := by decide +kernel
theorem dX5_fault_6 : decode cX5_fault 6 = .ok (.istore_n 1, 1) := by decide +kernel
theorem dX5_fault_7 : decode cX5_fault 7 = .ok (.iconst 1, 1) := by decide +kernel
theorem dX5_fault_8 : decode cX5_fault 8 = .ok (.istore_n 2, 1) := by decide +kernel
theorem dX5_fault_9 : decode cX5_fault 9 = .ok (.iload_n 2, 1) := by decide +kernel
theorem dX5_fault_10 : decode cX5_fault 10 = .ok (.ifCond .eq 66, 3) := by decide +kernel
theorem dX5_fault_13 : decode cX5_fault 13 = .ok (.aload_n 0, 1) := by decide +kernel
theorem dX5_fault_14 : decode cX5_fault 14 = .ok (.iload_n 1, 1) := by decide +kernel
theorem dX5_fault_15 : decode cX5_fault 15 = .ok (.invokevirtual 204, 3) := by decide +kernel
theorem dX5_fault_18 : decode cX5_fault 18 = .ok (.istore_n 3, 1) := by decide +kernel
theorem dX5_fault_19 : decode cX5_fault 19 = .ok (.iload_n 3, 1) := by decide +kernel
theorem dX5_fault_20 : decode cX5_fault 20 = .ok (.iload_n 1, 1) := by decide +kernel
theorem dX5_fault_21 : decode cX5_fault 21 = .ok (.if_icmp .ne 5, 3) := by decide +kernel
theorem dX5_fault_24 : decode cX5_fault 24 = .ok (.iload_n 1, 1) := by decide +kernel
theorem dX5_fault_25 : decode cX5_fault 25 = .ok (.ireturn, 1) := by decide +kernel
theorem dX5_fault_26 : decode cX5_fault 26 = .ok (.aload_n 0, 1) := by decide +kernel
theorem dX5_fault_27 : decode cX5_fault 27 = .ok (.dup, 1) := by decide +kernel
theorem dX5_fault_28 : decode cX5_fault 28 = .ok (.getfield 201, 3) := by decide +kernel
theorem dX5_fault_31 : decode cX5_fault 31 = .ok (.iconst 1, 1) := by decide +kernel
theorem dX5_fault_32 : decode cX5_fault 32 = .ok (.iadd, 1) := by decide +kernel
theorem dX5_fault_33 : decode cX5_fault 33 = .ok (.putfield 201, 3) := by decide +kernel
theorem dX5_fault_36 : decode cX5_fault 36 = .ok (.iload_n 3, 1) := by decide +kernel
theorem dX5_fault_37 : decode cX5_fault 37 = .ok (.aload_n 0, 1) := by decide +kernel
theorem dX5_fault_38 : decode cX5_fault 38 = .ok (.getfield 177, 3) := by decide +kernel
theorem dX5_fault_41 : decode cX5_fault 41 = .ok (.if_icmp .ge 18, 3) := by decide +kernel
theorem dX5_fault_44 : decode cX5_fault 44 = .ok (.aload_n 0, 1) := by decide +kernel
theorem dX5_fault_45 : decode cX5_fault 45 = .ok (.getfield 43, 3) := by decide +kernel
theorem dX5_fault_48 : decode cX5_fault 48 = .ok (.iload_n 3, 1) := by decide +kernel
theorem dX5_fault_49 : decode cX5_fault 49 = .ok (.iaload, 1) := by decide +kernel
theorem dX5_fault_50 : decode cX5_fault 50 = .ok (.bipush 95, 2) := by decide +kernel
theorem dX5_fault_52 : decode cX5_fault 52 = .ok (.if_icmp .ne 7, 3) := by decide +kernel
theorem dX5_fault_55 : decode cX5_fault 55 = .ok (.iconst 1, 1) := by decide +kernel
theorem dX5_fault_56 : decode cX5_fault 56 = .ok (.goto 4, 3) := by decide +kernel
theorem dX5_fault_59 : decode cX5_fault 59 = .ok (.iconst 0, 1) := by decide +kernel
theorem dX5_fault_60 : decode cX5_fault 60 = .ok (.istore_n 2, 1) := by decide +kernel
theorem dX5_fault_61 : decode cX5_fault 61 = .ok (.iload_n 2, 1) := by decide +kernel
theorem dX5_fault_62 : decode cX5_fault 62 = .ok (.ifCond .eq 9, 3) := by decide +kernel
theorem dX5_fault_65 : decode cX5_fault 65 = .ok (.iload_n 3, 1) := by decide +kernel
theorem dX5_fault_66 : decode cX5_fault 66 = .ok (.iconst 1, 1) := by decide +kernel
theorem dX5_fault_67 : decode cX5_fault 67 = .ok (.iadd, 1) := by decide +kernel
theorem dX5_fault_68 : decode cX5_fault 68 = .ok (.goto 4, 3) := by decide +kernel
theorem dX5_fault_71 : decode cX5_fault 71 = .ok (.iload_n 3, 1) := by decide +kernel
theorem dX5_fault_72 : decode cX5_fault 72 = .ok (.istore_n 1, 1) := by decide +kernel
theorem dX5_fault_73 : decode cX5_fault 73 = .ok (.goto (-64), 3) := by decide +kernel
theorem dX5_fault_76 : decode cX5_fault 76 = .ok (.iload_n 1, 1) := by decide +kernel
theorem dX5_fault_77 : decode cX5_fault 77 = .ok (.aload_n 0, 1) := by decide +kernel
theorem dX5_fault_78 : decode cX5_fault 78 = .ok (.getfield 177, 3) := by decide +kernel
theorem dX5_fault_81 : decode cX5_fault 81 = .ok (.if_icmp .ne 9, 3) := by decide +kernel
theorem dX5_fault_84 : decode cX5_fault 84 = .ok (.sipush (-1006), 3) := by decide +kernel
theorem dX5_fault_87 : decode cX5_fault 87 = .ok (.goto 4, 3) := by decide +kernel
theorem dX5_fault_90 : decode cX5_fault 90 = .ok (.iload_n 1, 1) := by decide +kernel
theorem dX5_fault_91 : decode cX5_fault 91 = .ok (.ireturn, 1) := by decide +kernel
theorem dX5_read_0 : decode cX5_read 0 = .ok (.aload_n 0, 1) := by decide +kernel
theorem dX5_read_1 : decode cX5_read 1 = .ok (.invokevirtual 207, 3) := by decide +kernel
theorem dX5_read_4 : decode cX5_read 4 = .ok (.sipush (-1006), 3) := by decide +kernel
theorem dX5_read_7 : decode cX5_read 7 = .ok (.if_icmp .eq 7, 3) := by decide +kernel
theorem dX5_read_10 : decode cX5_read 10 = .ok (.sipush (-1003), 3) := by decide +kernel
theorem dX5_read_13 : decode cX5_read 13 = .ok (.ireturn, 1) := by decide +kernel
theorem dX5_read_14 : decode cX5_read 14 = .ok (.aload_n 0, 1) := by decide +kernel
theorem dX5_read_15 : decode cX5_read 15 = .ok (.getfield 7, 3) := by decide +kernel
theorem dX5_read_18 : decode cX5_read 18 = .ok (.iconst 4, 1) := by decide +kernel
theorem dX5_read_19 : decode cX5_read 19 = .ok (.iaload, 1) := by decide +kernel
theorem dX5_read_20 : decode cX5_read 20 = .ok (.aload_n 0, 1) := by decide +kernel
theorem dX5_read_21 : decode cX5_read 21 = .ok (.getfield 201, 3) := by decide +kernel
theorem dX5_read_24 : decode cX5_read 24 = .ok (.iadd, 1) := by decide +kernel
theorem dX5_read_25 : decode cX5_read 25 = .ok (.bipush 24, 2) := by decide +kernel
theorem dX5_read_27 : decode cX5_read 27 = .ok (.if_icmp .le 7, 3) := by decide +kernel
theorem dX5_read_30 : decode cX5_read 30 = .ok (.sipush (-1004), 3) := by decide +kernel
theorem dX5_read_33 : decode cX5_read 33 = .ok (.ireturn, 1) := by decide +kernel
theorem dX5_read_34 : decode cX5_read 34 = .ok (.aload_n 0, 1) := by decide +kernel
theorem dX5_read_35 : decode cX5_read 35 = .ok (.invokevirtual 134, 3) := by decide +kernel
theorem dX5_read_38 : decode cX5_read 38 = .ok (.iconst 0, 1) := by decide +kernel
theorem dX5_read_39 : decode cX5_read 39 = .ok (.istore_n 1, 1) := by decide +kernel
theorem dX5_read_40 : decode cX5_read 40 = .ok (.iload_n 1, 1) := by decide +kernel
theorem dX5_read_41 : decode cX5_read 41 = .ok (.aload_n 0, 1) := by decide +kernel
theorem dX5_read_42 : decode cX5_read 42 = .ok (.getfield 201, 3) := by decide +kernel
theorem dX5_read_45 : decode cX5_read 45 = .ok (.if_icmp .ge 85, 3) := by decide +kernel
theorem dX5_read_48 : decode cX5_read 48 = .ok (.bipush 29, 2) := by decide +kernel
theorem dX5_read_50 : decode cX5_read 50 = .ok (.bipush 11, 2) := by decide +kernel
theorem dX5_read_52 : decode cX5_read 52 = .ok (.aload_n 0, 1) := by decide +kernel
theorem dX5_read_53 : decode cX5_read 53 = .ok (.getfield 7, 3) := by decide +kernel
theorem dX5_read_56 : decode cX5_read 56 = .ok (.iconst 4, 1) := by decide +kernel
theorem dX5_read_57 : decode cX5_read 57 = .ok (.iaload, 1) := by decide +kernel
theorem dX5_read_58 : decode cX5_read 58 = .ok (.imul, 1) := by decide +kernel
theorem dX5_read_59 : decode cX5_read 59 = .ok (.iadd, 1) := by decide +kernel
theorem dX5_read_60 : decode cX5_read 60 = .ok (.istore_n 2, 1) := by decide +kernel
theorem dX5_read_61 : decode cX5_read 61 = .ok (.aload_n 0, 1) := by decide +kernel
theorem dX5_read_62 : decode cX5_read 62 = .ok (.getfield 7, 3) := by decide +kernel
theorem dX5_read_65 : decode cX5_read 65 = .ok (.iload_n 2, 1) := by decide +kernel
theorem dX5_read_66 : decode cX5_read 66 = .ok (.aload_n 0, 1) := by decide +kernel
theorem dX5_read_67 : decode cX5_read 67 = .ok (.getfield 49, 3) := by decide +kernel
theorem dX5_read_70 : decode cX5_read 70 = .ok (.iload_n 1, 1) := by decide +kernel
theorem dX5_read_71 : decode cX5_read 71 = .ok (.iaload, 1) := by decide +kernel
theorem dX5_read_72 : decode cX5_read 72 = .ok (.iastore, 1) := by decide +kernel
theorem dX5_read_73 : decode cX5_read 73 = .ok (.iconst 0, 1) := by decide +kernel
theorem dX5_read_74 : decode cX5_read 74 = .ok (.istore_n 3, 1) := by decide +kernel
theorem dX5_read_75 : decode cX5_read 75 = .ok (.iload_n 3, 1) := by decide +kernel
theorem dX5_read_76 : decode cX5_read 76 = .ok (.aload_n 0, 1) := by decide +kernel
theorem dX5_read_77 : decode cX5_read 77 = .ok (.getfield 49, 3) := by decide +kernel
theorem dX5_read_80 : decode cX5_read 80 = .ok (.iload_n 1, 1) := by decide +kernel
theorem dX5_read_81 : decode cX5_read 81 = .ok (.iaload, 1) := by decide +kernel
theorem dX5_read_82 : decode cX5_read 82 = .ok (.if_icmp .ge 32, 3) := by decide +kernel
theorem dX5_read_85 : decode cX5_read 85 = .ok (.aload_n 0, 1) := by decide +kernel
theorem dX5_read_86 : decode cX5_read 86 = .ok (.getfield 7, 3) := by decide +kernel
theorem dX5_read_89 : decode cX5_read 89 = .ok (.iload_n 2, 1) := by decide +kernel
theorem dX5_read_90 : decode cX5_read 90 = .ok (.iconst 1, 1) := by decide +kernel
theorem dX5_read_91 : decode cX5_read 91 = .ok (.iadd, 1) := by decide +kernel
theorem dX5_read_92 : decode cX5_read 92 = .ok (.iload_n 3, 1) := by decide +kernel
theorem dX5_read_93 : decode cX5_read 93 = .ok (.iadd, 1) := by decide +kernel
theorem dX5_read_94 : decode cX5_read 94 = .ok (.aload_n 0, 1) := by decide +kernel
theorem dX5_read_95 : decode cX5_read 95 = .ok (.getfield 43, 3) := by decide +kernel
theorem dX5_read_98 : decode cX5_read 98 = .ok (.aload_n 0, 1) := by decide +kernel
theorem dX5_read_99 : decode cX5_read 99 = .ok (.getfield 46, 3) := by decide +kernel
theorem dX5_read_102 : decode cX5_read 102 = .ok (.iload_n 1, 1) := by decide +kernel
theorem dX5_read_103 : decode cX5_read 103 = .ok (.iaload, 1) := by decide +kernel
theorem dX5_read_104 : decode cX5_read 104 = .ok (.iload_n 3, 1) := by decide +kernel
theorem dX5_read_105 : decode cX5_read 105 = .ok (.iadd, 1) := by decide +kernel
theorem dX5_read_106 : decode cX5_read 106 = .ok (.iaload, 1) := by decide +kernel
theorem dX5_read_107 : decode cX5_read 107 = .ok (.iastore, 1) := by decide +kernel
theorem dX5_read_108 : decode cX5_read 108 = .ok (.iinc 3 1, 3) := by decide +kernel
theorem dX5_read_111 : decode cX5_read 111 = .ok (.goto (-36), 3) := by decide +kernel
theorem dX5_read_114 : decode cX5_read 114 = .ok (.aload_n 0, 1) := by decide +kernel
theorem dX5_read_115 : decode cX5_read 115 = .ok (.getfield 7, 3) := by decide +kernel
theorem dX5_read_118 : decode cX5_read 118 = .ok (.iconst 4, 1) := by decide +kernel
theorem dX5_read_119 : decode cX5_read 119 = .ok (.dup2, 1) := by decide +kernel
theorem dX5_read_120 : decode cX5_read 120 = .ok (.iaload, 1) := by decide +kernel
theorem dX5_read_121 : decode cX5_read 121 = .ok (.iconst 1, 1) := by decide +kernel
theorem dX5_read_122 : decode cX5_read 122 = .ok (.iadd, 1) := by decide +kernel
theorem dX5_read_123 : decode cX5_read 123 = .ok (.iastore, 1) := by decide +kernel
theorem dX5_read_124 : decode cX5_read 124 = .ok (.iinc 1 1, 3) := by decide +kernel
theorem dX5_read_127 : decode cX5_read 127 = .ok (.goto (-87), 3) := by decide +kernel
theorem dX5_read_130 : decode cX5_read 130 = .ok (.aload_n 0, 1) := by decide +kernel
theorem dX5_read_131 : decode cX5_read 131 = .ok (.iconst 0, 1) := by decide +kernel
theorem dX5_read_132 : decode cX5_read 132 = .ok (.putfield 177, 3) := by decide +kernel
theorem dX5_read_135 : decode cX5_read 135 = .ok (.aload_n 0, 1) := by decide +kernel
theorem dX5_read_136 : decode cX5_read 136 = .ok (.getfield 7, 3) := by decide +kernel
theorem dX5_read_139 : decode cX5_read 139 = .ok (.iconst 4, 1) := by decide +kernel
theorem dX5_read_140 : decode cX5_read 140 = .ok (.iaload, 1) := by decide +kernel
theorem dX5_read_141 : decode cX5_read 141 = .ok (.ireturn, 1) := by decide +kernel
theorem dX5_undo_0 : decode cX5_undo 0 = .ok (.aload_n 0, 1) := by decide +kernel
theorem dX5_undo_1 : decode cX5_undo 1 = .ok (.getfield 52, 3) := by decide +kernel
theorem dX5_undo_4 : decode cX5_undo 4 = .ok (.ifCond .ne 7, 3) := by decide +kernel
theorem dX5_undo_7 : decode cX5_undo 7 = .ok (.sipush (-1005), 3) := by decide +kernel
theorem dX5_undo_10 : decode cX5_undo 10 = .ok (.ireturn, 1) := by decide +kernel
theorem dX5_undo_11 : decode cX5_undo 11 = .ok (.aload_n 0, 1) := by decide +kernel
theorem dX5_undo_12 : decode cX5_undo 12 = .ok (.dup, 1) := by decide +kernel
theorem dX5_undo_13 : decode cX5_undo 13 = .ok (.getfield 52, 3) := by decide +kernel
theorem dX5_undo_16 : decode cX5_undo 16 = .ok (.iconst 1, 1) := by decide +kernel
theorem dX5_undo_17 : decode cX5_undo 17 = .ok (.isub, 1) := by decide +kernel
theorem dX5_undo_18 : decode cX5_undo 18 = .ok (.putfield 52, 3) := by decide +kernel
theorem dX5_undo_21 : decode cX5_undo 21 = .ok (.iconst 0, 1) := by decide +kernel
theorem dX5_undo_22 : decode cX5_undo 22 = .ok (.istore_n 1, 1) := by decide +kernel
theorem dX5_undo_23 : decode cX5_undo 23 = .ok (.iload_n 1, 1) := by decide +kernel
theorem dX5_undo_24 : decode cX5_undo 24 = .ok (.sipush 293, 3) := by decide +kernel
theorem dX5_undo_27 : decode cX5_undo 27 = .ok (.if_icmp .ge 30, 3) := by decide +kernel
theorem dX5_undo_30 : decode cX5_undo 30 = .ok (.aload_n 0, 1) := by decide +kernel
theorem dX5_undo_31 : decode cX5_undo 31 = .ok (.getfield 7, 3) := by decide +kernel
theorem dX5_undo_34 : decode cX5_undo 34 = .ok (.iload_n 1, 1) := by decide +kernel
theorem dX5_undo_35 : decode cX5_undo 35 = .ok (.aload_n 0, 1) := by decide +kernel
theorem dX5_undo_36 : decode cX5_undo 36 = .ok (.getfield 16, 3) := by decide +kernel
theorem dX5_undo_39 : decode cX5_undo 39 = .ok (.sipush 293, 3) := by decide +kernel
theorem dX5_undo_42 : decode cX5_undo 42 = .ok (.aload_n 0, 1) := by decide +kernel
theorem dX5_undo_43 : decode cX5_undo 43 = .ok (.getfield 52, 3) := by decide +kernel
theorem dX5_undo_46 : decode cX5_undo 46 = .ok (.imul, 1) := by decide +kernel
theorem dX5_undo_47 : decode cX5_undo 47 = .ok (.iload_n 1, 1) := by decide +kernel
theorem dX5_undo_48 : decode cX5_undo 48 = .ok (.iadd, 1) := by decide +kernel
theorem dX5_undo_49 : decode cX5_undo 49 = .ok (.iaload, 1) := by decide +kernel
theorem dX5_undo_50 : decode cX5_undo 50 = .ok (.iastore, 1) := by decide +kernel
theorem dX5_undo_51 : decode cX5_undo 51 = .ok (.iinc 1 1, 3) := by decide +kernel
theorem dX5_undo_54 : decode cX5_undo 54 = .ok (.goto (-31), 3) := by decide +kernel
theorem dX5_undo_57 : decode cX5_undo 57 = .ok (.aload_n 0, 1) := by decide +kernel
theorem dX5_undo_58 : decode cX5_undo 58 = .ok (.getfield 52, 3) := by decide +kernel
theorem dX5_undo_61 : decode cX5_undo 61 = .ok (.ireturn, 1) := by decide +kernel
theorem dX5_isSlot_0 : decode cX5_isSlot 0 = .ok (.iload_n 0, 1) := by decide +kernel
theorem dX5_isSlot_1 : decode cX5_isSlot 1 = .ok (.ifCond .eq 8, 3) := by decide +kernel
theorem dX5_isSlot_4 : decode cX5_isSlot 4 = .ok (.iload_n 0, 1) := by decide +kernel
theorem dX5_isSlot_5 : decode cX5_isSlot 5 = .ok (.iconst 1, 1) := by decide +kernel
theorem dX5_isSlot_6 : decode cX5_isSlot 6 = .ok (.if_icmp .ne 7, 3) := by decide +kernel
theorem dX5_isSlot_9 : decode cX5_isSlot 9 = .ok (.iconst 1, 1) := by decide +kernel
theorem dX5_isSlot_10 : decode cX5_isSlot 10 = .ok (.goto 4, 3) := by decide +kernel
theorem dX5_isSlot_13 : decode cX5_isSlot 13 = .ok (.iconst 0, 1) := by decide +kernel
theorem dX5_isSlot_14 : decode cX5_isSlot 14 = .ok (.ireturn, 1) := by decide +kernel
theorem dX5_save_0 : decode cX5_save 0 = .ok (.iload_n 1, 1) := by decide +kernel
theorem dX5_save_1 : decode cX5_save 1 = .ok (.invokestatic 210, 3) := by decide +kernel
theorem dX5_save_4 : decode cX5_save 4 = .ok (.ifCond .ne 7, 3) := by decide +kernel
theorem dX5_save_7 : decode cX5_save 7 = .ok (.sipush (-1002), 3) := by decide +kernel
theorem dX5_save_10 : decode cX5_save 10 = .ok (.ireturn, 1) := by decide +kernel
theorem dX5_save_11 : decode cX5_save 11 = .ok (.iconst 0, 1) := by decide +kernel
theorem dX5_save_12 : decode cX5_save 12 = .ok (.istore_n 2, 1) := by decide +kernel
theorem dX5_save_13 : decode cX5_save 13 = .ok (.iload_n 2, 1) := by decide +kernel
theorem dX5_save_14 : decode cX5_save 14 = .ok (.sipush 293, 3) := by decide +kernel
theorem dX5_save_17 : decode cX5_save 17 = .ok (.if_icmp .ge 27, 3) := by decide +kernel
theorem dX5_save_20 : decode cX5_save 20 = .ok (.aload_n 0, 1) := by decide +kernel
theorem dX5_save_21 : decode cX5_save 21 = .ok (.getfield 19, 3) := by decide +kernel
theorem dX5_save_24 : decode cX5_save 24 = .ok (.sipush 293, 3) := by decide +kernel
theorem dX5_save_27 : decode cX5_save 27 = .ok (.iload_n 1, 1) := by decide +kernel
theorem dX5_save_28 : decode cX5_save 28 = .ok (.imul, 1) := by decide +kernel
theorem dX5_save_29 : decode cX5_save 29 = .ok (.iload_n 2, 1) := by decide +kernel
theorem dX5_save_30 : decode cX5_save 30 = .ok (.iadd, 1) := by decide +kernel
theorem dX5_save_31 : decode cX5_save 31 = .ok (.aload_n 0, 1) := by decide +kernel
theorem dX5_save_32 : decode cX5_save 32 = .ok (.getfield 7, 3) := by decide +kernel
theorem dX5_save_35 : decode cX5_save 35 = .ok (.iload_n 2, 1) := by decide +kernel
theorem dX5_save_36 : decode cX5_save 36 = .ok (.iaload, 1) := by decide +kernel
theorem dX5_save_37 : decode cX5_save 37 = .ok (.iastore, 1) := by decide +kernel
theorem dX5_save_38 : decode cX5_save 38 = .ok (.iinc 2 1, 3) := by decide +kernel
theorem dX5_save_41 : decode cX5_save 41 = .ok (.goto (-28), 3) := by decide +kernel
theorem dX5_save_44 : decode cX5_save 44 = .ok (.aload_n 0, 1) := by decide +kernel
theorem dX5_save_45 : decode cX5_save 45 = .ok (.getfield 22, 3) := by decide +kernel
theorem dX5_save_48 : decode cX5_save 48 = .ok (.iload_n 1, 1) := by decide +kernel
theorem dX5_save_49 : decode cX5_save 49 = .ok (.iconst 1, 1) := by decide +kernel
theorem dX5_save_50 : decode cX5_save 50 = .ok (.iastore, 1) := by decide +kernel
theorem dX5_save_51 : decode cX5_save 51 = .ok (.aload_n 0, 1) := by decide +kernel
theorem dX5_save_52 : decode cX5_save 52 = .ok (.getfield 7, 3) := by decide +kernel
theorem dX5_save_55 : decode cX5_save 55 = .ok (.iconst 4, 1) := by decide +kernel
theorem dX5_save_56 : decode cX5_save 56 = .ok (.iaload, 1) := by decide +kernel
theorem dX5_save_57 : decode cX5_save 57 = .ok (.ireturn, 1) := by decide +kernel
theorem dX5_restore_0 : decode cX5_restore 0 = .ok (.iload_n 1, 1) := by decide +kernel
theorem dX5_restore_1 : decode cX5_restore 1 = .ok (.invokestatic 210, 3) := by decide +kernel
theorem dX5_restore_4 : decode cX5_restore 4 = .ok (.ifCond .ne 7, 3) := by decide +kernel
theorem dX5_restore_7 : decode cX5_restore 7 = .ok (.sipush (-1002), 3) := by decide +kernel
theorem dX5_restore_10 : decode cX5_restore 10 = .ok (.ireturn, 1) := by decide +kernel
theorem dX5_restore_11 : decode cX5_restore 11 = .ok (.aload_n 0, 1) := by decide +kernel
theorem dX5_restore_12 : decode cX5_restore 12 = .ok (.getfield 22, 3) := by decide +kernel
theorem dX5_restore_15 : decode cX5_restore 15 = .ok (.iload_n 1, 1) := by decide +kernel
theorem dX5_restore_16 : decode cX5_restore 16 = .ok (.iaload, 1) := by decide +kernel
theorem dX5_restore_17 : decode cX5_restore 17 = .ok (.ifCond .ne 7, 3) := by decide +kernel
theorem dX5_restore_20 : decode cX5_restore 20 = .ok (.sipush (-1005), 3) := by decide +kernel
theorem dX5_restore_23 : decode cX5_restore 23 = .ok (.ireturn, 1) := by decide +kernel
theorem dX5_restore_24 : decode cX5_restore 24 = .ok (.aload_n 0, 1) := by decide +kernel
theorem dX5_restore_25 : decode cX5_restore 25 = .ok (.invokevirtual 134, 3) := by decide +kernel
theorem dX5_restore_28 : decode cX5_restore 28 = .ok (.iconst 0, 1) := by decide +kernel
theorem dX5_restore_29 : decode cX5_restore 29 = .ok (.istore_n 2, 1) := by decide +kernel
theorem dX5_restore_30 : decode cX5_restore 30 = .ok (.iload_n 2, 1) := by decide +kernel
theorem dX5_restore_31 : decode cX5_restore 31 = .ok (.sipush 293, 3) := by decide +kernel
theorem dX5_restore_34 : decode cX5_restore 34 = .ok (.if_icmp .ge 27, 3) := by decide +kernel
theorem dX5_restore_37 : decode cX5_restore 37 = .ok (.aload_n 0, 1) := by decide +kernel
theorem dX5_restore_38 : decode cX5_restore 38 = .ok (.getfield 7, 3) := by decide +kernel
theorem dX5_restore_41 : decode cX5_restore 41 = .ok (.iload_n 2, 1) := by decide +kernel
theorem dX5_restore_42 : decode cX5_restore 42 = .ok (.aload_n 0, 1) := by decide +kernel
theorem dX5_restore_43 : decode cX5_restore 43 = .ok (.getfield 19, 3) := by decide +kernel
theorem dX5_restore_46 : decode cX5_restore 46 = .ok (.sipush 293, 3) := by decide +kernel
theorem dX5_restore_49 : decode cX5_restore 49 = .ok (.iload_n 1, 1) := by decide +kernel
theorem dX5_restore_50 : decode cX5_restore 50 = .ok (.imul, 1) := by decide +kernel
theorem dX5_restore_51 : decode cX5_restore 51 = .ok (.iload_n 2, 1) := by decide +kernel
theorem dX5_restore_52 : decode cX5_restore 52 = .ok (.iadd, 1) := by decide +kernel
theorem dX5_restore_53 : decode cX5_restore 53 = .ok (.iaload, 1) := by decide +kernel
theorem dX5_restore_54 : decode cX5_restore 54 = .ok (.iastore, 1) := by decide +kernel
theorem dX5_restore_55 : decode cX5_restore 55 = .ok (.iinc 2 1, 3) := by decide +kernel
theorem dX5_restore_58 : decode cX5_restore 58 = .ok (.goto (-28), 3) := by decide +kernel
theorem dX5_restore_61 : decode cX5_restore 61 = .ok (.aload_n 0, 1) := by decide +kernel
theorem dX5_restore_62 : decode cX5_restore 62 = .ok (.getfield 7, 3) := by decide +kernel
theorem dX5_restore_65 : decode cX5_restore 65 = .ok (.iconst 4, 1) := by decide +kernel
theorem dX5_restore_66 : decode cX5_restore 66 = .ok (.iaload, 1) := by decide +kernel
theorem dX5_restore_67 : decode cX5_restore 67 = .ok (.ireturn, 1) := by decide +kernel
theorem dL_law_0 : decode cL_law 0 = .ok (.new 7, 3) := by decide +kernel
theorem dL_law_3 : decode cL_law 3 = .ok (.dup, 1) := by decide +kernel
theorem dL_law_4 : decode cL_law 4 = .ok (.invokespecial 9, 3) := by decide +kernel
theorem dL_law_7 : decode cL_law 7 = .ok (.astore_n 1, 1) := by decide +kernel
theorem dL_law_8 : decode cL_law 8 = .ok (.new 10, 3) := by decide +kernel
theorem dL_law_11 : decode cL_law 11 = .ok (.dup, 1) := by decide +kernel
theorem dL_law_12 : decode cL_law 12 = .ok (.invokespecial 12, 3) := by decide +kernel
theorem dL_law_15 : decode cL_law 15 = .ok (.astore_n 2, 1) := by decide +kernel
theorem dL_law_16 : decode cL_law 16 = .ok (.iconst 0, 1) := by decide +kernel
theorem dL_law_17 : decode cL_law 17 = .ok (.istore_n 3, 1) := by decide +kernel
theorem dL_law_18 : decode cL_law 18 = .ok (.iload_n 3, 1) := by decide +kernel
theorem dL_law_19 : decode cL_law 19 = .ok (.aload_n 0, 1) := by decide +kernel
theorem dL_law_20 : decode cL_law 20 = .ok (.arraylength, 1) := by decide +kernel
theorem dL_law_21 : decode cL_law 21 = .ok (.iconst 5, 1) := by decide +kernel
theorem dL_law_22 : decode cL_law 22 = .ok (.isub, 1) := by decide +kernel
theorem dL_law_23 : decode cL_law 23 = .ok (.if_icmp .gt 678, 3) := by decide +kernel
theorem dL_law_26 : decode cL_law 26 = .ok (.aload_n 0, 1) := by decide +kernel
theorem dL_law_27 : decode cL_law 27 = .ok (.iload_n 3, 1) := by decide +kernel
theorem dL_law_28 : decode cL_law 28 = .ok (.iaload, 1) := by decide +kernel
theorem dL_law_29 : decode cL_law 29 = .ok (.bipush 31, 2) := by decide +kernel
theorem dL_law_31 : decode cL_law 31 = .ok (.iand, 1) := by decide +kernel
theorem dL_law_32 : decode cL_law 32 = .ok (.tableswitch 663 0 20 #[100, 133, 186, 199, 222, 255, 268, 301, 334, 377, 410, 433, 466, 489, 512, 525, 578, 591, 604, 617, 640], 100) := by decide +kernel
theorem dL_law_132 : decode cL_law 132 = .ok (.aload_n 1, 1) := by decide +kernel
theorem dL_law_133 : decode cL_law 133 = .ok (.aload_n 0, 1) := by decide +kernel
theorem dL_law_134 : decode cL_law 134 = .ok (.iload_n 3, 1) := by decide +kernel
theorem dL_law_135 : decode cL_law 135 = .ok (.iconst 1, 1) := by decide +kernel
theorem dL_law_136 : decode cL_law 136 = .ok (.iadd, 1) := by decide +kernel
theorem dL_law_137 : decode cL_law 137 = .ok (.iaload, 1) := by decide +kernel
theorem dL_law_138 : decode cL_law 138 = .ok (.aload_n 0, 1) := by decide +kernel
theorem dL_law_139 : decode cL_law 139 = .ok (.iload_n 3, 1) := by decide +kernel
theorem dL_law_140 : decode cL_law 140 = .ok (.iconst 2, 1) := by decide +kernel
theorem dL_law_141 : decode cL_law 141 = .ok (.iadd, 1) := by decide +kernel
theorem dL_law_142 : decode cL_law 142 = .ok (.iaload, 1) := by decide +kernel
theorem dL_law_143 : decode cL_law 143 = .ok (.invokevirtual 13, 3) := by decide +kernel
theorem dL_law_146 : decode cL_law 146 = .ok (.aload_n 2, 1) := by decide +kernel
theorem dL_law_147 : decode cL_law 147 = .ok (.aload_n 0, 1) := by decide +kernel
theorem dL_law_148 : decode cL_law 148 = .ok (.iload_n 3, 1) := by decide +kernel
theorem dL_law_149 : decode cL_law 149 = .ok (.iconst 1, 1) := by decide +kernel
theorem dL_law_150 : decode cL_law 150 = .ok (.iadd, 1) := by decide +kernel
theorem dL_law_151 : decode cL_law 151 = .ok (.iaload, 1) := by decide +kernel
theorem dL_law_152 : decode cL_law 152 = .ok (.aload_n 0, 1) := by decide +kernel
theorem dL_law_153 : decode cL_law 153 = .ok (.iload_n 3, 1) := by decide +kernel
theorem dL_law_154 : decode cL_law 154 = .ok (.iconst 2, 1) := by decide +kernel
theorem dL_law_155 : decode cL_law 155 = .ok (.iadd, 1) := by decide +kernel
theorem dL_law_156 : decode cL_law 156 = .ok (.iaload, 1) := by decide +kernel
theorem dL_law_157 : decode cL_law 157 = .ok (.invokevirtual 17, 3) := by decide +kernel
theorem dL_law_160 : decode cL_law 160 = .ok (.if_icmp .eq 535, 3) := by decide +kernel
theorem dL_law_163 : decode cL_law 163 = .ok (.iconst 0, 1) := by decide +kernel
theorem dL_law_164 : decode cL_law 164 = .ok (.ireturn, 1) := by decide +kernel
theorem dL_law_165 : decode cL_law 165 = .ok (.aload_n 1, 1) := by decide +kernel
theorem dL_law_166 : decode cL_law 166 = .ok (.aload_n 0, 1) := by decide +kernel
theorem dL_law_167 : decode cL_law 167 = .ok (.iload_n 3, 1) := by decide +kernel
theorem dL_law_168 : decode cL_law 168 = .ok (.iconst 1, 1) := by decide +kernel
theorem dL_law_169 : decode cL_law 169 = .ok (.iadd, 1) := by decide +kernel
theorem dL_law_170 : decode cL_law 170 = .ok (.iaload, 1) := by decide +kernel
theorem dL_law_171 : decode cL_law 171 = .ok (.aload_n 0, 1) := by decide +kernel
theorem dL_law_172 : decode cL_law 172 = .ok (.iload_n 3, 1) := by decide +kernel
theorem dL_law_173 : decode cL_law 173 = .ok (.iconst 2, 1) := by decide +kernel
theorem dL_law_174 : decode cL_law 174 = .ok (.iadd, 1) := by decide +kernel
theorem dL_law_175 : decode cL_law 175 = .ok (.iaload, 1) := by decide +kernel
theorem dL_law_176 : decode cL_law 176 = .ok (.aload_n 0, 1) := by decide +kernel
theorem dL_law_177 : decode cL_law 177 = .ok (.iload_n 3, 1) := by decide +kernel
theorem dL_law_178 : decode cL_law 178 = .ok (.iconst 3, 1) := by decide +kernel
theorem dL_law_179 : decode cL_law 179 = .ok (.iadd, 1) := by decide +kernel
theorem dL_law_180 : decode cL_law 180 = .ok (.iaload, 1) := by decide +kernel
theorem dL_law_181 : decode cL_law 181 = .ok (.aload_n 0, 1) := by decide +kernel
theorem dL_law_182 : decode cL_law 182 = .ok (.iload_n 3, 1) := by decide +kernel
theorem dL_law_183 : decode cL_law 183 = .ok (.iconst 4, 1) := by decide +kernel
theorem dL_law_184 : decode cL_law 184 = .ok (.iadd, 1) := by decide +kernel
theorem dL_law_185 : decode cL_law 185 = .ok (.iaload, 1) := by decide +kernel
theorem dL_law_186 : decode cL_law 186 = .ok (.invokevirtual 18, 3) := by decide +kernel
theorem dL_law_189 : decode cL_law 189 = .ok (.aload_n 2, 1) := by decide +kernel
theorem dL_law_190 : decode cL_law 190 = .ok (.aload_n 0, 1) := by decide +kernel
theorem dL_law_191 : decode cL_law 191 = .ok (.iload_n 3, 1) := by decide +kernel
theorem dL_law_192 : decode cL_law 192 = .ok (.iconst 1, 1) := by decide +kernel
theorem dL_law_193 : decode cL_law 193 = .ok (.iadd, 1) := by decide +kernel
theorem dL_law_194 : decode cL_law 194 = .ok (.iaload, 1) := by decide +kernel
theorem dL_law_195 : decode cL_law 195 = .ok (.aload_n 0, 1) := by decide +kernel
theorem dL_law_196 : decode cL_law 196 = .ok (.iload_n 3, 1) := by decide +kernel
theorem dL_law_197 : decode cL_law 197 = .ok (.iconst 2, 1) := by decide +kernel
theorem dL_law_198 : decode cL_law 198 = .ok (.iadd, 1) := by decide +kernel
theorem dL_law_199 : decode cL_law 199 = .ok (.iaload, 1) := by decide +kernel
theorem dL_law_200 : decode cL_law 200 = .ok (.aload_n 0, 1) := by decide +kernel
theorem dL_law_201 : decode cL_law 201 = .ok (.iload_n 3, 1) := by decide +kernel
theorem dL_law_202 : decode cL_law 202 = .ok (.iconst 3, 1) := by decide +kernel
theorem dL_law_203 : decode cL_law 203 = .ok (.iadd, 1) := by decide +kernel
theorem dL_law_204 : decode cL_law 204 = .ok (.iaload, 1) := by decide +kernel
theorem dL_law_205 : decode cL_law 205 = .ok (.aload_n 0, 1) := by decide +kernel
theorem dL_law_206 : decode cL_law 206 = .ok (.iload_n 3, 1) := by decide +kernel
theorem dL_law_207 : decode cL_law 207 = .ok (.iconst 4, 1) := by decide +kernel
theorem dL_law_208 : decode cL_law 208 = .ok (.iadd, 1) := by decide +kernel
theorem dL_law_209 : decode cL_law 209 = .ok (.iaload, 1) := by decide +kernel
theorem dL_law_210 : decode cL_law 210 = .ok (.invokevirtual 22, 3) := by decide +kernel
theorem dL_law_213 : decode cL_law 213 = .ok (.if_icmp .eq 482, 3) := by decide +kernel
theorem dL_law_216 : decode cL_law 216 = .ok (.iconst 0, 1) := by decide +kernel
theorem dL_law_217 : decode cL_law 217 = .ok (.ireturn, 1) := by decide +kernel
theorem dL_law_218 : decode cL_law 218 = .ok (.aload_n 1, 1) := by decide +kernel
theorem dL_law_219 : decode cL_law 219 = .ok (.invokevirtual 23, 3) := by decide +kernel
theorem dL_law_222 : decode cL_law 222 = .ok (.aload_n 2, 1) := by decide +kernel
theorem dL_law_223 : decode cL_law 223 = .ok (.invokevirtual 27, 3) := by decide +kernel
theorem dL_law_226 : decode cL_law 226 = .ok (.if_icmp .eq 469, 3) := by decide +kernel
theorem dL_law_229 : decode cL_law 229 = .ok (.iconst 0, 1) := by decide +kernel
theorem dL_law_230 : decode cL_law 230 = .ok (.ireturn, 1) := by decide +kernel
theorem dL_law_231 : decode cL_law 231 = .ok (.aload_n 1, 1) := by decide +kernel
theorem dL_law_232 : decode cL_law 232 = .ok (.aload_n 0, 1) := by decide +kernel
theorem dL_law_233 : decode cL_law 233 = .ok (.iload_n 3, 1) := by decide +kernel
theorem dL_law_234 : decode cL_law 234 = .ok (.iconst 1, 1) := by decide +kernel
theorem dL_law_235 : decode cL_law 235 = .ok (.iadd, 1) := by decide +kernel
theorem dL_law_236 : decode cL_law 236 = .ok (.iaload, 1) := by decide +kernel
theorem dL_law_237 : decode cL_law 237 = .ok (.invokevirtual 28, 3) := by decide +kernel
theorem dL_law_240 : decode cL_law 240 = .ok (.aload_n 2, 1) := by decide +kernel
theorem dL_law_241 : decode cL_law 241 = .ok (.aload_n 0, 1) := by decide +kernel
theorem dL_law_242 : decode cL_law 242 = .ok (.iload_n 3, 1) := by decide +kernel
theorem dL_law_243 : decode cL_law 243 = .ok (.iconst 1, 1) := by decide +kernel
theorem dL_law_244 : decode cL_law 244 = .ok (.iadd, 1) := by decide +kernel
theorem dL_law_245 : decode cL_law 245 = .ok (.iaload, 1) := by decide +kernel
theorem dL_law_246 : decode cL_law 246 = .ok (.invokevirtual 32, 3) := by decide +kernel
theorem dL_law_249 : decode cL_law 249 = .ok (.if_icmp .eq 446, 3) := by decide +kernel
theorem dL_law_252 : decode cL_law 252 = .ok (.iconst 0, 1) := by decide +kernel
theorem dL_law_253 : decode cL_law 253 = .ok (.ireturn, 1) := by decide +kernel
theorem dL_law_254 : decode cL_law 254 = .ok (.aload_n 1, 1) := by decide +kernel
theorem dL_law_255 : decode cL_law 255 = .ok (.aload_n 0, 1) := by decide +kernel
theorem dL_law_256 : decode cL_law 256 = .ok (.iload_n 3, 1) := by decide +kernel
theorem dL_law_257 : decode cL_law 257 = .ok (.iconst 1, 1) := by decide +kernel
theorem dL_law_258 : decode cL_law 258 = .ok (.iadd, 1) := by decide +kernel
theorem dL_law_259 : decode cL_law 259 = .ok (.iaload, 1) := by decide +kernel
theorem dL_law_260 : decode cL_law 260 = .ok (.aload_n 0, 1) := by decide +kernel
theorem dL_law_261 : decode cL_law 261 = .ok (.iload_n 3, 1) := by decide +kernel
theorem dL_law_262 : decode cL_law 262 = .ok (.iconst 2, 1) := by decide +kernel
theorem dL_law_263 : decode cL_law 263 = .ok (.iadd, 1) := by decide +kernel
theorem dL_law_264 : decode cL_law 264 = .ok (.iaload, 1) := by decide +kernel
theorem dL_law_265 : decode cL_law 265 = .ok (.invokevirtual 33, 3) := by decide +kernel
theorem dL_law_268 : decode cL_law 268 = .ok (.aload_n 2, 1) := by decide +kernel
theorem dL_law_269 : decode cL_law 269 = .ok (.aload_n 0, 1) := by decide +kernel
theorem dL_law_270 : decode cL_law 270 = .ok (.iload_n 3, 1) := by decide +kernel
theorem dL_law_271 : decode cL_law 271 = .ok (.iconst 1, 1) := by decide +kernel
theorem dL_law_272 : decode cL_law 272 = .ok (.iadd, 1) := by decide +kernel
theorem dL_law_273 : decode cL_law 273 = .ok (.iaload, 1) := by decide +kernel
theorem dL_law_274 : decode cL_law 274 = .ok (.aload_n 0, 1) := by decide +kernel
theorem dL_law_275 : decode cL_law 275 = .ok (.iload_n 3, 1) := by decide +kernel
theorem dL_law_276 : decode cL_law 276 = .ok (.iconst 2, 1) := by decide +kernel
theorem dL_law_277 : decode cL_law 277 = .ok (.iadd, 1) := by decide +kernel
theorem dL_law_278 : decode cL_law 278 = .ok (.iaload, 1) := by decide +kernel
theorem dL_law_279 : decode cL_law 279 = .ok (.invokevirtual 36, 3) := by decide +kernel
theorem dL_law_282 : decode cL_law 282 = .ok (.if_icmp .eq 413, 3) := by decide +kernel
theorem dL_law_285 : decode cL_law 285 = .ok (.iconst 0, 1) := by decide +kernel
theorem dL_law_286 : decode cL_law 286 = .ok (.ireturn, 1) := by decide +kernel
theorem dL_law_287 : decode cL_law 287 = .ok (.aload_n 1, 1) := by decide +kernel
theorem dL_law_288 : decode cL_law 288 = .ok (.invokevirtual 37, 3) := by decide +kernel
theorem dL_law_291 : decode cL_law 291 = .ok (.aload_n 2, 1) := by decide +kernel
theorem dL_law_292 : decode cL_law 292 = .ok (.invokevirtual 40, 3) := by decide +kernel
theorem dL_law_295 : decode cL_law 295 = .ok (.if_icmp .eq 400, 3) := by decide +kernel
theorem dL_law_298 : decode cL_law 298 = .ok (.iconst 0, 1) := by decide +kernel
theorem dL_law_299 : decode cL_law 299 = .ok (.ireturn, 1) := by decide +kernel
theorem dL_law_300 : decode cL_law 300 = .ok (.aload_n 1, 1) := by decide +kernel
theorem dL_law_301 : decode cL_law 301 = .ok (.aload_n 0, 1) := by decide +kernel
theorem dL_law_302 : decode cL_law 302 = .ok (.iload_n 3, 1) := by decide +kernel
theorem dL_law_303 : decode cL_law 303 = .ok (.iconst 1, 1) := by decide +kernel
theorem dL_law_304 : decode cL_law 304 = .ok (.iadd, 1) := by decide +kernel
theorem dL_law_305 : decode cL_law 305 = .ok (.iaload, 1) := by decide +kernel
theorem dL_law_306 : decode cL_law 306 = .ok (.aload_n 0, 1) := by decide +kernel
theorem dL_law_307 : decode cL_law 307 = .ok (.iload_n 3, 1) := by decide +kernel
theorem dL_law_308 : decode cL_law 308 = .ok (.iconst 2, 1) := by decide +kernel
theorem dL_law_309 : decode cL_law 309 = .ok (.iadd, 1) := by decide +kernel
theorem dL_law_310 : decode cL_law 310 = .ok (.iaload, 1) := by decide +kernel
theorem dL_law_311 : decode cL_law 311 = .ok (.invokevirtual 41, 3) := by decide +kernel
theorem dL_law_314 : decode cL_law 314 = .ok (.aload_n 2, 1) := by decide +kernel
theorem dL_law_315 : decode cL_law 315 = .ok (.aload_n 0, 1) := by decide +kernel
theorem dL_law_316 : decode cL_law 316 = .ok (.iload_n 3, 1) := by decide +kernel
theorem dL_law_317 : decode cL_law 317 = .ok (.iconst 1, 1) := by decide +kernel
theorem dL_law_318 : decode cL_law 318 = .ok (.iadd, 1) := by decide +kernel
theorem dL_law_319 : decode cL_law 319 = .ok (.iaload, 1) := by decide +kernel
theorem dL_law_320 : decode cL_law 320 = .ok (.aload_n 0, 1) := by decide +kernel
theorem dL_law_321 : decode cL_law 321 = .ok (.iload_n 3, 1) := by decide +kernel
theorem dL_law_322 : decode cL_law 322 = .ok (.iconst 2, 1) := by decide +kernel
theorem dL_law_323 : decode cL_law 323 = .ok (.iadd, 1) := by decide +kernel
theorem dL_law_324 : decode cL_law 324 = .ok (.iaload, 1) := by decide +kernel
theorem dL_law_325 : decode cL_law 325 = .ok (.invokevirtual 44, 3) := by decide +kernel
theorem dL_law_328 : decode cL_law 328 = .ok (.if_icmp .eq 367, 3) := by decide +kernel
theorem dL_law_331 : decode cL_law 331 = .ok (.iconst 0, 1) := by decide +kernel
theorem dL_law_332 : decode cL_law 332 = .ok (.ireturn, 1) := by decide +kernel
theorem dL_law_333 : decode cL_law 333 = .ok (.aload_n 1, 1) := by decide +kernel
theorem dL_law_334 : decode cL_law 334 = .ok (.aload_n 0, 1) := by decide +kernel
theorem dL_law_335 : decode cL_law 335 = .ok (.iload_n 3, 1) := by decide +kernel
theorem dL_law_336 : decode cL_law 336 = .ok (.iconst 1, 1) := by decide +kernel
theorem dL_law_337 : decode cL_law 337 = .ok (.iadd, 1) := by decide +kernel
theorem dL_law_338 : decode cL_law 338 = .ok (.iaload, 1) := by decide +kernel
theorem dL_law_339 : decode cL_law 339 = .ok (.aload_n 0, 1) := by decide +kernel
theorem dL_law_340 : decode cL_law 340 = .ok (.iload_n 3, 1) := by decide +kernel
theorem dL_law_341 : decode cL_law 341 = .ok (.iconst 2, 1) := by decide +kernel
theorem dL_law_342 : decode cL_law 342 = .ok (.iadd, 1) := by decide +kernel
theorem dL_law_343 : decode cL_law 343 = .ok (.iaload, 1) := by decide +kernel
theorem dL_law_344 : decode cL_law 344 = .ok (.invokevirtual 45, 3) := by decide +kernel
theorem dL_law_347 : decode cL_law 347 = .ok (.aload_n 2, 1) := by decide +kernel
theorem dL_law_348 : decode cL_law 348 = .ok (.aload_n 0, 1) := by decide +kernel
theorem dL_law_349 : decode cL_law 349 = .ok (.iload_n 3, 1) := by decide +kernel
theorem dL_law_350 : decode cL_law 350 = .ok (.iconst 1, 1) := by decide +kernel
theorem dL_law_351 : decode cL_law 351 = .ok (.iadd, 1) := by decide +kernel
theorem dL_law_352 : decode cL_law 352 = .ok (.iaload, 1) := by decide +kernel
theorem dL_law_353 : decode cL_law 353 = .ok (.aload_n 0, 1) := by decide +kernel
theorem dL_law_354 : decode cL_law 354 = .ok (.iload_n 3, 1) := by decide +kernel
theorem dL_law_355 : decode cL_law 355 = .ok (.iconst 2, 1) := by decide +kernel
theorem dL_law_356 : decode cL_law 356 = .ok (.iadd, 1) := by decide +kernel
theorem dL_law_357 : decode cL_law 357 = .ok (.iaload, 1) := by decide +kernel
theorem dL_law_358 : decode cL_law 358 = .ok (.invokevirtual 48, 3) := by decide +kernel
theorem dL_law_361 : decode cL_law 361 = .ok (.if_icmp .eq 334, 3) := by decide +kernel
theorem dL_law_364 : decode cL_law 364 = .ok (.iconst 0, 1) := by decide +kernel
theorem dL_law_365 : decode cL_law 365 = .ok (.ireturn, 1) := by decide +kernel
theorem dL_law_366 : decode cL_law 366 = .ok (.aload_n 1, 1) := by decide +kernel
theorem dL_law_367 : decode cL_law 367 = .ok (.aload_n 0, 1) := by decide +kernel
theorem dL_law_368 : decode cL_law 368 = .ok (.iload_n 3, 1) := by decide +kernel
theorem dL_law_369 : decode cL_law 369 = .ok (.iconst 1, 1) := by decide +kernel
theorem dL_law_370 : decode cL_law 370 = .ok (.iadd, 1) := by decide +kernel
theorem dL_law_371 : decode cL_law 371 = .ok (.iaload, 1) := by decide +kernel
theorem dL_law_372 : decode cL_law 372 = .ok (.aload_n 0, 1) := by decide +kernel
theorem dL_law_373 : decode cL_law 373 = .ok (.iload_n 3, 1) := by decide +kernel
theorem dL_law_374 : decode cL_law 374 = .ok (.iconst 2, 1) := by decide +kernel
theorem dL_law_375 : decode cL_law 375 = .ok (.iadd, 1) := by decide +kernel
theorem dL_law_376 : decode cL_law 376 = .ok (.iaload, 1) := by decide +kernel
theorem dL_law_377 : decode cL_law 377 = .ok (.aload_n 0, 1) := by decide +kernel
theorem dL_law_378 : decode cL_law 378 = .ok (.iload_n 3, 1) := by decide +kernel
theorem dL_law_379 : decode cL_law 379 = .ok (.iconst 3, 1) := by decide +kernel
theorem dL_law_380 : decode cL_law 380 = .ok (.iadd, 1) := by decide +kernel
theorem dL_law_381 : decode cL_law 381 = .ok (.iaload, 1) := by decide +kernel
theorem dL_law_382 : decode cL_law 382 = .ok (.invokevirtual 49, 3) := by decide +kernel
theorem dL_law_385 : decode cL_law 385 = .ok (.aload_n 2, 1) := by decide +kernel
theorem dL_law_386 : decode cL_law 386 = .ok (.aload_n 0, 1) := by decide +kernel
theorem dL_law_387 : decode cL_law 387 = .ok (.iload_n 3, 1) := by decide +kernel
theorem dL_law_388 : decode cL_law 388 = .ok (.iconst 1, 1) := by decide +kernel
theorem dL_law_389 : decode cL_law 389 = .ok (.iadd, 1) := by decide +kernel
theorem dL_law_390 : decode cL_law 390 = .ok (.iaload, 1) := by decide +kernel
theorem dL_law_391 : decode cL_law 391 = .ok (.aload_n 0, 1) := by decide +kernel
theorem dL_law_392 : decode cL_law 392 = .ok (.iload_n 3, 1) := by decide +kernel
theorem dL_law_393 : decode cL_law 393 = .ok (.iconst 2, 1) := by decide +kernel
theorem dL_law_394 : decode cL_law 394 = .ok (.iadd, 1) := by decide +kernel
theorem dL_law_395 : decode cL_law 395 = .ok (.iaload, 1) := by decide +kernel
theorem dL_law_396 : decode cL_law 396 = .ok (.aload_n 0, 1) := by decide +kernel
theorem dL_law_397 : decode cL_law 397 = .ok (.iload_n 3, 1) := by decide +kernel
theorem dL_law_398 : decode cL_law 398 = .ok (.iconst 3, 1) := by decide +kernel
theorem dL_law_399 : decode cL_law 399 = .ok (.iadd, 1) := by decide +kernel
theorem dL_law_400 : decode cL_law 400 = .ok (.iaload, 1) := by decide +kernel
theorem dL_law_401 : decode cL_law 401 = .ok (.invokevirtual 53, 3) := by decide +kernel
theorem dL_law_404 : decode cL_law 404 = .ok (.if_icmp .eq 291, 3) := by decide +kernel
theorem dL_law_407 : decode cL_law 407 = .ok (.iconst 0, 1) := by decide +kernel
theorem dL_law_408 : decode cL_law 408 = .ok (.ireturn, 1) := by decide +kernel
theorem dL_law_409 : decode cL_law 409 = .ok (.aload_n 1, 1) := by decide +kernel
theorem dL_law_410 : decode cL_law 410 = .ok (.aload_n 0, 1) := by decide +kernel
theorem dL_law_411 : decode cL_law 411 = .ok (.iload_n 3, 1) := by decide +kernel
theorem dL_law_412 : decode cL_law 412 = .ok (.iconst 1, 1) := by decide +kernel
theorem dL_law_413 : decode cL_law 413 = .ok (.iadd, 1) := by decide +kernel
theorem dL_law_414 : decode cL_law 414 = .ok (.iaload, 1) := by decide +kernel
theorem dL_law_415 : decode cL_law 415 = .ok (.aload_n 0, 1) := by decide +kernel
theorem dL_law_416 : decode cL_law 416 = .ok (.iload_n 3, 1) := by decide +kernel
theorem dL_law_417 : decode cL_law 417 = .ok (.iconst 2, 1) := by decide +kernel
theorem dL_law_418 : decode cL_law 418 = .ok (.iadd, 1) := by decide +kernel
theorem dL_law_419 : decode cL_law 419 = .ok (.iaload, 1) := by decide +kernel
theorem dL_law_420 : decode cL_law 420 = .ok (.invokevirtual 54, 3) := by decide +kernel
theorem dL_law_423 : decode cL_law 423 = .ok (.aload_n 2, 1) := by decide +kernel
theorem dL_law_424 : decode cL_law 424 = .ok (.aload_n 0, 1) := by decide +kernel
theorem dL_law_425 : decode cL_law 425 = .ok (.iload_n 3, 1) := by decide +kernel
theorem dL_law_426 : decode cL_law 426 = .ok (.iconst 1, 1) := by decide +kernel
theorem dL_law_427 : decode cL_law 427 = .ok (.iadd, 1) := by decide +kernel
theorem dL_law_428 : decode cL_law 428 = .ok (.iaload, 1) := by decide +kernel
theorem dL_law_429 : decode cL_law 429 = .ok (.aload_n 0, 1) := by decide +kernel
theorem dL_law_430 : decode cL_law 430 = .ok (.iload_n 3, 1) := by decide +kernel
theorem dL_law_431 : decode cL_law 431 = .ok (.iconst 2, 1) := by decide +kernel
theorem dL_law_432 : decode cL_law 432 = .ok (.iadd, 1) := by decide +kernel
theorem dL_law_433 : decode cL_law 433 = .ok (.iaload, 1) := by decide +kernel
theorem dL_law_434 : decode cL_law 434 = .ok (.invokevirtual 57, 3) := by decide +kernel
theorem dL_law_437 : decode cL_law 437 = .ok (.if_icmp .eq 258, 3) := by decide +kernel
theorem dL_law_440 : decode cL_law 440 = .ok (.iconst 0, 1) := by decide +kernel
theorem dL_law_441 : decode cL_law 441 = .ok (.ireturn, 1) := by decide +kernel
theorem dL_law_442 : decode cL_law 442 = .ok (.aload_n 1, 1) := by decide +kernel
theorem dL_law_443 : decode cL_law 443 = .ok (.aload_n 0, 1) := by decide +kernel
theorem dL_law_444 : decode cL_law 444 = .ok (.iload_n 3, 1) := by decide +kernel
theorem dL_law_445 : decode cL_law 445 = .ok (.iconst 1, 1) := by decide +kernel
theorem dL_law_446 : decode cL_law 446 = .ok (.iadd, 1) := by decide +kernel
theorem dL_law_447 : decode cL_law 447 = .ok (.iaload, 1) := by decide +kernel
theorem dL_law_448 : decode cL_law 448 = .ok (.invokevirtual 58, 3) := by decide +kernel
theorem dL_law_451 : decode cL_law 451 = .ok (.aload_n 2, 1) := by decide +kernel
theorem dL_law_452 : decode cL_law 452 = .ok (.aload_n 0, 1) := by decide +kernel
theorem dL_law_453 : decode cL_law 453 = .ok (.iload_n 3, 1) := by decide +kernel
theorem dL_law_454 : decode cL_law 454 = .ok (.iconst 1, 1) := by decide +kernel
theorem dL_law_455 : decode cL_law 455 = .ok (.iadd, 1) := by decide +kernel
theorem dL_law_456 : decode cL_law 456 = .ok (.iaload, 1) := by decide +kernel
theorem dL_law_457 : decode cL_law 457 = .ok (.invokevirtual 61, 3) := by decide +kernel
theorem dL_law_460 : decode cL_law 460 = .ok (.if_icmp .eq 235, 3) := by decide +kernel
theorem dL_law_463 : decode cL_law 463 = .ok (.iconst 0, 1) := by decide +kernel
theorem dL_law_464 : decode cL_law 464 = .ok (.ireturn, 1) := by decide +kernel
theorem dL_law_465 : decode cL_law 465 = .ok (.aload_n 1, 1) := by decide +kernel
theorem dL_law_466 : decode cL_law 466 = .ok (.aload_n 0, 1) := by decide +kernel
theorem dL_law_467 : decode cL_law 467 = .ok (.iload_n 3, 1) := by decide +kernel
theorem dL_law_468 : decode cL_law 468 = .ok (.iconst 1, 1) := by decide +kernel
theorem dL_law_469 : decode cL_law 469 = .ok (.iadd, 1) := by decide +kernel
theorem dL_law_470 : decode cL_law 470 = .ok (.iaload, 1) := by decide +kernel
theorem dL_law_471 : decode cL_law 471 = .ok (.aload_n 0, 1) := by decide +kernel
theorem dL_law_472 : decode cL_law 472 = .ok (.iload_n 3, 1) := by decide +kernel
theorem dL_law_473 : decode cL_law 473 = .ok (.iconst 2, 1) := by decide +kernel
theorem dL_law_474 : decode cL_law 474 = .ok (.iadd, 1) := by decide +kernel
theorem dL_law_475 : decode cL_law 475 = .ok (.iaload, 1) := by decide +kernel
theorem dL_law_476 : decode cL_law 476 = .ok (.invokevirtual 62, 3) := by decide +kernel
theorem dL_law_479 : decode cL_law 479 = .ok (.aload_n 2, 1) := by decide +kernel
theorem dL_law_480 : decode cL_law 480 = .ok (.aload_n 0, 1) := by decide +kernel
theorem dL_law_481 : decode cL_law 481 = .ok (.iload_n 3, 1) := by decide +kernel
theorem dL_law_482 : decode cL_law 482 = .ok (.iconst 1, 1) := by decide +kernel
theorem dL_law_483 : decode cL_law 483 = .ok (.iadd, 1) := by decide +kernel
theorem dL_law_484 : decode cL_law 484 = .ok (.iaload, 1) := by decide +kernel
theorem dL_law_485 : decode cL_law 485 = .ok (.aload_n 0, 1) := by decide +kernel
theorem dL_law_486 : decode cL_law 486 = .ok (.iload_n 3, 1) := by decide +kernel
theorem dL_law_487 : decode cL_law 487 = .ok (.iconst 2, 1) := by decide +kernel
theorem dL_law_488 : decode cL_law 488 = .ok (.iadd, 1) := by decide +kernel
theorem dL_law_489 : decode cL_law 489 = .ok (.iaload, 1) := by decide +kernel
theorem dL_law_490 : decode cL_law 490 = .ok (.invokevirtual 65, 3) := by decide +kernel
theorem dL_law_493 : decode cL_law 493 = .ok (.if_icmp .eq 202, 3) := by decide +kernel
theorem dL_law_496 : decode cL_law 496 = .ok (.iconst 0, 1) := by decide +kernel
theorem dL_law_497 : decode cL_law 497 = .ok (.ireturn, 1) := by decide +kernel
theorem dL_law_498 : decode cL_law 498 = .ok (.aload_n 1, 1) := by decide +kernel
theorem dL_law_499 : decode cL_law 499 = .ok (.aload_n 0, 1) := by decide +kernel
theorem dL_law_500 : decode cL_law 500 = .ok (.iload_n 3, 1) := by decide +kernel
theorem dL_law_501 : decode cL_law 501 = .ok (.iconst 1, 1) := by decide +kernel
theorem dL_law_502 : decode cL_law 502 = .ok (.iadd, 1) := by decide +kernel
theorem dL_law_503 : decode cL_law 503 = .ok (.iaload, 1) := by decide +kernel
theorem dL_law_504 : decode cL_law 504 = .ok (.invokevirtual 66, 3) := by decide +kernel
theorem dL_law_507 : decode cL_law 507 = .ok (.aload_n 2, 1) := by decide +kernel
theorem dL_law_508 : decode cL_law 508 = .ok (.aload_n 0, 1) := by decide +kernel
theorem dL_law_509 : decode cL_law 509 = .ok (.iload_n 3, 1) := by decide +kernel
theorem dL_law_510 : decode cL_law 510 = .ok (.iconst 1, 1) := by decide +kernel
theorem dL_law_511 : decode cL_law 511 = .ok (.iadd, 1) := by decide +kernel
theorem dL_law_512 : decode cL_law 512 = .ok (.iaload, 1) := by decide +kernel
theorem dL_law_513 : decode cL_law 513 = .ok (.invokevirtual 69, 3) := by decide +kernel
theorem dL_law_516 : decode cL_law 516 = .ok (.if_icmp .eq 179, 3) := by decide +kernel
theorem dL_law_519 : decode cL_law 519 = .ok (.iconst 0, 1) := by decide +kernel
theorem dL_law_520 : decode cL_law 520 = .ok (.ireturn, 1) := by decide +kernel
theorem dL_law_521 : decode cL_law 521 = .ok (.aload_n 1, 1) := by decide +kernel
theorem dL_law_522 : decode cL_law 522 = .ok (.aload_n 0, 1) := by decide +kernel
theorem dL_law_523 : decode cL_law 523 = .ok (.iload_n 3, 1) := by decide +kernel
theorem dL_law_524 : decode cL_law 524 = .ok (.iconst 1, 1) := by decide +kernel
theorem dL_law_525 : decode cL_law 525 = .ok (.iadd, 1) := by decide +kernel
theorem dL_law_526 : decode cL_law 526 = .ok (.iaload, 1) := by decide +kernel
theorem dL_law_527 : decode cL_law 527 = .ok (.invokevirtual 70, 3) := by decide +kernel
theorem dL_law_530 : decode cL_law 530 = .ok (.aload_n 2, 1) := by decide +kernel
theorem dL_law_531 : decode cL_law 531 = .ok (.aload_n 0, 1) := by decide +kernel
theorem dL_law_532 : decode cL_law 532 = .ok (.iload_n 3, 1) := by decide +kernel
theorem dL_law_533 : decode cL_law 533 = .ok (.iconst 1, 1) := by decide +kernel
theorem dL_law_534 : decode cL_law 534 = .ok (.iadd, 1) := by decide +kernel
theorem dL_law_535 : decode cL_law 535 = .ok (.iaload, 1) := by decide +kernel
theorem dL_law_536 : decode cL_law 536 = .ok (.invokevirtual 73, 3) := by decide +kernel
theorem dL_law_539 : decode cL_law 539 = .ok (.if_icmp .eq 156, 3) := by decide +kernel
theorem dL_law_542 : decode cL_law 542 = .ok (.iconst 0, 1) := by decide +kernel
theorem dL_law_543 : decode cL_law 543 = .ok (.ireturn, 1) := by decide +kernel
theorem dL_law_544 : decode cL_law 544 = .ok (.aload_n 1, 1) := by decide +kernel
theorem dL_law_545 : decode cL_law 545 = .ok (.invokevirtual 74, 3) := by decide +kernel
theorem dL_law_548 : decode cL_law 548 = .ok (.aload_n 2, 1) := by decide +kernel
theorem dL_law_549 : decode cL_law 549 = .ok (.invokevirtual 77, 3) := by decide +kernel
theorem dL_law_552 : decode cL_law 552 = .ok (.if_icmp .eq 143, 3) := by decide +kernel
theorem dL_law_555 : decode cL_law 555 = .ok (.iconst 0, 1) := by decide +kernel
theorem dL_law_556 : decode cL_law 556 = .ok (.ireturn, 1) := by decide +kernel
theorem dL_law_557 : decode cL_law 557 = .ok (.aload_n 1, 1) := by decide +kernel
theorem dL_law_558 : decode cL_law 558 = .ok (.aload_n 0, 1) := by decide +kernel
theorem dL_law_559 : decode cL_law 559 = .ok (.iload_n 3, 1) := by decide +kernel
theorem dL_law_560 : decode cL_law 560 = .ok (.iconst 1, 1) := by decide +kernel
theorem dL_law_561 : decode cL_law 561 = .ok (.iadd, 1) := by decide +kernel
theorem dL_law_562 : decode cL_law 562 = .ok (.iaload, 1) := by decide +kernel
theorem dL_law_563 : decode cL_law 563 = .ok (.i2l, 1) := by decide +kernel
theorem dL_law_564 : decode cL_law 564 = .ok (.bipush 32, 2) := by decide +kernel
theorem dL_law_566 : decode cL_law 566 = .ok (.lshl, 1) := by decide +kernel
theorem dL_law_567 : decode cL_law 567 = .ok (.aload_n 0, 1) := by decide +kernel
theorem dL_law_568 : decode cL_law 568 = .ok (.iload_n 3, 1) := by decide +kernel
theorem dL_law_569 : decode cL_law 569 = .ok (.iconst 2, 1) := by decide +kernel
theorem dL_law_570 : decode cL_law 570 = .ok (.iadd, 1) := by decide +kernel
theorem dL_law_571 : decode cL_law 571 = .ok (.iaload, 1) := by decide +kernel
theorem dL_law_572 : decode cL_law 572 = .ok (.i2l, 1) := by decide +kernel
theorem dL_law_573 : decode cL_law 573 = .ok (.ldc2_w 78, 3) := by decide +kernel
theorem dL_law_576 : decode cL_law 576 = .ok (.land, 1) := by decide +kernel
theorem dL_law_577 : decode cL_law 577 = .ok (.lor, 1) := by decide +kernel
theorem dL_law_578 : decode cL_law 578 = .ok (.invokevirtual 80, 3) := by decide +kernel
theorem dL_law_581 : decode cL_law 581 = .ok (.aload_n 2, 1) := by decide +kernel
theorem dL_law_582 : decode cL_law 582 = .ok (.aload_n 0, 1) := by decide +kernel
theorem dL_law_583 : decode cL_law 583 = .ok (.iload_n 3, 1) := by decide +kernel
theorem dL_law_584 : decode cL_law 584 = .ok (.iconst 1, 1) := by decide +kernel
theorem dL_law_585 : decode cL_law 585 = .ok (.iadd, 1) := by decide +kernel
theorem dL_law_586 : decode cL_law 586 = .ok (.iaload, 1) := by decide +kernel
theorem dL_law_587 : decode cL_law 587 = .ok (.i2l, 1) := by decide +kernel
theorem dL_law_588 : decode cL_law 588 = .ok (.bipush 32, 2) := by decide +kernel
theorem dL_law_590 : decode cL_law 590 = .ok (.lshl, 1) := by decide +kernel
theorem dL_law_591 : decode cL_law 591 = .ok (.aload_n 0, 1) := by decide +kernel
theorem dL_law_592 : decode cL_law 592 = .ok (.iload_n 3, 1) := by decide +kernel
theorem dL_law_593 : decode cL_law 593 = .ok (.iconst 2, 1) := by decide +kernel
theorem dL_law_594 : decode cL_law 594 = .ok (.iadd, 1) := by decide +kernel
theorem dL_law_595 : decode cL_law 595 = .ok (.iaload, 1) := by decide +kernel
theorem dL_law_596 : decode cL_law 596 = .ok (.i2l, 1) := by decide +kernel
theorem dL_law_597 : decode cL_law 597 = .ok (.ldc2_w 78, 3) := by decide +kernel
theorem dL_law_600 : decode cL_law 600 = .ok (.land, 1) := by decide +kernel
theorem dL_law_601 : decode cL_law 601 = .ok (.lor, 1) := by decide +kernel
theorem dL_law_602 : decode cL_law 602 = .ok (.invokevirtual 84, 3) := by decide +kernel
theorem dL_law_605 : decode cL_law 605 = .ok (.if_icmp .eq 90, 3) := by decide +kernel
theorem dL_law_608 : decode cL_law 608 = .ok (.iconst 0, 1) := by decide +kernel
theorem dL_law_609 : decode cL_law 609 = .ok (.ireturn, 1) := by decide +kernel
theorem dL_law_610 : decode cL_law 610 = .ok (.aload_n 1, 1) := by decide +kernel
theorem dL_law_611 : decode cL_law 611 = .ok (.invokevirtual 85, 3) := by decide +kernel
theorem dL_law_614 : decode cL_law 614 = .ok (.aload_n 2, 1) := by decide +kernel
theorem dL_law_615 : decode cL_law 615 = .ok (.invokevirtual 88, 3) := by decide +kernel
theorem dL_law_618 : decode cL_law 618 = .ok (.if_icmp .eq 77, 3) := by decide +kernel
theorem dL_law_621 : decode cL_law 621 = .ok (.iconst 0, 1) := by decide +kernel
theorem dL_law_622 : decode cL_law 622 = .ok (.ireturn, 1) := by decide +kernel
theorem dL_law_623 : decode cL_law 623 = .ok (.aload_n 1, 1) := by decide +kernel
theorem dL_law_624 : decode cL_law 624 = .ok (.invokevirtual 89, 3) := by decide +kernel
theorem dL_law_627 : decode cL_law 627 = .ok (.aload_n 2, 1) := by decide +kernel
theorem dL_law_628 : decode cL_law 628 = .ok (.invokevirtual 92, 3) := by decide +kernel
theorem dL_law_631 : decode cL_law 631 = .ok (.if_icmp .eq 64, 3) := by decide +kernel
theorem dL_law_634 : decode cL_law 634 = .ok (.iconst 0, 1) := by decide +kernel
theorem dL_law_635 : decode cL_law 635 = .ok (.ireturn, 1) := by decide +kernel
theorem dL_law_636 : decode cL_law 636 = .ok (.aload_n 1, 1) := by decide +kernel
theorem dL_law_637 : decode cL_law 637 = .ok (.invokevirtual 93, 3) := by decide +kernel
theorem dL_law_640 : decode cL_law 640 = .ok (.aload_n 2, 1) := by decide +kernel
theorem dL_law_641 : decode cL_law 641 = .ok (.invokevirtual 96, 3) := by decide +kernel
theorem dL_law_644 : decode cL_law 644 = .ok (.if_icmp .eq 51, 3) := by decide +kernel
theorem dL_law_647 : decode cL_law 647 = .ok (.iconst 0, 1) := by decide +kernel
theorem dL_law_648 : decode cL_law 648 = .ok (.ireturn, 1) := by decide +kernel
theorem dL_law_649 : decode cL_law 649 = .ok (.aload_n 1, 1) := by decide +kernel
theorem dL_law_650 : decode cL_law 650 = .ok (.aload_n 0, 1) := by decide +kernel
theorem dL_law_651 : decode cL_law 651 = .ok (.iload_n 3, 1) := by decide +kernel
theorem dL_law_652 : decode cL_law 652 = .ok (.iconst 1, 1) := by decide +kernel
theorem dL_law_653 : decode cL_law 653 = .ok (.iadd, 1) := by decide +kernel
theorem dL_law_654 : decode cL_law 654 = .ok (.iaload, 1) := by decide +kernel
theorem dL_law_655 : decode cL_law 655 = .ok (.invokevirtual 97, 3) := by decide +kernel
theorem dL_law_658 : decode cL_law 658 = .ok (.aload_n 2, 1) := by decide +kernel
theorem dL_law_659 : decode cL_law 659 = .ok (.aload_n 0, 1) := by decide +kernel
theorem dL_law_660 : decode cL_law 660 = .ok (.iload_n 3, 1) := by decide +kernel
theorem dL_law_661 : decode cL_law 661 = .ok (.iconst 1, 1) := by decide +kernel
theorem dL_law_662 : decode cL_law 662 = .ok (.iadd, 1) := by decide +kernel
theorem dL_law_663 : decode cL_law 663 = .ok (.iaload, 1) := by decide +kernel
theorem dL_law_664 : decode cL_law 664 = .ok (.invokevirtual 100, 3) := by decide +kernel
theorem dL_law_667 : decode cL_law 667 = .ok (.if_icmp .eq 28, 3) := by decide +kernel
theorem dL_law_670 : decode cL_law 670 = .ok (.iconst 0, 1) := by decide +kernel
theorem dL_law_671 : decode cL_law 671 = .ok (.ireturn, 1) := by decide +kernel
theorem dL_law_672 : decode cL_law 672 = .ok (.aload_n 1, 1) := by decide +kernel
theorem dL_law_673 : decode cL_law 673 = .ok (.aload_n 0, 1) := by decide +kernel
theorem dL_law_674 : decode cL_law 674 = .ok (.iload_n 3, 1) := by decide +kernel
theorem dL_law_675 : decode cL_law 675 = .ok (.iconst 1, 1) := by decide +kernel
theorem dL_law_676 : decode cL_law 676 = .ok (.iadd, 1) := by decide +kernel
theorem dL_law_677 : decode cL_law 677 = .ok (.iaload, 1) := by decide +kernel
theorem dL_law_678 : decode cL_law 678 = .ok (.invokevirtual 101, 3) := by decide +kernel
theorem dL_law_681 : decode cL_law 681 = .ok (.aload_n 2, 1) := by decide +kernel
theorem dL_law_682 : decode cL_law 682 = .ok (.aload_n 0, 1) := by decide +kernel
theorem dL_law_683 : decode cL_law 683 = .ok (.iload_n 3, 1) := by decide +kernel
theorem dL_law_684 : decode cL_law 684 = .ok (.iconst 1, 1) := by decide +kernel
theorem dL_law_685 : decode cL_law 685 = .ok (.iadd, 1) := by decide +kernel
theorem dL_law_686 : decode cL_law 686 = .ok (.iaload, 1) := by decide +kernel
theorem dL_law_687 : decode cL_law 687 = .ok (.invokevirtual 104, 3) := by decide +kernel
theorem dL_law_690 : decode cL_law 690 = .ok (.if_icmp .eq 5, 3) := by decide +kernel
theorem dL_law_693 : decode cL_law 693 = .ok (.iconst 0, 1) := by decide +kernel
theorem dL_law_694 : decode cL_law 694 = .ok (.ireturn, 1) := by decide +kernel
theorem dL_law_695 : decode cL_law 695 = .ok (.iinc 3 5, 3) := by decide +kernel
theorem dL_law_698 : decode cL_law 698 = .ok (.goto (-680), 3) := by decide +kernel
theorem dL_law_701 : decode cL_law 701 = .ok (.iconst 1, 1) := by decide +kernel
theorem dL_law_702 : decode cL_law 702 = .ok (.ireturn, 1) := by decide +kernel
end
section
theorem k0 : Cond.selects RX4 yX4_isWord yX4_isWord ∈ gT := gT_i 0 (by decide +kernel) rfl
theorem k1 : Cond.selects RX4 yX4_broken yX4_broken ∈ gT := gT_i 1 (by decide +kernel) rfl
theorem k2 : Cond.selects RX1 yX1_findFirstLine yX1_findFirstLine ∈ gT := gT_i 2 (by decide +kernel) rfl
theorem k3 : Cond.selects RX1 yX1_badnessOf yX1_badnessOf ∈ gT := gT_i 3 (by decide +kernel) rfl
theorem k4 : Cond.selects RX4 yX4_leastBadnessOf yX4_leastBadnessOf ∈ gT := gT_i 4 (by decide +kernel) rfl
theorem k5 : Cond.selects RX5 yX5_changes yX5_changes ∈ gT := gT_i 5 (by decide +kernel) rfl
theorem k6 : Cond.selects RX5 yX5_isWord yX5_isWord ∈ gT := gT_i 6 (by decide +kernel) rfl
theorem k7 : Cond.selects RX5 yX5_widthOf yX5_widthOf ∈ gT := gT_i 7 (by decide +kernel) rfl
theorem k8 : Cond.selects RX5 yX5_signs yX5_signs ∈ gT := gT_i 8 (by decide +kernel) rfl
theorem k9 : Cond.selects RX5 yX5_signAt yX5_signAt ∈ gT := gT_i 9 (by decide +kernel) rfl
theorem k10 : Cond.selects RX5 yX5_takesOut yX5_takesOut ∈ gT := gT_i 10 (by decide +kernel) rfl
theorem k11 : Cond.selects RX5 yX5_fills yX5_fills ∈ gT := gT_i 11 (by decide +kernel) rfl
theorem k12 : Cond.selects RX5 yX5_measures yX5_measures ∈ gT := gT_i 12 (by decide +kernel) rfl
theorem k13 : Cond.selects RX5 yX5_hangsLeft yX5_hangsLeft ∈ gT := gT_i 13 (by decide +kernel) rfl
theorem k14 : Cond.selects RX5 yX5_hang yX5_hang ∈ gT := gT_i 14 (by decide +kernel) rfl
theorem k15 : Cond.selects RX5 yX5_hangsRight yX5_hangsRight ∈ gT := gT_i 15 (by decide +kernel) rfl
theorem k16 : Cond.selects RX5 yX5_bodyOf yX5_bodyOf ∈ gT := gT_i 16 (by decide +kernel) rfl
theorem k17 : Cond.selects RX5 yX5_widthOfLine yX5_widthOfLine ∈ gT := gT_i 17 (by decide +kernel) rfl
theorem k18 : Cond.selects RX5 yX5_often yX5_often ∈ gT := gT_i 18 (by decide +kernel) rfl
theorem k19 : Cond.selects RX5 yX5_lineOf yX5_lineOf ∈ gT := gT_i 19 (by decide +kernel) rfl
theorem k20 : Cond.selects RX5 yX5_breaks yX5_breaks ∈ gT := gT_i 20 (by decide +kernel) rfl
theorem k21 : Cond.selects RX5 yX5_breaksBest yX5_breaksBest ∈ gT := gT_i 21 (by decide +kernel) rfl
theorem k22 : Cond.selects RX5 yX5_worksOutFrom yX5_worksOutFrom ∈ gT := gT_i 22 (by decide +kernel) rfl
theorem k23 : Cond.selects RX5 yX5_badnessOf yX5_badnessOf ∈ gT := gT_i 23 (by decide +kernel) rfl
theorem k24 : Cond.selects RX5 yX5_lastOf yX5_lastOf ∈ gT := gT_i 24 (by decide +kernel) rfl
theorem k25 : Cond.selects RX5 yX5_fits yX5_fits ∈ gT := gT_i 25 (by decide +kernel) rfl
theorem k26 : Cond.selects RX5 yX5_bodyOfLine yX5_bodyOfLine ∈ gT := gT_i 26 (by decide +kernel) rfl
theorem k27 : Cond.selects RX5 yX5_looksIndented yX5_looksIndented ∈ gT := gT_i 27 (by decide +kernel) rfl
theorem k28 : Cond.selects RX5 yX5_ofLines yX5_ofLines ∈ gT := gT_i 28 (by decide +kernel) rfl
theorem k29 : Cond.selects RX5 yX5_allSigns yX5_allSigns ∈ gT := gT_i 29 (by decide +kernel) rfl
theorem k30 : Cond.selects RX5 yX5_areAlike yX5_areAlike ∈ gT := gT_i 30 (by decide +kernel) rfl
theorem k31 : Cond.selects RX5 yX5_bestBadness yX5_bestBadness ∈ gT := gT_i 31 (by decide +kernel) rfl
theorem k32 : Cond.selects RX5 yX5_keeps yX5_keeps ∈ gT := gT_i 32 (by decide +kernel) rfl
theorem k33 : Cond.selects RX5 yX5_comesBack yX5_comesBack ∈ gT := gT_i 33 (by decide +kernel) rfl
theorem k34 : Cond.selects RX5 yX5_wordEnd yX5_wordEnd ∈ gT := gT_i 34 (by decide +kernel) rfl
theorem k35 : Cond.initialized RL ∈ gT := gT_i 35 (by decide +kernel) rfl
theorem k36 : Cond.initialized RX4 ∈ gT := gT_i 36 (by decide +kernel) rfl
theorem k37 : Cond.initialized RX3 ∈ gT := gT_i 37 (by decide +kernel) rfl
theorem k38 : Cond.initialized RX1 ∈ gT := gT_i 38 (by decide +kernel) rfl
theorem k39 : Cond.initialized RX2 ∈ gT := gT_i 39 (by decide +kernel) rfl
theorem k40 : Cond.initialized RX0 ∈ gT := gT_i 40 (by decide +kernel) rfl
theorem k41 : Cond.initialized RX5 ∈ gT := gT_i 41 (by decide +kernel) rfl
theorem k42 : Cond.initialized "java/lang/System" ∈ gT := gT_i 42 (by decide +kernel) rfl
theorem k43 : Cond.initialized "java/lang/Math" ∈ gT := gT_i 43 (by decide +kernel) rfl
theorem k44 : Cond.classLink RL 7 RX4 ∈ gT := gT_i 44 (by decide +kernel) rfl
theorem k45 : Cond.instantiable RX4 8 ∈ gT := gT_i 45 (by decide +kernel) rfl
theorem k46 : Cond.methodLink RL 9 yX4_init ∈ gT := gT_i 46 (by decide +kernel) rfl
theorem k47 : Cond.instanceMethod yX4_init ∈ gT := gT_i 47 (by decide +kernel) rfl
theorem k48 : Cond.code yX4_init cX4_init 1 none ∈ gT := gT_i 48 (by decide +kernel) rfl
theorem k49 : Cond.methodLink RX4 1 objectInit ∈ gT := gT_i 49 (by decide +kernel) rfl
theorem k50 : Cond.instanceMethod objectInit ∈ gT := gT_i 50 (by decide +kernel) rfl
theorem k51 : Cond.code objectInit ⟨#[0xb1]⟩ 1 none ∈ gT := gT_i 51 (by decide +kernel) rfl
theorem k52 : Cond.classLink RX4 7 RX3 ∈ gT := gT_i 52 (by decide +kernel) rfl
theorem k53 : Cond.instantiable RX3 7 ∈ gT := gT_i 53 (by decide +kernel) rfl
theorem k54 : Cond.methodLinkNest RX4 9 yX3_init RX4 ∈ lw_tbl := List.mem_of_getElem? (i := 54) (by decide +kernel)
theorem k55 : Cond.instanceMethod yX3_init ∈ gT := gT_i 55 (by decide +kernel) rfl
theorem k56 : Cond.code yX3_init cX3_init 1 none ∈ gT := gT_i 56 (by decide +kernel) rfl
theorem k57 : Cond.methodLink RX3 3 objectInit ∈ gT := gT_i 57 (by decide +kernel) rfl
theorem k58 : Cond.fieldLink RX3 9 "HungStops$Sheet" "settings" "[I" ∈ gT := gT_i 58 (by decide +kernel) rfl
theorem k59 : Cond.fieldLink RX1 49 "HungStops$Sheet" "settings" "[I" ∈ gT := gT_i 59 (by decide +kernel) rfl
theorem k60 : Cond.fieldLink RX4 62 "HungStops$Sheet" "settings" "[I" ∈ gT := gT_i 60 (by decide +kernel) rfl
theorem k61 : Cond.fieldLink RX3 15 "HungStops$Sheet" "widths" "[I" ∈ gT := gT_i 61 (by decide +kernel) rfl
theorem k62 : Cond.fieldLink RX4 72 "HungStops$Sheet" "widths" "[I" ∈ gT := gT_i 62 (by decide +kernel) rfl
theorem k63 : Cond.fieldLink RX3 18 "HungStops$Sheet" "lefts" "[I" ∈ gT := gT_i 63 (by decide +kernel) rfl
theorem k64 : Cond.fieldLink RX4 75 "HungStops$Sheet" "lefts" "[I" ∈ gT := gT_i 64 (by decide +kernel) rfl
theorem k65 : Cond.fieldLink RX3 21 "HungStops$Sheet" "rights" "[I" ∈ gT := gT_i 65 (by decide +kernel) rfl
theorem k66 : Cond.fieldLink RX4 78 "HungStops$Sheet" "rights" "[I" ∈ gT := gT_i 66 (by decide +kernel) rfl
theorem k67 : Cond.fieldLink RX3 24 "HungStops$Sheet" "signs" "[C" ∈ gT := gT_i 67 (by decide +kernel) rfl
theorem k68 : Cond.fieldLink RX3 28 "HungStops$Sheet" "lengths" "[I" ∈ gT := gT_i 68 (by decide +kernel) rfl
theorem k69 : Cond.fieldLink RX4 129 "HungStops$Sheet" "lengths" "[I" ∈ gT := gT_i 69 (by decide +kernel) rfl
theorem k70 : Cond.fieldLink RX3 31 "HungStops$Sheet" "words" "I" ∈ gT := gT_i 70 (by decide +kernel) rfl
theorem k71 : Cond.fieldLink RX1 46 "HungStops$Sheet" "words" "I" ∈ gT := gT_i 71 (by decide +kernel) rfl
theorem k72 : Cond.fieldLink RX4 85 "HungStops$Sheet" "words" "I" ∈ gT := gT_i 72 (by decide +kernel) rfl
theorem k73 : Cond.arrayClass .int ∈ gT := gT_i 88 (by decide +kernel) rfl
theorem k74 : Cond.arrayClass .char ∈ gT := gT_i 89 (by decide +kernel) rfl
theorem k75 : Cond.classLink RX4 19 RX1 ∈ gT := gT_i 90 (by decide +kernel) rfl
theorem k76 : Cond.instantiable RX1 11 ∈ gT := gT_i 91 (by decide +kernel) rfl
theorem k77 : Cond.methodLinkNest RX4 21 yX1_init RX4 ∈ lw_tbl := List.mem_of_getElem? (i := 92) (by decide +kernel)
theorem k78 : Cond.instanceMethod yX1_init ∈ gT := gT_i 93 (by decide +kernel) rfl
theorem k79 : Cond.code yX1_init cX1_init 1 none ∈ gT := gT_i 94 (by decide +kernel) rfl
theorem k80 : Cond.methodLink RX1 3 objectInit ∈ gT := gT_i 95 (by decide +kernel) rfl
theorem k81 : Cond.fieldLink RX1 9 "HungStops$Layout" "places" "[I" ∈ gT := gT_i 96 (by decide +kernel) rfl
theorem k82 : Cond.fieldLink RX1 15 "HungStops$Layout" "leftHangs" "[I" ∈ gT := gT_i 97 (by decide +kernel) rfl
theorem k83 : Cond.fieldLink RX1 18 "HungStops$Layout" "rightHangs" "[I" ∈ gT := gT_i 98 (by decide +kernel) rfl
theorem k84 : Cond.fieldLink RX1 21 "HungStops$Layout" "words" "I" ∈ gT := gT_i 99 (by decide +kernel) rfl
theorem k85 : Cond.fieldLink RX1 25 "HungStops$Layout" "measure" "I" ∈ gT := gT_i 100 (by decide +kernel) rfl
theorem k86 : Cond.fieldLink RX4 174 "HungStops$Layout" "measure" "I" ∈ gT := gT_i 101 (by decide +kernel) rfl
theorem k87 : Cond.fieldLink RX1 28 "HungStops$Layout" "space" "I" ∈ gT := gT_i 102 (by decide +kernel) rfl
theorem k88 : Cond.fieldLink RX1 31 "HungStops$Layout" "loose" "I" ∈ gT := gT_i 103 (by decide +kernel) rfl
theorem k89 : Cond.fieldLink RX1 34 "HungStops$Layout" "starts" "[I" ∈ gT := gT_i 104 (by decide +kernel) rfl
theorem k90 : Cond.fieldLink RX1 37 "HungStops$Layout" "lines" "I" ∈ gT := gT_i 105 (by decide +kernel) rfl
theorem k91 : Cond.fieldLink RX4 117 "HungStops$Layout" "lines" "I" ∈ gT := gT_i 106 (by decide +kernel) rfl
theorem k92 : Cond.fieldLink RX1 40 "HungStops$Layout" "leastFrom" "[I" ∈ gT := gT_i 107 (by decide +kernel) rfl
theorem k93 : Cond.fieldLink RX1 43 "HungStops$Layout" "nextStart" "[I" ∈ gT := gT_i 108 (by decide +kernel) rfl
theorem k94 : Cond.classLink RX4 29 RX2 ∈ gT := gT_i 132 (by decide +kernel) rfl
theorem k95 : Cond.instantiable RX2 2 ∈ gT := gT_i 133 (by decide +kernel) rfl
theorem k96 : Cond.methodLinkNest RX4 31 yX2_init RX4 ∈ lw_tbl := List.mem_of_getElem? (i := 134) (by decide +kernel)
theorem k97 : Cond.instanceMethod yX2_init ∈ gT := gT_i 135 (by decide +kernel) rfl
theorem k98 : Cond.code yX2_init cX2_init 1 none ∈ gT := gT_i 136 (by decide +kernel) rfl
theorem k99 : Cond.methodLink RX2 3 objectInit ∈ gT := gT_i 137 (by decide +kernel) rfl
theorem k100 : Cond.fieldLink RX2 9 "HungStops$Pad" "text" "[C" ∈ gT := gT_i 138 (by decide +kernel) rfl
theorem k101 : Cond.fieldLink RX2 15 "HungStops$Pad" "length" "I" ∈ gT := gT_i 139 (by decide +kernel) rfl
theorem k102 : Cond.fieldLink RX4 95 "HungStops$Pad" "length" "I" ∈ gT := gT_i 140 (by decide +kernel) rfl
theorem k103 : Cond.classLink RX4 36 RX0 ∈ gT := gT_i 146 (by decide +kernel) rfl
theorem k104 : Cond.instantiable RX0 3 ∈ gT := gT_i 147 (by decide +kernel) rfl
theorem k105 : Cond.methodLink RX4 38 yX0_init ∈ gT := gT_i 148 (by decide +kernel) rfl
theorem k106 : Cond.instanceMethod yX0_init ∈ gT := gT_i 149 (by decide +kernel) rfl
theorem k107 : Cond.code yX0_init cX0_init 2 none ∈ gT := gT_i 150 (by decide +kernel) rfl
theorem k108 : Cond.methodLink RX0 3 objectInit ∈ gT := gT_i 151 (by decide +kernel) rfl
theorem k109 : Cond.classLink RX0 9 RX3 ∈ gT := gT_i 152 (by decide +kernel) rfl
theorem k110 : Cond.arrayOver (.object "HungStops$Sheet") ∈ lw_tbl := List.mem_of_getElem? (i := 153) (by decide +kernel)
theorem k111 : Cond.methodLinkNest RX0 24 yX3_init RX4 ∈ lw_tbl := List.mem_of_getElem? (i := 154) (by decide +kernel)
theorem k112 : Cond.fieldLink RX0 11 "HungStops$History" "states" "[LHungStops$Sheet;" ∈ gT := gT_i 155 (by decide +kernel) rfl
theorem k113 : Cond.fieldLink RX0 17 "HungStops$History" "next" "I" ∈ gT := gT_i 156 (by decide +kernel) rfl
theorem k114 : Cond.fieldLink RX0 21 "HungStops$History" "size" "I" ∈ gT := gT_i 157 (by decide +kernel) rfl
theorem k115 : Cond.fieldLink RX4 165 "HungStops$History" "size" "I" ∈ gT := gT_i 158 (by decide +kernel) rfl
theorem k116 : Cond.fieldLink RX4 10 "HungStops" "now" "LHungStops$Sheet;" ∈ gT := gT_i 166 (by decide +kernel) rfl
theorem k117 : Cond.fieldLink RX4 16 "HungStops" "trial" "LHungStops$Sheet;" ∈ gT := gT_i 167 (by decide +kernel) rfl
theorem k118 : Cond.fieldLink RX4 22 "HungStops" "greedy" "LHungStops$Layout;" ∈ gT := gT_i 168 (by decide +kernel) rfl
theorem k119 : Cond.fieldLink RX4 26 "HungStops" "best" "LHungStops$Layout;" ∈ gT := gT_i 169 (by decide +kernel) rfl
theorem k120 : Cond.fieldLink RX4 32 "HungStops" "pad" "LHungStops$Pad;" ∈ gT := gT_i 170 (by decide +kernel) rfl
theorem k121 : Cond.fieldLink RX4 39 "HungStops" "history" "LHungStops$History;" ∈ gT := gT_i 171 (by decide +kernel) rfl
theorem k122 : Cond.fieldLink RX4 43 "HungStops" "slots" "[LHungStops$Sheet;" ∈ gT := gT_i 172 (by decide +kernel) rfl
theorem k123 : Cond.fieldLink RX4 47 "HungStops" "filled" "[Z" ∈ gT := gT_i 173 (by decide +kernel) rfl
theorem k124 : Cond.arrayClass .boolean ∈ gT := gT_i 191 (by decide +kernel) rfl
theorem k125 : Cond.methodLink RL 13 yX4_set ∈ gT := gT_i 192 (by decide +kernel) rfl
theorem k126 : Cond.instanceMethod yX4_set ∈ gT := gT_i 193 (by decide +kernel) rfl
theorem k127 : Cond.selects RX4 yX4_set yX4_set ∈ gT := gT_i 194 (by decide +kernel) rfl
theorem k128 : Cond.code yX4_set cX4_set 4 (some .int) ∈ gT := gT_i 195 (by decide +kernel) rfl
theorem k129 : Cond.fieldLink RX4 51 "HungStops" "LEAST_VALUE" "[I" ∈ gT := gT_i 196 (by decide +kernel) rfl
theorem k130 : Cond.laysStatic RX4 "LEAST_VALUE" "[I" ∈ lw_tbl := List.mem_of_getElem? (i := 197) (by decide +kernel)
theorem k131 : Cond.fieldLink RX4 55 "HungStops" "GREATEST_VALUE" "[I" ∈ gT := gT_i 198 (by decide +kernel) rfl
theorem k132 : Cond.laysStatic RX4 "GREATEST_VALUE" "[I" ∈ lw_tbl := List.mem_of_getElem? (i := 199) (by decide +kernel)
theorem k133 : Cond.methodLink RX4 58 yX0_record ∈ gT := gT_i 200 (by decide +kernel) rfl
theorem k134 : Cond.instanceMethod yX0_record ∈ gT := gT_i 201 (by decide +kernel) rfl
theorem k135 : Cond.selects RX0 yX0_record yX0_record ∈ gT := gT_i 202 (by decide +kernel) rfl
theorem k136 : Cond.code yX0_record cX0_record 2 none ∈ gT := gT_i 203 (by decide +kernel) rfl
theorem k137 : Cond.methodLink RX0 25 yX3_copyFrom ∈ gT := gT_i 204 (by decide +kernel) rfl
theorem k138 : Cond.instanceMethod yX3_copyFrom ∈ gT := gT_i 205 (by decide +kernel) rfl
theorem k139 : Cond.selects RX3 yX3_copyFrom yX3_copyFrom ∈ gT := gT_i 206 (by decide +kernel) rfl
theorem k140 : Cond.code yX3_copyFrom cX3_copyFrom 2 none ∈ gT := gT_i 207 (by decide +kernel) rfl
theorem k141 : Cond.methodLink RX3 35 arraycopyName ∈ gT := gT_i 208 (by decide +kernel) rfl
theorem k142 : Cond.static arraycopyName ∈ gT := gT_i 209 (by decide +kernel) rfl
theorem k143 : Cond.native arraycopyName ∈ gT := gT_i 210 (by decide +kernel) rfl
theorem k144 : Cond.methodLink RL 18 yX4_sort ∈ gT := gT_i 211 (by decide +kernel) rfl
theorem k145 : Cond.instanceMethod yX4_sort ∈ gT := gT_i 212 (by decide +kernel) rfl
theorem k146 : Cond.selects RX4 yX4_sort yX4_sort ∈ gT := gT_i 213 (by decide +kernel) rfl
theorem k147 : Cond.code yX4_sort cX4_sort 6 (some .int) ∈ gT := gT_i 214 (by decide +kernel) rfl
theorem k148 : Cond.methodLink RX4 65 yX4_isSort ∈ gT := gT_i 215 (by decide +kernel) rfl
theorem k149 : Cond.static yX4_isSort ∈ gT := gT_i 216 (by decide +kernel) rfl
theorem k150 : Cond.code yX4_isSort cX4_isSort 1 (some .boolean) ∈ gT := gT_i 217 (by decide +kernel) rfl
theorem k151 : Cond.methodLink RX4 69 yX4_isShare ∈ gT := gT_i 218 (by decide +kernel) rfl
theorem k152 : Cond.static yX4_isShare ∈ gT := gT_i 219 (by decide +kernel) rfl
theorem k153 : Cond.code yX4_isShare cX4_isShare 1 (some .boolean) ∈ gT := gT_i 220 (by decide +kernel) rfl
theorem k154 : Cond.methodLink RL 23 yX4_read ∈ gT := gT_i 221 (by decide +kernel) rfl
theorem k155 : Cond.instanceMethod yX4_read ∈ gT := gT_i 222 (by decide +kernel) rfl
theorem k156 : Cond.selects RX4 yX4_read yX4_read ∈ gT := gT_i 223 (by decide +kernel) rfl
theorem k157 : Cond.code yX4_read cX4_read 1 (some .int) ∈ gT := gT_i 224 (by decide +kernel) rfl
theorem k158 : Cond.methodLink RX4 81 yX2_firstFault ∈ gT := gT_i 225 (by decide +kernel) rfl
theorem k159 : Cond.instanceMethod yX2_firstFault ∈ gT := gT_i 226 (by decide +kernel) rfl
theorem k160 : Cond.selects RX2 yX2_firstFault yX2_firstFault ∈ gT := gT_i 227 (by decide +kernel) rfl
theorem k161 : Cond.code yX2_firstFault cX2_firstFault 3 (some .int) ∈ gT := gT_i 228 (by decide +kernel) rfl
theorem k162 : Cond.methodLinkNest RX2 21 yX4_sortWith RX4 ∈ lw_tbl := List.mem_of_getElem? (i := 229) (by decide +kernel)
theorem k163 : Cond.static yX4_sortWith ∈ gT := gT_i 230 (by decide +kernel) rfl
theorem k164 : Cond.code yX4_sortWith cX4_sortWith 1 (some .int) ∈ gT := gT_i 231 (by decide +kernel) rfl
theorem k165 : Cond.methodLink RX4 89 yX2_countWords ∈ gT := gT_i 232 (by decide +kernel) rfl
theorem k166 : Cond.instanceMethod yX2_countWords ∈ gT := gT_i 233 (by decide +kernel) rfl
theorem k167 : Cond.selects RX2 yX2_countWords yX2_countWords ∈ gT := gT_i 234 (by decide +kernel) rfl
theorem k168 : Cond.code yX2_countWords cX2_countWords 3 (some .int) ∈ gT := gT_i 235 (by decide +kernel) rfl
theorem k169 : Cond.methodLink RX4 92 yX2_addWordsTo ∈ gT := gT_i 236 (by decide +kernel) rfl
theorem k170 : Cond.instanceMethod yX2_addWordsTo ∈ gT := gT_i 237 (by decide +kernel) rfl
theorem k171 : Cond.selects RX2 yX2_addWordsTo yX2_addWordsTo ∈ gT := gT_i 238 (by decide +kernel) rfl
theorem k172 : Cond.code yX2_addWordsTo cX2_addWordsTo 3 none ∈ gT := gT_i 239 (by decide +kernel) rfl
theorem k173 : Cond.methodLink RX2 25 yX3_beginWord ∈ gT := gT_i 240 (by decide +kernel) rfl
theorem k174 : Cond.instanceMethod yX3_beginWord ∈ gT := gT_i 241 (by decide +kernel) rfl
theorem k175 : Cond.selects RX3 yX3_beginWord yX3_beginWord ∈ gT := gT_i 242 (by decide +kernel) rfl
theorem k176 : Cond.code yX3_beginWord cX3_beginWord 1 none ∈ gT := gT_i 243 (by decide +kernel) rfl
theorem k177 : Cond.methodLink RX2 30 yX3_addSign ∈ gT := gT_i 244 (by decide +kernel) rfl
theorem k178 : Cond.instanceMethod yX3_addSign ∈ gT := gT_i 245 (by decide +kernel) rfl
theorem k179 : Cond.selects RX3 yX3_addSign yX3_addSign ∈ gT := gT_i 246 (by decide +kernel) rfl
theorem k180 : Cond.code yX3_addSign cX3_addSign 3 none ∈ gT := gT_i 247 (by decide +kernel) rfl
theorem k181 : Cond.methodLink RL 28 yX4_drop ∈ gT := gT_i 248 (by decide +kernel) rfl
theorem k182 : Cond.instanceMethod yX4_drop ∈ gT := gT_i 249 (by decide +kernel) rfl
theorem k183 : Cond.selects RX4 yX4_drop yX4_drop ∈ gT := gT_i 250 (by decide +kernel) rfl
theorem k184 : Cond.code yX4_drop cX4_drop 3 (some .int) ∈ gT := gT_i 251 (by decide +kernel) rfl
theorem k185 : Cond.methodLink RX4 98 yX4_isWord ∈ gT := gT_i 252 (by decide +kernel) rfl
theorem k186 : Cond.instanceMethod yX4_isWord ∈ gT := gT_i 254 (by decide +kernel) rfl
theorem k187 : Cond.code yX4_isWord cX4_isWord 2 (some .boolean) ∈ gT := gT_i 255 (by decide +kernel) rfl
theorem k188 : Cond.methodLink RX4 101 yX3_widthOf ∈ gT := gT_i 256 (by decide +kernel) rfl
theorem k189 : Cond.instanceMethod yX3_widthOf ∈ gT := gT_i 257 (by decide +kernel) rfl
theorem k190 : Cond.selects RX3 yX3_widthOf yX3_widthOf ∈ gT := gT_i 258 (by decide +kernel) rfl
theorem k191 : Cond.code yX3_widthOf cX3_widthOf 4 (some .int) ∈ gT := gT_i 259 (by decide +kernel) rfl
theorem k192 : Cond.methodLink RX3 55 yX3_sortAt ∈ gT := gT_i 260 (by decide +kernel) rfl
theorem k193 : Cond.instanceMethod yX3_sortAt ∈ gT := gT_i 261 (by decide +kernel) rfl
theorem k194 : Cond.selects RX3 yX3_sortAt yX3_sortAt ∈ gT := gT_i 262 (by decide +kernel) rfl
theorem k195 : Cond.code yX3_sortAt cX3_sortAt 3 (some .int) ∈ gT := gT_i 263 (by decide +kernel) rfl
theorem k196 : Cond.methodLink RX3 41 yX3_signAt ∈ gT := gT_i 264 (by decide +kernel) rfl
theorem k197 : Cond.instanceMethod yX3_signAt ∈ gT := gT_i 265 (by decide +kernel) rfl
theorem k198 : Cond.selects RX3 yX3_signAt yX3_signAt ∈ gT := gT_i 266 (by decide +kernel) rfl
theorem k199 : Cond.code yX3_signAt cX3_signAt 3 (some .char) ∈ gT := gT_i 267 (by decide +kernel) rfl
theorem k200 : Cond.methodLinkNest RX3 45 yX4_sortWith RX4 ∈ lw_tbl := List.mem_of_getElem? (i := 268) (by decide +kernel)
theorem k201 : Cond.methodLink RX3 49 Lib.Math.max.name ∈ gT := gT_i 269 (by decide +kernel) rfl
theorem k202 : Cond.static Lib.Math.max.name ∈ gT := gT_i 270 (by decide +kernel) rfl
theorem k203 : Cond.code Lib.Math.max.name Lib.Math.max.code 2 (some .int) ∈ gT := gT_i 271 (by decide +kernel) rfl
theorem k204 : Cond.methodLink RX4 105 yX3_takeOut ∈ gT := gT_i 272 (by decide +kernel) rfl
theorem k205 : Cond.instanceMethod yX3_takeOut ∈ gT := gT_i 273 (by decide +kernel) rfl
theorem k206 : Cond.selects RX3 yX3_takeOut yX3_takeOut ∈ gT := gT_i 274 (by decide +kernel) rfl
theorem k207 : Cond.code yX3_takeOut cX3_takeOut 3 none ∈ gT := gT_i 275 (by decide +kernel) rfl
theorem k208 : Cond.methodLink RL 33 yX4_swap ∈ gT := gT_i 276 (by decide +kernel) rfl
theorem k209 : Cond.instanceMethod yX4_swap ∈ gT := gT_i 277 (by decide +kernel) rfl
theorem k210 : Cond.selects RX4 yX4_swap yX4_swap ∈ gT := gT_i 278 (by decide +kernel) rfl
theorem k211 : Cond.code yX4_swap cX4_swap 3 (some .int) ∈ gT := gT_i 279 (by decide +kernel) rfl
theorem k212 : Cond.methodLink RX4 109 yX3_exchange ∈ gT := gT_i 280 (by decide +kernel) rfl
theorem k213 : Cond.instanceMethod yX3_exchange ∈ gT := gT_i 281 (by decide +kernel) rfl
theorem k214 : Cond.selects RX3 yX3_exchange yX3_exchange ∈ gT := gT_i 282 (by decide +kernel) rfl
theorem k215 : Cond.code yX3_exchange cX3_exchange 5 none ∈ gT := gT_i 283 (by decide +kernel) rfl
theorem k216 : Cond.methodLink RX4 113 yX4_broken ∈ gT := gT_i 284 (by decide +kernel) rfl
theorem k217 : Cond.instanceMethod yX4_broken ∈ gT := gT_i 286 (by decide +kernel) rfl
theorem k218 : Cond.code yX4_broken cX4_broken 3 (some (.object "HungStops$Layout")) ∈ gT := gT_i 287 (by decide +kernel) rfl
theorem k219 : Cond.methodLink RX4 168 yX1_weigh ∈ gT := gT_i 288 (by decide +kernel) rfl
theorem k220 : Cond.instanceMethod yX1_weigh ∈ gT := gT_i 289 (by decide +kernel) rfl
theorem k221 : Cond.selects RX1 yX1_weigh yX1_weigh ∈ gT := gT_i 290 (by decide +kernel) rfl
theorem k222 : Cond.code yX1_weigh cX1_weigh 3 none ∈ gT := gT_i 291 (by decide +kernel) rfl
theorem k223 : Cond.methodLink RX1 52 yX3_widthOf ∈ gT := gT_i 292 (by decide +kernel) rfl
theorem k224 : Cond.methodLink RX1 56 yX3_leftHangOf ∈ gT := gT_i 293 (by decide +kernel) rfl
theorem k225 : Cond.instanceMethod yX3_leftHangOf ∈ gT := gT_i 294 (by decide +kernel) rfl
theorem k226 : Cond.selects RX3 yX3_leftHangOf yX3_leftHangOf ∈ gT := gT_i 295 (by decide +kernel) rfl
theorem k227 : Cond.code yX3_leftHangOf cX3_leftHangOf 2 (some .int) ∈ gT := gT_i 296 (by decide +kernel) rfl
theorem k228 : Cond.methodLink RX3 58 yX3_hangAtLeft ∈ gT := gT_i 297 (by decide +kernel) rfl
theorem k229 : Cond.instanceMethod yX3_hangAtLeft ∈ gT := gT_i 298 (by decide +kernel) rfl
theorem k230 : Cond.selects RX3 yX3_hangAtLeft yX3_hangAtLeft ∈ gT := gT_i 299 (by decide +kernel) rfl
theorem k231 : Cond.code yX3_hangAtLeft cX3_hangAtLeft 2 (some .int) ∈ gT := gT_i 300 (by decide +kernel) rfl
theorem k232 : Cond.methodLink RX1 59 yX3_rightHangOf ∈ gT := gT_i 301 (by decide +kernel) rfl
theorem k233 : Cond.instanceMethod yX3_rightHangOf ∈ gT := gT_i 302 (by decide +kernel) rfl
theorem k234 : Cond.selects RX3 yX3_rightHangOf yX3_rightHangOf ∈ gT := gT_i 303 (by decide +kernel) rfl
theorem k235 : Cond.code yX3_rightHangOf cX3_rightHangOf 2 (some .int) ∈ gT := gT_i 304 (by decide +kernel) rfl
theorem k236 : Cond.methodLink RX3 61 yX3_hangAtRight ∈ gT := gT_i 305 (by decide +kernel) rfl
theorem k237 : Cond.instanceMethod yX3_hangAtRight ∈ gT := gT_i 306 (by decide +kernel) rfl
theorem k238 : Cond.selects RX3 yX3_hangAtRight yX3_hangAtRight ∈ gT := gT_i 307 (by decide +kernel) rfl
theorem k239 : Cond.code yX3_hangAtRight cX3_hangAtRight 2 (some .int) ∈ gT := gT_i 308 (by decide +kernel) rfl
theorem k240 : Cond.methodLink RX4 177 yX1_fillGreedily ∈ gT := gT_i 309 (by decide +kernel) rfl
theorem k241 : Cond.instanceMethod yX1_fillGreedily ∈ gT := gT_i 310 (by decide +kernel) rfl
theorem k242 : Cond.selects RX1 yX1_fillGreedily yX1_fillGreedily ∈ gT := gT_i 311 (by decide +kernel) rfl
theorem k243 : Cond.code yX1_fillGreedily cX1_fillGreedily 2 none ∈ gT := gT_i 312 (by decide +kernel) rfl
theorem k244 : Cond.methodLink RX1 66 yX1_bodyOf ∈ gT := gT_i 313 (by decide +kernel) rfl
theorem k245 : Cond.instanceMethod yX1_bodyOf ∈ gT := gT_i 314 (by decide +kernel) rfl
theorem k246 : Cond.selects RX1 yX1_bodyOf yX1_bodyOf ∈ gT := gT_i 315 (by decide +kernel) rfl
theorem k247 : Cond.code yX1_bodyOf cX1_bodyOf 3 (some .int) ∈ gT := gT_i 316 (by decide +kernel) rfl
theorem k248 : Cond.methodLink RX1 62 yX1_widthFrom ∈ gT := gT_i 317 (by decide +kernel) rfl
theorem k249 : Cond.instanceMethod yX1_widthFrom ∈ gT := gT_i 318 (by decide +kernel) rfl
theorem k250 : Cond.selects RX1 yX1_widthFrom yX1_widthFrom ∈ gT := gT_i 319 (by decide +kernel) rfl
theorem k251 : Cond.code yX1_widthFrom cX1_widthFrom 3 (some .int) ∈ gT := gT_i 320 (by decide +kernel) rfl
theorem k252 : Cond.methodLink RX4 198 yX1_breakBest ∈ gT := gT_i 321 (by decide +kernel) rfl
theorem k253 : Cond.instanceMethod yX1_breakBest ∈ gT := gT_i 322 (by decide +kernel) rfl
theorem k254 : Cond.selects RX1 yX1_breakBest yX1_breakBest ∈ gT := gT_i 323 (by decide +kernel) rfl
theorem k255 : Cond.code yX1_breakBest cX1_breakBest 3 none ∈ gT := gT_i 324 (by decide +kernel) rfl
theorem k256 : Cond.methodLink RX1 69 yX1_leastBadness ∈ gT := gT_i 325 (by decide +kernel) rfl
theorem k257 : Cond.instanceMethod yX1_leastBadness ∈ gT := gT_i 326 (by decide +kernel) rfl
theorem k258 : Cond.selects RX1 yX1_leastBadness yX1_leastBadness ∈ gT := gT_i 327 (by decide +kernel) rfl
theorem k259 : Cond.code yX1_leastBadness cX1_leastBadness 2 (some .int) ∈ gT := gT_i 328 (by decide +kernel) rfl
theorem k260 : Cond.methodLink RX1 73 yX1_findFirstLine ∈ gT := gT_i 329 (by decide +kernel) rfl
theorem k261 : Cond.instanceMethod yX1_findFirstLine ∈ gT := gT_i 331 (by decide +kernel) rfl
theorem k262 : Cond.code yX1_findFirstLine cX1_findFirstLine 4 none ∈ gT := gT_i 332 (by decide +kernel) rfl
theorem k263 : Cond.methodLink RX1 77 yX1_badnessOf ∈ gT := gT_i 333 (by decide +kernel) rfl
theorem k264 : Cond.instanceMethod yX1_badnessOf ∈ gT := gT_i 335 (by decide +kernel) rfl
theorem k265 : Cond.code yX1_badnessOf cX1_badnessOf 4 (some .int) ∈ gT := gT_i 336 (by decide +kernel) rfl
theorem k266 : Cond.methodLink RL 37 yX4_clear ∈ gT := gT_i 337 (by decide +kernel) rfl
theorem k267 : Cond.instanceMethod yX4_clear ∈ gT := gT_i 338 (by decide +kernel) rfl
theorem k268 : Cond.selects RX4 yX4_clear yX4_clear ∈ gT := gT_i 339 (by decide +kernel) rfl
theorem k269 : Cond.code yX4_clear cX4_clear 2 (some .int) ∈ gT := gT_i 340 (by decide +kernel) rfl
theorem k270 : Cond.methodLink RL 41 yX4_sortOf ∈ gT := gT_i 341 (by decide +kernel) rfl
theorem k271 : Cond.instanceMethod yX4_sortOf ∈ gT := gT_i 342 (by decide +kernel) rfl
theorem k272 : Cond.selects RX4 yX4_sortOf yX4_sortOf ∈ gT := gT_i 343 (by decide +kernel) rfl
theorem k273 : Cond.code yX4_sortOf cX4_sortOf 3 (some .int) ∈ gT := gT_i 344 (by decide +kernel) rfl
theorem k274 : Cond.methodLink RX4 120 yX3_hangAtLeft ∈ gT := gT_i 345 (by decide +kernel) rfl
theorem k275 : Cond.methodLink RX4 123 yX3_hangAtRight ∈ gT := gT_i 346 (by decide +kernel) rfl
theorem k276 : Cond.methodLink RX4 126 yX3_countOf ∈ gT := gT_i 347 (by decide +kernel) rfl
theorem k277 : Cond.instanceMethod yX3_countOf ∈ gT := gT_i 348 (by decide +kernel) rfl
theorem k278 : Cond.selects RX3 yX3_countOf yX3_countOf ∈ gT := gT_i 349 (by decide +kernel) rfl
theorem k279 : Cond.code yX3_countOf cX3_countOf 5 (some .int) ∈ gT := gT_i 350 (by decide +kernel) rfl
theorem k280 : Cond.methodLink RL 45 yX4_word ∈ gT := gT_i 351 (by decide +kernel) rfl
theorem k281 : Cond.instanceMethod yX4_word ∈ gT := gT_i 352 (by decide +kernel) rfl
theorem k282 : Cond.selects RX4 yX4_word yX4_word ∈ gT := gT_i 353 (by decide +kernel) rfl
theorem k283 : Cond.code yX4_word cX4_word 3 (some .int) ∈ gT := gT_i 354 (by decide +kernel) rfl
theorem k284 : Cond.methodLink RX4 132 yX1_lineWith ∈ gT := gT_i 355 (by decide +kernel) rfl
theorem k285 : Cond.instanceMethod yX1_lineWith ∈ gT := gT_i 356 (by decide +kernel) rfl
theorem k286 : Cond.selects RX1 yX1_lineWith yX1_lineWith ∈ gT := gT_i 357 (by decide +kernel) rfl
theorem k287 : Cond.code yX1_lineWith cX1_lineWith 4 (some .int) ∈ gT := gT_i 358 (by decide +kernel) rfl
theorem k288 : Cond.methodLink RX4 135 yX3_signAt ∈ gT := gT_i 359 (by decide +kernel) rfl
theorem k289 : Cond.methodLink RL 49 yX4_line ∈ gT := gT_i 360 (by decide +kernel) rfl
theorem k290 : Cond.instanceMethod yX4_line ∈ gT := gT_i 361 (by decide +kernel) rfl
theorem k291 : Cond.selects RX4 yX4_line yX4_line ∈ gT := gT_i 362 (by decide +kernel) rfl
theorem k292 : Cond.code yX4_line cX4_line 5 (some .int) ∈ gT := gT_i 363 (by decide +kernel) rfl
theorem k293 : Cond.methodLink RX4 139 yX4_isWay ∈ gT := gT_i 364 (by decide +kernel) rfl
theorem k294 : Cond.static yX4_isWay ∈ gT := gT_i 365 (by decide +kernel) rfl
theorem k295 : Cond.code yX4_isWay cX4_isWay 1 (some .boolean) ∈ gT := gT_i 366 (by decide +kernel) rfl
theorem k296 : Cond.methodLink RX4 142 yX1_tellLine ∈ gT := gT_i 367 (by decide +kernel) rfl
theorem k297 : Cond.instanceMethod yX1_tellLine ∈ gT := gT_i 368 (by decide +kernel) rfl
theorem k298 : Cond.selects RX1 yX1_tellLine yX1_tellLine ∈ gT := gT_i 369 (by decide +kernel) rfl
theorem k299 : Cond.code yX1_tellLine cX1_tellLine 3 (some .int) ∈ gT := gT_i 370 (by decide +kernel) rfl
theorem k300 : Cond.methodLink RX1 80 yX1_lastWord ∈ gT := gT_i 371 (by decide +kernel) rfl
theorem k301 : Cond.instanceMethod yX1_lastWord ∈ gT := gT_i 372 (by decide +kernel) rfl
theorem k302 : Cond.selects RX1 yX1_lastWord yX1_lastWord ∈ gT := gT_i 373 (by decide +kernel) rfl
theorem k303 : Cond.code yX1_lastWord cX1_lastWord 2 (some .int) ∈ gT := gT_i 374 (by decide +kernel) rfl
theorem k304 : Cond.methodLink RX1 83 yX1_bodyOfLine ∈ gT := gT_i 375 (by decide +kernel) rfl
theorem k305 : Cond.instanceMethod yX1_bodyOfLine ∈ gT := gT_i 376 (by decide +kernel) rfl
theorem k306 : Cond.selects RX1 yX1_bodyOfLine yX1_bodyOfLine ∈ gT := gT_i 377 (by decide +kernel) rfl
theorem k307 : Cond.code yX1_bodyOfLine cX1_bodyOfLine 2 (some .int) ∈ gT := gT_i 378 (by decide +kernel) rfl
theorem k308 : Cond.methodLink RX1 86 yX1_fits ∈ gT := gT_i 379 (by decide +kernel) rfl
theorem k309 : Cond.instanceMethod yX1_fits ∈ gT := gT_i 380 (by decide +kernel) rfl
theorem k310 : Cond.selects RX1 yX1_fits yX1_fits ∈ gT := gT_i 381 (by decide +kernel) rfl
theorem k311 : Cond.code yX1_fits cX1_fits 2 (some .boolean) ∈ gT := gT_i 382 (by decide +kernel) rfl
theorem k312 : Cond.methodLink RX1 90 yX1_looksIndented ∈ gT := gT_i 383 (by decide +kernel) rfl
theorem k313 : Cond.instanceMethod yX1_looksIndented ∈ gT := gT_i 384 (by decide +kernel) rfl
theorem k314 : Cond.selects RX1 yX1_looksIndented yX1_looksIndented ∈ gT := gT_i 385 (by decide +kernel) rfl
theorem k315 : Cond.code yX1_looksIndented cX1_looksIndented 2 (some .boolean) ∈ gT := gT_i 386 (by decide +kernel) rfl
theorem k316 : Cond.methodLink RL 54 yX4_lines ∈ gT := gT_i 387 (by decide +kernel) rfl
theorem k317 : Cond.instanceMethod yX4_lines ∈ gT := gT_i 388 (by decide +kernel) rfl
theorem k318 : Cond.selects RX4 yX4_lines yX4_lines ∈ gT := gT_i 389 (by decide +kernel) rfl
theorem k319 : Cond.code yX4_lines cX4_lines 3 (some .int) ∈ gT := gT_i 390 (by decide +kernel) rfl
theorem k320 : Cond.methodLink RX4 146 yX1_badness ∈ gT := gT_i 391 (by decide +kernel) rfl
theorem k321 : Cond.instanceMethod yX1_badness ∈ gT := gT_i 392 (by decide +kernel) rfl
theorem k322 : Cond.selects RX1 yX1_badness yX1_badness ∈ gT := gT_i 393 (by decide +kernel) rfl
theorem k323 : Cond.code yX1_badness cX1_badness 3 (some .int) ∈ gT := gT_i 394 (by decide +kernel) rfl
theorem k324 : Cond.methodLink RX4 149 yX1_countIndented ∈ gT := gT_i 395 (by decide +kernel) rfl
theorem k325 : Cond.instanceMethod yX1_countIndented ∈ gT := gT_i 396 (by decide +kernel) rfl
theorem k326 : Cond.selects RX1 yX1_countIndented yX1_countIndented ∈ gT := gT_i 397 (by decide +kernel) rfl
theorem k327 : Cond.code yX1_countIndented cX1_countIndented 3 (some .int) ∈ gT := gT_i 398 (by decide +kernel) rfl
theorem k328 : Cond.methodLink RX4 152 yX1_countUnfit ∈ gT := gT_i 399 (by decide +kernel) rfl
theorem k329 : Cond.instanceMethod yX1_countUnfit ∈ gT := gT_i 400 (by decide +kernel) rfl
theorem k330 : Cond.selects RX1 yX1_countUnfit yX1_countUnfit ∈ gT := gT_i 401 (by decide +kernel) rfl
theorem k331 : Cond.code yX1_countUnfit cX1_countUnfit 3 (some .int) ∈ gT := gT_i 402 (by decide +kernel) rfl
theorem k332 : Cond.methodLink RX4 155 yX1_greatestBody ∈ gT := gT_i 403 (by decide +kernel) rfl
theorem k333 : Cond.instanceMethod yX1_greatestBody ∈ gT := gT_i 404 (by decide +kernel) rfl
theorem k334 : Cond.selects RX1 yX1_greatestBody yX1_greatestBody ∈ gT := gT_i 405 (by decide +kernel) rfl
theorem k335 : Cond.code yX1_greatestBody cX1_greatestBody 3 (some .int) ∈ gT := gT_i 406 (by decide +kernel) rfl
theorem k336 : Cond.methodLink RX1 93 Lib.Math.max.name ∈ gT := gT_i 407 (by decide +kernel) rfl
theorem k337 : Cond.methodLink RL 58 yX4_count ∈ gT := gT_i 408 (by decide +kernel) rfl
theorem k338 : Cond.instanceMethod yX4_count ∈ gT := gT_i 409 (by decide +kernel) rfl
theorem k339 : Cond.selects RX4 yX4_count yX4_count ∈ gT := gT_i 410 (by decide +kernel) rfl
theorem k340 : Cond.code yX4_count cX4_count 2 (some .int) ∈ gT := gT_i 411 (by decide +kernel) rfl
theorem k341 : Cond.methodLink RX4 158 yX3_countSigns ∈ gT := gT_i 412 (by decide +kernel) rfl
theorem k342 : Cond.instanceMethod yX3_countSigns ∈ gT := gT_i 413 (by decide +kernel) rfl
theorem k343 : Cond.selects RX3 yX3_countSigns yX3_countSigns ∈ gT := gT_i 414 (by decide +kernel) rfl
theorem k344 : Cond.code yX3_countSigns cX3_countSigns 3 (some .int) ∈ gT := gT_i 415 (by decide +kernel) rfl
theorem k345 : Cond.methodLink RX4 161 yX1_breaksLike ∈ gT := gT_i 416 (by decide +kernel) rfl
theorem k346 : Cond.instanceMethod yX1_breaksLike ∈ gT := gT_i 417 (by decide +kernel) rfl
theorem k347 : Cond.selects RX1 yX1_breaksLike yX1_breaksLike ∈ gT := gT_i 418 (by decide +kernel) rfl
theorem k348 : Cond.code yX1_breaksLike cX1_breaksLike 3 (some .boolean) ∈ gT := gT_i 419 (by decide +kernel) rfl
theorem k349 : Cond.methodLink RL 62 yX4_body ∈ gT := gT_i 420 (by decide +kernel) rfl
theorem k350 : Cond.instanceMethod yX4_body ∈ gT := gT_i 421 (by decide +kernel) rfl
theorem k351 : Cond.selects RX4 yX4_body yX4_body ∈ gT := gT_i 422 (by decide +kernel) rfl
theorem k352 : Cond.code yX4_body cX4_body 3 (some .int) ∈ gT := gT_i 423 (by decide +kernel) rfl
theorem k353 : Cond.methodLink RX4 171 yX1_bodyOf ∈ gT := gT_i 424 (by decide +kernel) rfl
theorem k354 : Cond.methodLink RL 66 yX4_leastMeasure ∈ gT := gT_i 425 (by decide +kernel) rfl
theorem k355 : Cond.instanceMethod yX4_leastMeasure ∈ gT := gT_i 426 (by decide +kernel) rfl
theorem k356 : Cond.selects RX4 yX4_leastMeasure yX4_leastMeasure ∈ gT := gT_i 427 (by decide +kernel) rfl
theorem k357 : Cond.code yX4_leastMeasure cX4_leastMeasure 3 (some .int) ∈ gT := gT_i 428 (by decide +kernel) rfl
theorem k358 : Cond.methodLink RL 70 yX4_bestShare ∈ gT := gT_i 429 (by decide +kernel) rfl
theorem k359 : Cond.instanceMethod yX4_bestShare ∈ gT := gT_i 430 (by decide +kernel) rfl
theorem k360 : Cond.selects RX4 yX4_bestShare yX4_bestShare ∈ gT := gT_i 431 (by decide +kernel) rfl
theorem k361 : Cond.code yX4_bestShare cX4_bestShare 8 (some .int) ∈ gT := gT_i 432 (by decide +kernel) rfl
theorem k362 : Cond.methodLink RX4 180 yX3_copyFrom ∈ gT := gT_i 433 (by decide +kernel) rfl
theorem k363 : Cond.methodLink RX4 183 yX4_leastBadnessOf ∈ gT := gT_i 434 (by decide +kernel) rfl
theorem k364 : Cond.instanceMethod yX4_leastBadnessOf ∈ gT := gT_i 436 (by decide +kernel) rfl
theorem k365 : Cond.code yX4_leastBadnessOf cX4_leastBadnessOf 2 (some .int) ∈ gT := gT_i 437 (by decide +kernel) rfl
theorem k366 : Cond.methodLink RX4 201 yX1_leastBadness ∈ gT := gT_i 438 (by decide +kernel) rfl
theorem k367 : Cond.methodLink RL 74 yX4_worstWord ∈ gT := gT_i 439 (by decide +kernel) rfl
theorem k368 : Cond.instanceMethod yX4_worstWord ∈ gT := gT_i 440 (by decide +kernel) rfl
theorem k369 : Cond.selects RX4 yX4_worstWord yX4_worstWord ∈ gT := gT_i 441 (by decide +kernel) rfl
theorem k370 : Cond.code yX4_worstWord cX4_worstWord 5 (some .int) ∈ gT := gT_i 442 (by decide +kernel) rfl
theorem k371 : Cond.methodLink RL 80 yX4_put ∈ gT := gT_i 443 (by decide +kernel) rfl
theorem k372 : Cond.instanceMethod yX4_put ∈ gT := gT_i 444 (by decide +kernel) rfl
theorem k373 : Cond.selects RX4 yX4_put yX4_put ∈ gT := gT_i 445 (by decide +kernel) rfl
theorem k374 : Cond.code yX4_put cX4_put 4 (some .int) ∈ gT := gT_i 446 (by decide +kernel) rfl
theorem k375 : Cond.methodLink RX4 187 yX2_lengthOf ∈ gT := gT_i 447 (by decide +kernel) rfl
theorem k376 : Cond.static yX2_lengthOf ∈ gT := gT_i 448 (by decide +kernel) rfl
theorem k377 : Cond.code yX2_lengthOf cX2_lengthOf 7 (some .int) ∈ gT := gT_i 449 (by decide +kernel) rfl
theorem k378 : Cond.constantLong RX2 19 (255) ∈ gT := gT_i 450 (by decide +kernel) rfl
theorem k379 : Cond.methodLink RX4 191 yX2_append ∈ gT := gT_i 451 (by decide +kernel) rfl
theorem k380 : Cond.instanceMethod yX2_append ∈ gT := gT_i 452 (by decide +kernel) rfl
theorem k381 : Cond.selects RX2 yX2_append yX2_append ∈ gT := gT_i 453 (by decide +kernel) rfl
theorem k382 : Cond.code yX2_append cX2_append 5 none ∈ gT := gT_i 454 (by decide +kernel) rfl
theorem k383 : Cond.methodLink RL 85 yX4_wipe ∈ gT := gT_i 455 (by decide +kernel) rfl
theorem k384 : Cond.instanceMethod yX4_wipe ∈ gT := gT_i 456 (by decide +kernel) rfl
theorem k385 : Cond.selects RX4 yX4_wipe yX4_wipe ∈ gT := gT_i 457 (by decide +kernel) rfl
theorem k386 : Cond.code yX4_wipe cX4_wipe 2 (some .int) ∈ gT := gT_i 458 (by decide +kernel) rfl
theorem k387 : Cond.methodLink RL 89 yX4_fault ∈ gT := gT_i 459 (by decide +kernel) rfl
theorem k388 : Cond.instanceMethod yX4_fault ∈ gT := gT_i 460 (by decide +kernel) rfl
theorem k389 : Cond.selects RX4 yX4_fault yX4_fault ∈ gT := gT_i 461 (by decide +kernel) rfl
theorem k390 : Cond.code yX4_fault cX4_fault 1 (some .int) ∈ gT := gT_i 462 (by decide +kernel) rfl
theorem k391 : Cond.methodLink RL 93 yX4_undo ∈ gT := gT_i 463 (by decide +kernel) rfl
theorem k392 : Cond.instanceMethod yX4_undo ∈ gT := gT_i 464 (by decide +kernel) rfl
theorem k393 : Cond.selects RX4 yX4_undo yX4_undo ∈ gT := gT_i 465 (by decide +kernel) rfl
theorem k394 : Cond.code yX4_undo cX4_undo 1 (some .int) ∈ gT := gT_i 466 (by decide +kernel) rfl
theorem k395 : Cond.methodLink RX4 195 yX0_takeBack ∈ gT := gT_i 467 (by decide +kernel) rfl
theorem k396 : Cond.instanceMethod yX0_takeBack ∈ gT := gT_i 468 (by decide +kernel) rfl
theorem k397 : Cond.selects RX0 yX0_takeBack yX0_takeBack ∈ gT := gT_i 469 (by decide +kernel) rfl
theorem k398 : Cond.code yX0_takeBack cX0_takeBack 2 none ∈ gT := gT_i 470 (by decide +kernel) rfl
theorem k399 : Cond.methodLink RL 97 yX4_save ∈ gT := gT_i 471 (by decide +kernel) rfl
theorem k400 : Cond.instanceMethod yX4_save ∈ gT := gT_i 472 (by decide +kernel) rfl
theorem k401 : Cond.selects RX4 yX4_save yX4_save ∈ gT := gT_i 473 (by decide +kernel) rfl
theorem k402 : Cond.code yX4_save cX4_save 2 (some .int) ∈ gT := gT_i 474 (by decide +kernel) rfl
theorem k403 : Cond.methodLink RL 101 yX4_restore ∈ gT := gT_i 475 (by decide +kernel) rfl
theorem k404 : Cond.instanceMethod yX4_restore ∈ gT := gT_i 476 (by decide +kernel) rfl
theorem k405 : Cond.selects RX4 yX4_restore yX4_restore ∈ gT := gT_i 477 (by decide +kernel) rfl
theorem k406 : Cond.code yX4_restore cX4_restore 2 (some .int) ∈ gT := gT_i 478 (by decide +kernel) rfl
theorem k407 : Cond.classLink RL 10 RX5 ∈ gT := gT_i 479 (by decide +kernel) rfl
theorem k408 : Cond.instantiable RX5 18 ∈ gT := gT_i 480 (by decide +kernel) rfl
theorem k409 : Cond.methodLink RL 12 yX5_init ∈ gT := gT_i 481 (by decide +kernel) rfl
theorem k410 : Cond.instanceMethod yX5_init ∈ gT := gT_i 482 (by decide +kernel) rfl
theorem k411 : Cond.code yX5_init cX5_init 2 none ∈ gT := gT_i 483 (by decide +kernel) rfl
theorem k412 : Cond.methodLink RX5 1 objectInit ∈ gT := gT_i 484 (by decide +kernel) rfl
theorem k413 : Cond.fieldLink RX5 7 "HungStopsModel" "all" "[I" ∈ gT := gT_i 485 (by decide +kernel) rfl
theorem k414 : Cond.fieldLink RX5 13 "HungStopsModel" "kept" "[I" ∈ gT := gT_i 486 (by decide +kernel) rfl
theorem k415 : Cond.fieldLink RX5 16 "HungStopsModel" "history" "[I" ∈ gT := gT_i 487 (by decide +kernel) rfl
theorem k416 : Cond.fieldLink RX5 52 "HungStopsModel" "historyLong" "I" ∈ gT := gT_i 488 (by decide +kernel) rfl
theorem k417 : Cond.fieldLink RX5 19 "HungStopsModel" "slots" "[I" ∈ gT := gT_i 489 (by decide +kernel) rfl
theorem k418 : Cond.fieldLink RX5 22 "HungStopsModel" "isSaved" "[I" ∈ gT := gT_i 490 (by decide +kernel) rfl
theorem k419 : Cond.fieldLink RX5 25 "HungStopsModel" "ahead" "[I" ∈ gT := gT_i 491 (by decide +kernel) rfl
theorem k420 : Cond.fieldLink RX5 28 "HungStopsModel" "lefts" "[I" ∈ gT := gT_i 492 (by decide +kernel) rfl
theorem k421 : Cond.fieldLink RX5 31 "HungStopsModel" "rights" "[I" ∈ gT := gT_i 493 (by decide +kernel) rfl
theorem k422 : Cond.fieldLink RX5 34 "HungStopsModel" "starts" "[I" ∈ gT := gT_i 494 (by decide +kernel) rfl
theorem k423 : Cond.fieldLink RX5 98 "HungStopsModel" "lines" "I" ∈ gT := gT_i 495 (by decide +kernel) rfl
theorem k424 : Cond.fieldLink RX5 37 "HungStopsModel" "least" "[I" ∈ gT := gT_i 496 (by decide +kernel) rfl
theorem k425 : Cond.fieldLink RX5 40 "HungStopsModel" "takes" "[I" ∈ gT := gT_i 497 (by decide +kernel) rfl
theorem k426 : Cond.fieldLink RX5 43 "HungStopsModel" "text" "[I" ∈ gT := gT_i 498 (by decide +kernel) rfl
theorem k427 : Cond.fieldLink RX5 177 "HungStopsModel" "textLong" "I" ∈ gT := gT_i 499 (by decide +kernel) rfl
theorem k428 : Cond.fieldLink RX5 46 "HungStopsModel" "begins" "[I" ∈ gT := gT_i 500 (by decide +kernel) rfl
theorem k429 : Cond.fieldLink RX5 49 "HungStopsModel" "lengths" "[I" ∈ gT := gT_i 501 (by decide +kernel) rfl
theorem k430 : Cond.fieldLink RX5 201 "HungStopsModel" "read" "I" ∈ gT := gT_i 502 (by decide +kernel) rfl
theorem k431 : Cond.methodLink RL 17 yX5_set ∈ gT := gT_i 540 (by decide +kernel) rfl
theorem k432 : Cond.instanceMethod yX5_set ∈ gT := gT_i 541 (by decide +kernel) rfl
theorem k433 : Cond.selects RX5 yX5_set yX5_set ∈ gT := gT_i 542 (by decide +kernel) rfl
theorem k434 : Cond.code yX5_set cX5_set 4 (some .int) ∈ gT := gT_i 543 (by decide +kernel) rfl
theorem k435 : Cond.methodLink RX5 130 yX5_isSetting ∈ gT := gT_i 544 (by decide +kernel) rfl
theorem k436 : Cond.static yX5_isSetting ∈ gT := gT_i 545 (by decide +kernel) rfl
theorem k437 : Cond.code yX5_isSetting cX5_isSetting 2 (some .boolean) ∈ gT := gT_i 546 (by decide +kernel) rfl
theorem k438 : Cond.constantLong RX5 124 (20) ∈ gT := gT_i 547 (by decide +kernel) rfl
theorem k439 : Cond.constantLong RX5 126 (200) ∈ gT := gT_i 548 (by decide +kernel) rfl
theorem k440 : Cond.methodLink RX5 58 yX5_in ∈ gT := gT_i 549 (by decide +kernel) rfl
theorem k441 : Cond.static yX5_in ∈ gT := gT_i 550 (by decide +kernel) rfl
theorem k442 : Cond.code yX5_in cX5_in 6 (some .boolean) ∈ gT := gT_i 551 (by decide +kernel) rfl
theorem k443 : Cond.constantLong RX5 128 (40) ∈ gT := gT_i 552 (by decide +kernel) rfl
theorem k444 : Cond.methodLink RX5 134 yX5_changes ∈ gT := gT_i 553 (by decide +kernel) rfl
theorem k445 : Cond.instanceMethod yX5_changes ∈ gT := gT_i 555 (by decide +kernel) rfl
theorem k446 : Cond.code yX5_changes cX5_changes 2 none ∈ gT := gT_i 556 (by decide +kernel) rfl
theorem k447 : Cond.methodLink RL 22 yX5_sort ∈ gT := gT_i 557 (by decide +kernel) rfl
theorem k448 : Cond.instanceMethod yX5_sort ∈ gT := gT_i 558 (by decide +kernel) rfl
theorem k449 : Cond.selects RX5 yX5_sort yX5_sort ∈ gT := gT_i 559 (by decide +kernel) rfl
theorem k450 : Cond.code yX5_sort cX5_sort 6 (some .int) ∈ gT := gT_i 560 (by decide +kernel) rfl
theorem k451 : Cond.methodLink RX5 137 yX5_isSort ∈ gT := gT_i 561 (by decide +kernel) rfl
theorem k452 : Cond.static yX5_isSort ∈ gT := gT_i 562 (by decide +kernel) rfl
theorem k453 : Cond.code yX5_isSort cX5_isSort 1 (some .boolean) ∈ gT := gT_i 563 (by decide +kernel) rfl
theorem k454 : Cond.constantLong RX5 56 (7) ∈ gT := gT_i 564 (by decide +kernel) rfl
theorem k455 : Cond.constantLong RX5 140 (100) ∈ gT := gT_i 565 (by decide +kernel) rfl
theorem k456 : Cond.methodLink RL 32 yX5_drop ∈ gT := gT_i 566 (by decide +kernel) rfl
theorem k457 : Cond.instanceMethod yX5_drop ∈ gT := gT_i 567 (by decide +kernel) rfl
theorem k458 : Cond.selects RX5 yX5_drop yX5_drop ∈ gT := gT_i 568 (by decide +kernel) rfl
theorem k459 : Cond.code yX5_drop cX5_drop 3 (some .int) ∈ gT := gT_i 569 (by decide +kernel) rfl
theorem k460 : Cond.methodLink RX5 142 yX5_isWord ∈ gT := gT_i 570 (by decide +kernel) rfl
theorem k461 : Cond.instanceMethod yX5_isWord ∈ gT := gT_i 572 (by decide +kernel) rfl
theorem k462 : Cond.code yX5_isWord cX5_isWord 2 (some .boolean) ∈ gT := gT_i 573 (by decide +kernel) rfl
theorem k463 : Cond.methodLink RX5 80 yX5_widthOf ∈ gT := gT_i 574 (by decide +kernel) rfl
theorem k464 : Cond.instanceMethod yX5_widthOf ∈ gT := gT_i 576 (by decide +kernel) rfl
theorem k465 : Cond.code yX5_widthOf cX5_widthOf 4 (some .int) ∈ gT := gT_i 577 (by decide +kernel) rfl
theorem k466 : Cond.methodLink RX5 66 yX5_signs ∈ gT := gT_i 578 (by decide +kernel) rfl
theorem k467 : Cond.instanceMethod yX5_signs ∈ gT := gT_i 580 (by decide +kernel) rfl
theorem k468 : Cond.code yX5_signs cX5_signs 2 (some .int) ∈ gT := gT_i 581 (by decide +kernel) rfl
theorem k469 : Cond.methodLink RX5 70 yX5_signAt ∈ gT := gT_i 582 (by decide +kernel) rfl
theorem k470 : Cond.instanceMethod yX5_signAt ∈ gT := gT_i 584 (by decide +kernel) rfl
theorem k471 : Cond.code yX5_signAt cX5_signAt 3 (some .int) ∈ gT := gT_i 585 (by decide +kernel) rfl
theorem k472 : Cond.methodLink RX5 74 yX5_sortBy ∈ gT := gT_i 586 (by decide +kernel) rfl
theorem k473 : Cond.static yX5_sortBy ∈ gT := gT_i 587 (by decide +kernel) rfl
theorem k474 : Cond.code yX5_sortBy cX5_sortBy 1 (some .int) ∈ gT := gT_i 588 (by decide +kernel) rfl
theorem k475 : Cond.constantLong RX5 62 (97) ∈ gT := gT_i 589 (by decide +kernel) rfl
theorem k476 : Cond.constantLong RX5 64 (122) ∈ gT := gT_i 590 (by decide +kernel) rfl
theorem k477 : Cond.methodLink RX5 145 yX5_takesOut ∈ gT := gT_i 591 (by decide +kernel) rfl
theorem k478 : Cond.instanceMethod yX5_takesOut ∈ gT := gT_i 593 (by decide +kernel) rfl
theorem k479 : Cond.code yX5_takesOut cX5_takesOut 3 none ∈ gT := gT_i 594 (by decide +kernel) rfl
theorem k480 : Cond.methodLink RL 36 yX5_swap ∈ gT := gT_i 595 (by decide +kernel) rfl
theorem k481 : Cond.instanceMethod yX5_swap ∈ gT := gT_i 596 (by decide +kernel) rfl
theorem k482 : Cond.selects RX5 yX5_swap yX5_swap ∈ gT := gT_i 597 (by decide +kernel) rfl
theorem k483 : Cond.code yX5_swap cX5_swap 5 (some .int) ∈ gT := gT_i 598 (by decide +kernel) rfl
theorem k484 : Cond.methodLink RX5 108 yX5_fills ∈ gT := gT_i 599 (by decide +kernel) rfl
theorem k485 : Cond.instanceMethod yX5_fills ∈ gT := gT_i 601 (by decide +kernel) rfl
theorem k486 : Cond.code yX5_fills cX5_fills 3 none ∈ gT := gT_i 602 (by decide +kernel) rfl
theorem k487 : Cond.methodLink RX5 95 yX5_measures ∈ gT := gT_i 603 (by decide +kernel) rfl
theorem k488 : Cond.instanceMethod yX5_measures ∈ gT := gT_i 605 (by decide +kernel) rfl
theorem k489 : Cond.code yX5_measures cX5_measures 2 none ∈ gT := gT_i 606 (by decide +kernel) rfl
theorem k490 : Cond.methodLink RX5 83 yX5_hangsLeft ∈ gT := gT_i 607 (by decide +kernel) rfl
theorem k491 : Cond.instanceMethod yX5_hangsLeft ∈ gT := gT_i 609 (by decide +kernel) rfl
theorem k492 : Cond.code yX5_hangsLeft cX5_hangsLeft 2 (some .int) ∈ gT := gT_i 610 (by decide +kernel) rfl
theorem k493 : Cond.methodLink RX5 77 yX5_hang ∈ gT := gT_i 611 (by decide +kernel) rfl
theorem k494 : Cond.instanceMethod yX5_hang ∈ gT := gT_i 613 (by decide +kernel) rfl
theorem k495 : Cond.code yX5_hang cX5_hang 3 (some .int) ∈ gT := gT_i 614 (by decide +kernel) rfl
theorem k496 : Cond.methodLink RX5 86 yX5_hangsRight ∈ gT := gT_i 615 (by decide +kernel) rfl
theorem k497 : Cond.instanceMethod yX5_hangsRight ∈ gT := gT_i 617 (by decide +kernel) rfl
theorem k498 : Cond.code yX5_hangsRight cX5_hangsRight 2 (some .int) ∈ gT := gT_i 618 (by decide +kernel) rfl
theorem k499 : Cond.methodLink RX5 92 yX5_bodyOf ∈ gT := gT_i 619 (by decide +kernel) rfl
theorem k500 : Cond.instanceMethod yX5_bodyOf ∈ gT := gT_i 621 (by decide +kernel) rfl
theorem k501 : Cond.code yX5_bodyOf cX5_bodyOf 3 (some .int) ∈ gT := gT_i 622 (by decide +kernel) rfl
theorem k502 : Cond.methodLink RX5 89 yX5_widthOfLine ∈ gT := gT_i 623 (by decide +kernel) rfl
theorem k503 : Cond.instanceMethod yX5_widthOfLine ∈ gT := gT_i 625 (by decide +kernel) rfl
theorem k504 : Cond.code yX5_widthOfLine cX5_widthOfLine 3 (some .int) ∈ gT := gT_i 626 (by decide +kernel) rfl
theorem k505 : Cond.methodLink RL 40 yX5_clear ∈ gT := gT_i 627 (by decide +kernel) rfl
theorem k506 : Cond.instanceMethod yX5_clear ∈ gT := gT_i 628 (by decide +kernel) rfl
theorem k507 : Cond.selects RX5 yX5_clear yX5_clear ∈ gT := gT_i 629 (by decide +kernel) rfl
theorem k508 : Cond.code yX5_clear cX5_clear 3 (some .int) ∈ gT := gT_i 630 (by decide +kernel) rfl
theorem k509 : Cond.methodLink RL 44 yX5_sortOf ∈ gT := gT_i 631 (by decide +kernel) rfl
theorem k510 : Cond.instanceMethod yX5_sortOf ∈ gT := gT_i 632 (by decide +kernel) rfl
theorem k511 : Cond.selects RX5 yX5_sortOf yX5_sortOf ∈ gT := gT_i 633 (by decide +kernel) rfl
theorem k512 : Cond.code yX5_sortOf cX5_sortOf 3 (some .int) ∈ gT := gT_i 634 (by decide +kernel) rfl
theorem k513 : Cond.methodLink RX5 148 yX5_often ∈ gT := gT_i 635 (by decide +kernel) rfl
theorem k514 : Cond.instanceMethod yX5_often ∈ gT := gT_i 637 (by decide +kernel) rfl
theorem k515 : Cond.code yX5_often cX5_often 6 (some .int) ∈ gT := gT_i 638 (by decide +kernel) rfl
theorem k516 : Cond.methodLink RL 48 yX5_word ∈ gT := gT_i 639 (by decide +kernel) rfl
theorem k517 : Cond.instanceMethod yX5_word ∈ gT := gT_i 640 (by decide +kernel) rfl
theorem k518 : Cond.selects RX5 yX5_word yX5_word ∈ gT := gT_i 641 (by decide +kernel) rfl
theorem k519 : Cond.code yX5_word cX5_word 3 (some .int) ∈ gT := gT_i 642 (by decide +kernel) rfl
theorem k520 : Cond.methodLink RX5 154 yX5_lineOf ∈ gT := gT_i 643 (by decide +kernel) rfl
theorem k521 : Cond.instanceMethod yX5_lineOf ∈ gT := gT_i 645 (by decide +kernel) rfl
theorem k522 : Cond.code yX5_lineOf cX5_lineOf 4 (some .int) ∈ gT := gT_i 646 (by decide +kernel) rfl
theorem k523 : Cond.methodLink RX5 151 yX5_breaks ∈ gT := gT_i 647 (by decide +kernel) rfl
theorem k524 : Cond.instanceMethod yX5_breaks ∈ gT := gT_i 649 (by decide +kernel) rfl
theorem k525 : Cond.code yX5_breaks cX5_breaks 2 none ∈ gT := gT_i 650 (by decide +kernel) rfl
theorem k526 : Cond.methodLink RX5 111 yX5_breaksBest ∈ gT := gT_i 651 (by decide +kernel) rfl
theorem k527 : Cond.instanceMethod yX5_breaksBest ∈ gT := gT_i 653 (by decide +kernel) rfl
theorem k528 : Cond.code yX5_breaksBest cX5_breaksBest 2 none ∈ gT := gT_i 654 (by decide +kernel) rfl
theorem k529 : Cond.methodLink RX5 104 yX5_worksOutFrom ∈ gT := gT_i 655 (by decide +kernel) rfl
theorem k530 : Cond.instanceMethod yX5_worksOutFrom ∈ gT := gT_i 657 (by decide +kernel) rfl
theorem k531 : Cond.code yX5_worksOutFrom cX5_worksOutFrom 4 none ∈ gT := gT_i 658 (by decide +kernel) rfl
theorem k532 : Cond.methodLink RX5 101 yX5_badnessOf ∈ gT := gT_i 659 (by decide +kernel) rfl
theorem k533 : Cond.instanceMethod yX5_badnessOf ∈ gT := gT_i 661 (by decide +kernel) rfl
theorem k534 : Cond.code yX5_badnessOf cX5_badnessOf 4 (some .int) ∈ gT := gT_i 662 (by decide +kernel) rfl
theorem k535 : Cond.methodLink RL 53 yX5_line ∈ gT := gT_i 663 (by decide +kernel) rfl
theorem k536 : Cond.instanceMethod yX5_line ∈ gT := gT_i 664 (by decide +kernel) rfl
theorem k537 : Cond.selects RX5 yX5_line yX5_line ∈ gT := gT_i 665 (by decide +kernel) rfl
theorem k538 : Cond.code yX5_line cX5_line 6 (some .int) ∈ gT := gT_i 666 (by decide +kernel) rfl
theorem k539 : Cond.methodLink RX5 157 yX5_isWay ∈ gT := gT_i 667 (by decide +kernel) rfl
theorem k540 : Cond.static yX5_isWay ∈ gT := gT_i 668 (by decide +kernel) rfl
theorem k541 : Cond.code yX5_isWay cX5_isWay 1 (some .boolean) ∈ gT := gT_i 669 (by decide +kernel) rfl
theorem k542 : Cond.constantLong RX5 160 (8) ∈ gT := gT_i 670 (by decide +kernel) rfl
theorem k543 : Cond.methodLink RX5 114 yX5_lastOf ∈ gT := gT_i 671 (by decide +kernel) rfl
theorem k544 : Cond.instanceMethod yX5_lastOf ∈ gT := gT_i 673 (by decide +kernel) rfl
theorem k545 : Cond.code yX5_lastOf cX5_lastOf 2 (some .int) ∈ gT := gT_i 674 (by decide +kernel) rfl
theorem k546 : Cond.methodLink RX5 120 yX5_fits ∈ gT := gT_i 675 (by decide +kernel) rfl
theorem k547 : Cond.instanceMethod yX5_fits ∈ gT := gT_i 677 (by decide +kernel) rfl
theorem k548 : Cond.code yX5_fits cX5_fits 2 (some .boolean) ∈ gT := gT_i 678 (by decide +kernel) rfl
theorem k549 : Cond.methodLink RX5 117 yX5_bodyOfLine ∈ gT := gT_i 679 (by decide +kernel) rfl
theorem k550 : Cond.instanceMethod yX5_bodyOfLine ∈ gT := gT_i 681 (by decide +kernel) rfl
theorem k551 : Cond.code yX5_bodyOfLine cX5_bodyOfLine 2 (some .int) ∈ gT := gT_i 682 (by decide +kernel) rfl
theorem k552 : Cond.methodLink RX5 162 yX5_looksIndented ∈ gT := gT_i 683 (by decide +kernel) rfl
theorem k553 : Cond.instanceMethod yX5_looksIndented ∈ gT := gT_i 685 (by decide +kernel) rfl
theorem k554 : Cond.code yX5_looksIndented cX5_looksIndented 2 (some .boolean) ∈ gT := gT_i 686 (by decide +kernel) rfl
theorem k555 : Cond.methodLink RL 57 yX5_lines ∈ gT := gT_i 687 (by decide +kernel) rfl
theorem k556 : Cond.instanceMethod yX5_lines ∈ gT := gT_i 688 (by decide +kernel) rfl
theorem k557 : Cond.selects RX5 yX5_lines yX5_lines ∈ gT := gT_i 689 (by decide +kernel) rfl
theorem k558 : Cond.code yX5_lines cX5_lines 3 (some .int) ∈ gT := gT_i 690 (by decide +kernel) rfl
theorem k559 : Cond.constantLong RX5 165 (4) ∈ gT := gT_i 691 (by decide +kernel) rfl
theorem k560 : Cond.methodLink RX5 167 yX5_ofLines ∈ gT := gT_i 692 (by decide +kernel) rfl
theorem k561 : Cond.instanceMethod yX5_ofLines ∈ gT := gT_i 694 (by decide +kernel) rfl
theorem k562 : Cond.code yX5_ofLines cX5_ofLines 6 (some .int) ∈ gT := gT_i 695 (by decide +kernel) rfl
theorem k563 : Cond.methodLink RL 61 yX5_count ∈ gT := gT_i 696 (by decide +kernel) rfl
theorem k564 : Cond.instanceMethod yX5_count ∈ gT := gT_i 697 (by decide +kernel) rfl
theorem k565 : Cond.selects RX5 yX5_count yX5_count ∈ gT := gT_i 698 (by decide +kernel) rfl
theorem k566 : Cond.code yX5_count cX5_count 2 (some .int) ∈ gT := gT_i 699 (by decide +kernel) rfl
theorem k567 : Cond.methodLink RX5 170 yX5_allSigns ∈ gT := gT_i 700 (by decide +kernel) rfl
theorem k568 : Cond.instanceMethod yX5_allSigns ∈ gT := gT_i 702 (by decide +kernel) rfl
theorem k569 : Cond.code yX5_allSigns cX5_allSigns 3 (some .int) ∈ gT := gT_i 703 (by decide +kernel) rfl
theorem k570 : Cond.methodLink RX5 174 yX5_areAlike ∈ gT := gT_i 704 (by decide +kernel) rfl
theorem k571 : Cond.instanceMethod yX5_areAlike ∈ gT := gT_i 706 (by decide +kernel) rfl
theorem k572 : Cond.code yX5_areAlike cX5_areAlike 4 (some .int) ∈ gT := gT_i 707 (by decide +kernel) rfl
theorem k573 : Cond.methodLink RL 65 yX5_body ∈ gT := gT_i 708 (by decide +kernel) rfl
theorem k574 : Cond.instanceMethod yX5_body ∈ gT := gT_i 709 (by decide +kernel) rfl
theorem k575 : Cond.selects RX5 yX5_body yX5_body ∈ gT := gT_i 710 (by decide +kernel) rfl
theorem k576 : Cond.code yX5_body cX5_body 3 (some .int) ∈ gT := gT_i 711 (by decide +kernel) rfl
theorem k577 : Cond.methodLink RL 69 yX5_leastMeasure ∈ gT := gT_i 712 (by decide +kernel) rfl
theorem k578 : Cond.instanceMethod yX5_leastMeasure ∈ gT := gT_i 713 (by decide +kernel) rfl
theorem k579 : Cond.selects RX5 yX5_leastMeasure yX5_leastMeasure ∈ gT := gT_i 714 (by decide +kernel) rfl
theorem k580 : Cond.code yX5_leastMeasure cX5_leastMeasure 5 (some .int) ∈ gT := gT_i 715 (by decide +kernel) rfl
theorem k581 : Cond.constantLong RX5 180 (24) ∈ gT := gT_i 716 (by decide +kernel) rfl
theorem k582 : Cond.methodLink RL 73 yX5_bestShare ∈ gT := gT_i 717 (by decide +kernel) rfl
theorem k583 : Cond.instanceMethod yX5_bestShare ∈ gT := gT_i 718 (by decide +kernel) rfl
theorem k584 : Cond.selects RX5 yX5_bestShare yX5_bestShare ∈ gT := gT_i 719 (by decide +kernel) rfl
theorem k585 : Cond.code yX5_bestShare cX5_bestShare 7 (some .int) ∈ gT := gT_i 720 (by decide +kernel) rfl
theorem k586 : Cond.methodLink RX5 182 yX5_bestBadness ∈ gT := gT_i 721 (by decide +kernel) rfl
theorem k587 : Cond.instanceMethod yX5_bestBadness ∈ gT := gT_i 723 (by decide +kernel) rfl
theorem k588 : Cond.code yX5_bestBadness cX5_bestBadness 1 (some .int) ∈ gT := gT_i 724 (by decide +kernel) rfl
theorem k589 : Cond.methodLink RL 77 yX5_worstWord ∈ gT := gT_i 725 (by decide +kernel) rfl
theorem k590 : Cond.instanceMethod yX5_worstWord ∈ gT := gT_i 726 (by decide +kernel) rfl
theorem k591 : Cond.selects RX5 yX5_worstWord yX5_worstWord ∈ gT := gT_i 727 (by decide +kernel) rfl
theorem k592 : Cond.code yX5_worstWord cX5_worstWord 6 (some .int) ∈ gT := gT_i 728 (by decide +kernel) rfl
theorem k593 : Cond.methodLink RX5 185 yX5_keeps ∈ gT := gT_i 729 (by decide +kernel) rfl
theorem k594 : Cond.instanceMethod yX5_keeps ∈ gT := gT_i 731 (by decide +kernel) rfl
theorem k595 : Cond.code yX5_keeps cX5_keeps 2 none ∈ gT := gT_i 732 (by decide +kernel) rfl
theorem k596 : Cond.methodLink RX5 188 yX5_comesBack ∈ gT := gT_i 733 (by decide +kernel) rfl
theorem k597 : Cond.instanceMethod yX5_comesBack ∈ gT := gT_i 735 (by decide +kernel) rfl
theorem k598 : Cond.code yX5_comesBack cX5_comesBack 2 none ∈ gT := gT_i 736 (by decide +kernel) rfl
theorem k599 : Cond.methodLink RL 84 yX5_put ∈ gT := gT_i 737 (by decide +kernel) rfl
theorem k600 : Cond.instanceMethod yX5_put ∈ gT := gT_i 738 (by decide +kernel) rfl
theorem k601 : Cond.selects RX5 yX5_put yX5_put ∈ gT := gT_i 739 (by decide +kernel) rfl
theorem k602 : Cond.code yX5_put cX5_put 5 (some .int) ∈ gT := gT_i 740 (by decide +kernel) rfl
theorem k603 : Cond.methodLink RX5 197 yX5_charactersOf ∈ gT := gT_i 741 (by decide +kernel) rfl
theorem k604 : Cond.static yX5_charactersOf ∈ gT := gT_i 742 (by decide +kernel) rfl
theorem k605 : Cond.code yX5_charactersOf cX5_charactersOf 5 (some .int) ∈ gT := gT_i 743 (by decide +kernel) rfl
theorem k606 : Cond.constantLong RX5 191 (255) ∈ gT := gT_i 744 (by decide +kernel) rfl
theorem k607 : Cond.constantLong RX5 193 (33) ∈ gT := gT_i 745 (by decide +kernel) rfl
theorem k608 : Cond.constantLong RX5 195 (126) ∈ gT := gT_i 746 (by decide +kernel) rfl
theorem k609 : Cond.methodLink RL 88 yX5_wipe ∈ gT := gT_i 747 (by decide +kernel) rfl
theorem k610 : Cond.instanceMethod yX5_wipe ∈ gT := gT_i 748 (by decide +kernel) rfl
theorem k611 : Cond.selects RX5 yX5_wipe yX5_wipe ∈ gT := gT_i 749 (by decide +kernel) rfl
theorem k612 : Cond.code yX5_wipe cX5_wipe 2 (some .int) ∈ gT := gT_i 750 (by decide +kernel) rfl
theorem k613 : Cond.methodLink RL 92 yX5_fault ∈ gT := gT_i 751 (by decide +kernel) rfl
theorem k614 : Cond.instanceMethod yX5_fault ∈ gT := gT_i 752 (by decide +kernel) rfl
theorem k615 : Cond.selects RX5 yX5_fault yX5_fault ∈ gT := gT_i 753 (by decide +kernel) rfl
theorem k616 : Cond.code yX5_fault cX5_fault 4 (some .int) ∈ gT := gT_i 754 (by decide +kernel) rfl
theorem k617 : Cond.methodLink RX5 204 yX5_wordEnd ∈ gT := gT_i 755 (by decide +kernel) rfl
theorem k618 : Cond.instanceMethod yX5_wordEnd ∈ gT := gT_i 757 (by decide +kernel) rfl
theorem k619 : Cond.code yX5_wordEnd cX5_wordEnd 3 (some .int) ∈ gT := gT_i 758 (by decide +kernel) rfl
theorem k620 : Cond.methodLink RL 27 yX5_read ∈ gT := gT_i 759 (by decide +kernel) rfl
theorem k621 : Cond.instanceMethod yX5_read ∈ gT := gT_i 760 (by decide +kernel) rfl
theorem k622 : Cond.selects RX5 yX5_read yX5_read ∈ gT := gT_i 761 (by decide +kernel) rfl
theorem k623 : Cond.code yX5_read cX5_read 4 (some .int) ∈ gT := gT_i 762 (by decide +kernel) rfl
theorem k624 : Cond.methodLink RX5 207 yX5_fault ∈ gT := gT_i 763 (by decide +kernel) rfl
theorem k625 : Cond.methodLink RL 96 yX5_undo ∈ gT := gT_i 764 (by decide +kernel) rfl
theorem k626 : Cond.instanceMethod yX5_undo ∈ gT := gT_i 765 (by decide +kernel) rfl
theorem k627 : Cond.selects RX5 yX5_undo yX5_undo ∈ gT := gT_i 766 (by decide +kernel) rfl
theorem k628 : Cond.code yX5_undo cX5_undo 2 (some .int) ∈ gT := gT_i 767 (by decide +kernel) rfl
theorem k629 : Cond.methodLink RL 100 yX5_save ∈ gT := gT_i 768 (by decide +kernel) rfl
theorem k630 : Cond.instanceMethod yX5_save ∈ gT := gT_i 769 (by decide +kernel) rfl
theorem k631 : Cond.selects RX5 yX5_save yX5_save ∈ gT := gT_i 770 (by decide +kernel) rfl
theorem k632 : Cond.code yX5_save cX5_save 3 (some .int) ∈ gT := gT_i 771 (by decide +kernel) rfl
theorem k633 : Cond.methodLink RX5 210 yX5_isSlot ∈ gT := gT_i 772 (by decide +kernel) rfl
theorem k634 : Cond.static yX5_isSlot ∈ gT := gT_i 773 (by decide +kernel) rfl
theorem k635 : Cond.code yX5_isSlot cX5_isSlot 1 (some .boolean) ∈ gT := gT_i 774 (by decide +kernel) rfl
theorem k636 : Cond.methodLink RL 104 yX5_restore ∈ gT := gT_i 775 (by decide +kernel) rfl
theorem k637 : Cond.instanceMethod yX5_restore ∈ gT := gT_i 776 (by decide +kernel) rfl
theorem k638 : Cond.selects RX5 yX5_restore yX5_restore ∈ gT := gT_i 777 (by decide +kernel) rfl
theorem k639 : Cond.code yX5_restore cX5_restore 3 (some .int) ∈ gT := gT_i 778 (by decide +kernel) rfl
theorem k640 : Cond.constantLong RL 78 (4294967295) ∈ gT := gT_i 779 (by decide +kernel) rfl
theorem iX0 : ∀ w ∈ u_ws RX0 TX0 3, w ∈ gT := fun w h => gT_mem ((by decide +kernel : ∀ w ∈ u_ws RX0 TX0 3, w ∈ lw_tbl) w h) ((by decide +kernel : ∀ w ∈ u_ws RX0 TX0 3, goodWord w = true) w h)
theorem iX1 : ∀ w ∈ u_ws RX1 TX1 11, w ∈ gT := fun w h => gT_mem ((by decide +kernel : ∀ w ∈ u_ws RX1 TX1 11, w ∈ lw_tbl) w h) ((by decide +kernel : ∀ w ∈ u_ws RX1 TX1 11, goodWord w = true) w h)
theorem iX2 : ∀ w ∈ u_ws RX2 TX2 2, w ∈ gT := fun w h => gT_mem ((by decide +kernel : ∀ w ∈ u_ws RX2 TX2 2, w ∈ lw_tbl) w h) ((by decide +kernel : ∀ w ∈ u_ws RX2 TX2 2, goodWord w = true) w h)
theorem iX3 : ∀ w ∈ u_ws RX3 TX3 7, w ∈ gT := fun w h => gT_mem ((by decide +kernel : ∀ w ∈ u_ws RX3 TX3 7, w ∈ lw_tbl) w h) ((by decide +kernel : ∀ w ∈ u_ws RX3 TX3 7, goodWord w = true) w h)
theorem iX4 : ∀ w ∈ u_ws RX4 TX4 8, w ∈ gT := fun w h => gT_mem ((by decide +kernel : ∀ w ∈ u_ws RX4 TX4 8, w ∈ lw_tbl) w h) ((by decide +kernel : ∀ w ∈ u_ws RX4 TX4 8, goodWord w = true) w h)
theorem iX5 : ∀ w ∈ u_ws RX5 TX5 18, w ∈ gT := fun w h => gT_mem ((by decide +kernel : ∀ w ∈ u_ws RX5 TX5 18, w ∈ lw_tbl) w h) ((by decide +kernel : ∀ w ∈ u_ws RX5 TX5 18, goodWord w = true) w h)
end
section
/-! One store for a whole run: the cells that the run made, by number, behind the heap of the start. Rows for it, out of the kit's rows. -/
abbrev St : Type := Nat → va_E
abbrev Kt : Type := va_G × (ClassId × ClassId × ClassId × ClassId) × (Nat × Nat) × Heap
def kG (κ : Kt) : va_G := κ.1
def kI (κ : Kt) : ClassId := κ.2.1.1
def kC (κ : Kt) : ClassId := κ.2.1.2.1
def kZ (κ : Kt) : ClassId := κ.2.1.2.2.1
def kS (κ : Kt) : ClassId := κ.2.1.2.2.2
def kL (κ : Kt) : Nat := κ.2.2.1.1
def kT (κ : Kt) : Nat := κ.2.2.1.2
def kH (κ : Kt) : Heap := κ.2.2.2
def kN (κ : Kt) : Nat := (kH κ).size
def kty (κ : Kt) : List (ClassId × FieldType) := [(kI κ, .int), (kC κ, .char), (kZ κ, .boolean), (kS κ, .object RX3)]
def ad (κ : Kt) (i : Nat) : Nat := kN κ + i
def fr (κ : Kt) : Nat → Prop := fun q => kN κ ≤ q
def SW (κ : Kt) (n : Nat) (st : St) : va_W := (List.range n).map (fun k => (ad κ k, st k))
theorem SW_get {κ : Kt} {n k : Nat} {st : St} (h : k < n) : (SW κ n st)[k]? = some (ad κ k, st k) := by
  simp [SW, h]
theorem SW_inv {κ : Kt} {n k : Nat} {st : St} {q : Nat × va_E} (h : (SW κ n st)[k]? = some q) : k < n ∧ q = (ad κ k, st k) := by
  have hk : k < n := by
    have := (List.getElem?_eq_some_iff.mp h).1
    simpa [SW] using this
  rw [SW_get hk] at h
  exact ⟨hk, (Option.some.inj h).symm⟩
theorem SW_set {κ : Kt} {n k : Nat} {st : St} {e : va_E} (h : k < n) : (SW κ n st).set k (ad κ k, e) = SW κ n (va_up st k e) := by
  apply List.ext_getElem?
  intro j
  by_cases hj : j < n
  · rw [SW_get hj, List.getElem?_set]
    by_cases hk : k = j
    · subst hk
      simp [SW, hj, va_up]
    · rw [if_neg hk, SW_get hj]
      simp [va_up, Ne.symm hk]
  · have h1 : ((SW κ n st).set k (ad κ k, e)).length ≤ j := by simp [SW]; omega
    have h2 : (SW κ n (va_up st k e)).length ≤ j := by simp [SW]; omega
    rw [List.getElem?_eq_none h1, List.getElem?_eq_none h2]
theorem SW_D {κ : Kt} {n : Nat} {st : St} : va_D (fr κ) (SW κ n st) := by
  refine ⟨fun i j x y hi hj hxy => ?_, fun k q hk => ?_⟩
  · obtain ⟨-, rfl⟩ := SW_inv hi
    obtain ⟨-, rfl⟩ := SW_inv hj
    simp only [ad] at hxy
    omega
  · obtain ⟨-, rfl⟩ := SW_inv hk
    show kN κ ≤ kN κ + k
    omega
def Wd (κ : Kt) (n : Nat) (st : St) (H : Heap) : Prop := (∀ q, q < kN κ → H[q]? = (kH κ)[q]?) ∧ va_P (kG κ) kcl (SW κ n st) H
theorem Wd.at {κ : Kt} {n k : Nat} {st : St} {H : Heap} (h : Wd κ n st H) (hk : k < n) : va_at (kG κ) kcl (ad κ k, st k) H := h.2 k _ (SW_get hk)
theorem Wd.size {κ : Kt} {n : Nat} {st : St} {H : Heap} (h : Wd κ n st H) : kN κ + n ≤ H.size := by
  cases n with
  | zero =>
    rcases Nat.lt_or_ge H.size (kN κ) with q | q
    · have h1 := h.1 H.size q
      rw [Array.getElem?_eq_none (Nat.le_refl _)] at h1
      have h2 : (kH κ).size ≤ H.size := Array.getElem?_eq_none_iff.mp h1.symm
      have h3 : kN κ = (kH κ).size := rfl
      omega
    · exact q
  | succ k =>
    have h1 := (h.at (Nat.lt_succ_self k)).lt
    have h2 : ad κ k = kN κ + k := rfl
    have h3 : (ad κ k, st k).1 = ad κ k := rfl
    omega
theorem Wd.of {κ : Kt} {n : Nat} {st : St} {H : Heap} (h2 : ∀ q, q < kN κ → H[q]? = (kH κ)[q]?) (h3 : ∀ k, k < n → va_at (kG κ) kcl (ad κ k, st k) H) : Wd κ n st H := ⟨h2, fun k q hk => by
  obtain ⟨h, rfl⟩ := SW_inv hk
  exact h3 k h⟩
/-- nest words, statics: what the tables and the start say, and nobody changes -/
def lsv (j : Nat) : Int32 := match j with | 0 => 20 | 1 => 1 | _ => 0
def gsv (j : Nat) : Int32 := match j with | 0 => 200 | 1 => 20 | 2 => 40 | _ => 1
def Inv (κ : Kt) (U : State) : Prop := va_K (kG κ) kcl (kty κ) U ∧
  (va_Nw (.methodLinkNest RX4 9 yX3_init RX4) U ∧ va_Nw (.methodLinkNest RX4 21 yX1_init RX4) U ∧ va_Nw (.methodLinkNest RX4 31 yX2_init RX4) U ∧ va_Nw (.methodLinkNest RX0 24 yX3_init RX4) U ∧ va_Nw (.methodLinkNest RX2 21 yX4_sortWith RX4) U ∧ va_Nw (.methodLinkNest RX3 45 yX4_sortWith RX4) U) ∧
  va_AO RX3 U ∧
  (va_Z RX4 "LEAST_VALUE" "[I" (.ref (kL κ)) (fr κ) U (kH κ) ∧ va_T .int (kL κ) 4 (fun j => .int (lsv j)) (fr κ) U (kH κ)) ∧
  (va_Z RX4 "GREATEST_VALUE" "[I" (.ref (kT κ)) (fr κ) U (kH κ) ∧ va_T .int (kT κ) 4 (fun j => .int (gsv j)) (fr κ) U (kH κ))
theorem Inv.warm {κ : Kt} {s U : State} (hW : s.WarmedH U.vm) (h : Inv κ s) : Inv κ U := by
  obtain ⟨h1, ⟨n1, n2, n3, n4, n5, n6⟩, h3, ⟨h4, h5⟩, h6, h7⟩ := h
  exact ⟨va_K.moved hW.alike h1, ⟨n1.warmM hW, n2.warmM hW, n3.warmM hW, n4.warmM hW, n5.warmM hW, n6.warmM hW⟩, h3.moved hW.alike, ⟨h4.moved hW.alike, h5.moved hW.alike⟩, h6.moved hW.alike, h7.moved hW.alike⟩
theorem Inv.same {κ : Kt} {s U : State} (e : s.vm = U.vm) (h : Inv κ s) : Inv κ U := by
  obtain ⟨h1, ⟨n1, n2, n3, n4, n5, n6⟩, h3, ⟨h4, h5⟩, h6, h7⟩ := h
  have ha : s.vm.Alike U.vm := by rw [e]; exact Vm.Alike.refl _
  exact ⟨va_K.moved ha h1, ⟨n1.same rfl e, n2.same rfl e, n3.same rfl e, n4.same rfl e, n5.same rfl e, n6.same rfl e⟩, h3.moved ha, ⟨h4.moved ha, h5.moved ha⟩, h6.moved ha, h7.moved ha⟩
def PcK (κ : Kt) (n : Nat) (as : List Value) (st : St) : Array Value → State → Prop := va_Pc as (fun U => Inv κ U ∧ Wd κ n st U.heap ∧ U.heap.size ≤ kN κ + n)
theorem PcK.blind {κ : Kt} {n : Nat} {as : List Value} {st : St} : FrameBlind (PcK κ n as st) := fun a U g mk h => ⟨h.1, h.2.1.same rfl, h.2.2⟩
def QK (κ : Kt) (n : Nat) (P : Option Value → St → Prop) : Array Value → State → Outcome → State → Prop := fun _ _ oc t => ∃ (v : Option Value) (u : St), oc = .returned v ∧ P v u ∧ Wd κ n u t.heap
/-- a method's contract: from a store to an answer and a store -/
def CT (l : Launch) (κ : Kt) (y : MethodName) (cc : ByteArray) (mL : Nat) (ret : Option FieldType) (rm : Room) (n : Nat) (as : List Value) (st : St) (P : Option Value → St → Prop) : Prop :=
  Met l y (Cond.code y cc mL ret :: gT) rm (PcK κ n as st) (QK κ (n + rm.cells) P) rm.cells rm.slots (fr κ)
theorem CT.mono {l : Launch} {κ : Kt} {y : MethodName} {cc : ByteArray} {mL : Nat} {ret : Option FieldType} {rm : Room} {n : Nat} {as : List Value} {st : St} {P P' : Option Value → St → Prop} (h : CT l κ y cc mL ret rm n as st P) (hP : ∀ v u, P v u → P' v u) : CT l κ y cc mL ret rm n as st P' := by
  intro p e ha hc hk s m args below hf hfit hpre hk2
  obtain ⟨k, o, h1, h2, h3, ⟨⟨v, u, e1, e2, e3⟩, e4⟩⟩ := h p e ha hc hk s m args below hf hfit hpre hk2
  exact ⟨k, o, h1, h2, h3, ⟨⟨v, u, e1, hP v u e2, e3⟩, e4⟩⟩
def PR (v : Option Value) (st : St) : Option Value → St → Prop := fun w u => w = v ∧ u = st
abbrev PRi (r : Int32) (st : St) : Option Value → St → Prop := PR (some (.int r)) st
def PI (f : Int32 → St → Prop) : Option Value → St → Prop := fun w u => ∃ r, w = some (.int r) ∧ f r u
def PV (f : St → Prop) : Option Value → St → Prop := fun w u => w = none ∧ f u
/-- locals as a list by place; none: not known, or a long's second half -/
def lw (ls : Array Slot) (lv : List (Option Value)) : Prop := ls.size = lv.length ∧ lv_wf ls ∧ ∀ (i : Nat) (v : Value), lv[i]? = some (some v) → ls[i]? = some (.val v)
def lw_ps (lv : List (Option Value)) : List (Nat × Value) := (List.range lv.length).filterMap (fun i => match lv[i]? with | some (some v) => some (i, v) | _ => none)
theorem lw_ps_mem {lv : List (Option Value)} {i : Nat} {v : Value} : (i, v) ∈ lw_ps lv ↔ lv[i]? = some (some v) := by
  unfold lw_ps
  rw [List.mem_filterMap]
  constructor
  · rintro ⟨j, -, h⟩
    split at h
    · next w hw => cases h; exact hw
    · cases h
  · intro h
    refine ⟨i, List.mem_range.mpr (List.getElem?_eq_some_iff.mp h).1, ?_⟩
    rw [h]
theorem lw_has {ls : Array Slot} {lv : List (Option Value)} (h : lw ls lv) : lv_has ls lv.length (lw_ps lv) := ⟨h.1, h.2.1, fun q hq => h.2.2 q.1 q.2 (lw_ps_mem.mp hq)⟩
def lw_ok1 (lv : List (Option Value)) (i : Nat) : Bool := match i with
  | 0 => true
  | j + 1 => match lv[j]? with
    | some (some v) => v.category == 1
    | _ => true
theorem lw_put1 {lv : List (Option Value)} {i : Nat} {v : Value} {ls' : Array Slot} (hi : i < lv.length) (hok : lw_ok1 lv i = true) (h' : lv_has ls' lv.length ((i, v) :: (lw_ps lv).filter (fun q => !(q.1 == i) && !(q.1 + 1 == i && q.2.category == 2)))) : lw ls' (lv.set i (some v)) := by
  refine ⟨by rw [List.length_set]; exact h'.1, h'.2.1, fun j w hj => ?_⟩
  by_cases hij : i = j
  · subst hij
    rw [List.getElem?_set_self hi] at hj
    cases hj
    exact h'.2.2 (i, v) List.mem_cons_self
  · rw [List.getElem?_set_ne hij] at hj
    refine h'.2.2 (j, w) (List.mem_cons_of_mem _ (List.mem_filter.mpr ⟨lw_ps_mem.mpr hj, ?_⟩))
    have h1 : (j == i) = false := by simp [Ne.symm hij]
    rw [h1]
    by_cases h2 : j + 1 = i
    · subst h2
      have : (w.category == 1) = true := by
        unfold lw_ok1 at hok
        simpa [hj] using hok
      have h3 : w.category = 1 := by simpa using this
      simp [h3]
    · simp [h2]
theorem lw_put2 {lv : List (Option Value)} {i : Nat} {v : Value} {ls' : Array Slot} (hi : i + 1 < lv.length) (hok : lw_ok1 lv i = true) (h' : lv_has ls' lv.length ((i, v) :: (lw_ps lv).filter (fun q => !(q.1 == i) && (!(q.1 == i + 1) && !(q.1 + 1 == i && q.2.category == 2))))) : lw ls' ((lv.set i (some v)).set (i + 1) none) := by
  refine ⟨by rw [List.length_set, List.length_set]; exact h'.1, h'.2.1, fun j w hj => ?_⟩
  by_cases hij2 : i + 1 = j
  · subst hij2
    rw [List.getElem?_set_self (by rw [List.length_set]; exact hi)] at hj
    cases hj
  rw [List.getElem?_set_ne hij2] at hj
  by_cases hij : i = j
  · subst hij
    rw [List.getElem?_set_self (by omega)] at hj
    cases hj
    exact h'.2.2 (i, v) List.mem_cons_self
  · rw [List.getElem?_set_ne hij] at hj
    refine h'.2.2 (j, w) (List.mem_cons_of_mem _ (List.mem_filter.mpr ⟨lw_ps_mem.mpr hj, ?_⟩))
    have h1 : (j == i) = false := by simp [Ne.symm hij]
    have h1' : (j == i + 1) = false := by simp [Ne.symm hij2]
    rw [h1, h1']
    by_cases h2 : j + 1 = i
    · subst h2
      have : (w.category == 1) = true := by
        unfold lw_ok1 at hok
        simpa [hj] using hok
      have h3 : w.category = 1 := by simpa using this
      simp [h3]
    · simp [h2]
/-- the locals at a method's entry -/
def lw_as : List Value → List (Option Value)
  | [] => []
  | v :: vs => if v.category = 2 then some v :: none :: lw_as vs else some v :: lw_as vs
def lwE (as : List Value) (n : Nat) : List (Option Value) := lw_as as ++ List.replicate (n - (lw_as as).length) none
theorem lw_as_len : ∀ as : List Value, (lw_as as).length = (lg_sl as).length
  | [] => rfl
  | v :: vs => by
    have ih := lw_as_len vs
    unfold lw_as
    by_cases h : v.category = 2
    · simp [lg_sl, h] at ih ⊢
      omega
    · simp [lg_sl, h] at ih ⊢
      omega
theorem lw_as_at : ∀ (as : List Value) (i k : Nat) (v : Value), (lw_as as)[i]? = some (some v) → (k + i, v) ∈ lv_args k as
  | [], i, k, v, h => by simp [lw_as] at h
  | w :: vs, i, k, v, h => by
    unfold lw_as at h
    unfold lv_args
    by_cases hc : w.category = 2
    · rw [if_pos hc] at h
      rw [if_pos hc]
      match i, h with
      | 0, h => cases h; exact List.mem_cons_self
      | 1, h => cases h
      | j + 2, h =>
        have := lw_as_at vs j (k + 2) v h
        rw [show k + (j + 2) = k + 2 + j by omega]
        exact List.mem_cons_of_mem _ this
    · rw [if_neg hc] at h
      rw [if_neg hc]
      match i, h with
      | 0, h => cases h; exact List.mem_cons_self
      | j + 1, h =>
        have := lw_as_at vs j (k + 1) v h
        rw [show k + (j + 1) = k + 1 + j by omega]
        exact List.mem_cons_of_mem _ this
theorem lw_entry (as : List Value) {n : Nat} (h : (lg_sl as).length ≤ n) : lw ((lg_sl as ++ List.replicate (n - (lg_sl as).length) Slot.unset).toArray) (lwE as n) := by
  have h1 := lv_entry as h
  have hl : (lwE as n).length = n := by
    unfold lwE
    rw [List.length_append, List.length_replicate, lw_as_len]
    omega
  refine ⟨h1.1.trans hl.symm, h1.2.1, fun i v hv => ?_⟩
  unfold lwE at hv
  by_cases hi : i < (lw_as as).length
  · rw [List.getElem?_append_left hi] at hv
    have := lw_as_at as i 0 v hv
    rw [Nat.zero_add] at this
    exact h1.2.2 (i, v) this
  · rw [List.getElem?_append_right (by omega), List.getElem?_replicate] at hv
    split at hv <;> cases hv
/-- what is fixed in a method's body -/
def Cx (p : Program) (s : State) (m : MethodId) (args : Array Value) (meth : Method) (c : Code) (κ : Kt) (cc : ByteArray) (nL : Nat) (own : String) (ret : Option FieldType) : Prop :=
  CallFix p m c cc nL s args gT own ∧ Inv κ s ∧ meth.sig.returnType = ret ∧ meth.locks = false ∧ kN κ ≤ s.heap.size ∧ ∀ q, q < kN κ → s.heap[q]? = (kH κ)[q]?
def WS (p : Program) (l : Launch) (e : Env) (R : Room) (s : State) (m : MethodId) (args : Array Value) (below : List Frame) (meth : Method) (c : Code) (κ : Kt) (n cells slots : Nat) (Q : State → Prop) (st : St) (pc : Nat) (lv : List (Option Value)) (stk : List Value) : Prop :=
  s.heap.size + cells ≤ kN κ + n → ∀ (H : Heap) (locs : List Loc) (ls : Array Slot), Wd κ n st H → va_S (fr κ) s.heap H locs → lw ls lv → W p l e R s m args below meth c H locs cells slots Q (F0 m pc ls stk)
abbrev QM (below : List Frame) (args : Array Value) (s : State) (κ : Kt) (n : Nat) (rm : Room) (P : Option Value → St → Prop) : State → Prop := MQ below (QK κ (n + rm.cells) P) args s rm.cells rm.slots (fr κ)
theorem CT.of {l : Launch} {κ : Kt} {y : MethodName} {cc : ByteArray} {mL : Nat} {ret : Option FieldType} {rm : Room} {n : Nat} {as : List Value} {st : St} {P : Option Value → St → Prop} (hy : plainName y.cls = true) (hsl : (lg_sl as).length ≤ mL)
    (body : ∀ (p : Program) (e : Env) (s : State) (m : MethodId) (args : Array Value) (below : List Frame) (meth : Method) (c : Code), Cx p s m args meth c κ cc mL y.cls ret → (y.name = "<init>" → meth.name = "<init>") → WS p l e rm s m args below meth c κ n 0 0 (QM below args s κ n rm P) st 0 (lwE as mL) []) : CT l κ y cc mL ret rm n as st P := by
  refine Met.ofW (cc := cc) (maxL := mL) (ret := ret) hy rfl ?_
  intro p e s m args below meth c s₁ B hml hv
  obtain ⟨rfl, hI, hWd, hsz⟩ := hv
  have hts := atoms_spec (ws := Cond.code y cc mL ret :: gT) B.pre
  have hown : s.vm.findClass y.cls = some m.cls := findClass_of_methodNamed B.named
  rw [lg_entry_eq]
  refine body p e s m as.toArray below meth c ⟨⟨B.exec, B.bytes, hml, hown, fun w hw => hts w (List.mem_cons_of_mem _ hw)⟩, hI, B.returns, B.notSynchronized, by have := hWd.size; omega, hWd.1⟩ (fun h => (name_of_methodNamed B.named B.method).1.trans h) (by omega) s.heap [] _ hWd va_S.rf (lw_entry as hsl)
theorem Cx.put {p : Program} {s : State} {m : MethodId} {args : Array Value} {meth : Method} {c : Code} {κ : Kt} {cc : ByteArray} {nL : Nat} {own : String} {ret : Option FieldType} (C : Cx p s m args meth c κ cc nL own ret) {n k : Nat} {st : St} {H1 : Heap} {locs : List Loc} {e : va_E} (hk : k < n) (hP : va_P (kG κ) kcl ((SW κ n st).set k (ad κ k, e)) H1) (hS : va_S (fr κ) s.heap H1 locs) : Wd κ n (va_up st k e) H1 := by
  refine ⟨fun q hq => ?_, by rw [← SW_set hk]; exact hP⟩
  rw [hS.2.1 q (Nat.lt_of_lt_of_le hq C.2.2.2.2.1) (fun z => Nat.not_le.mpr hq z)]
  exact C.2.2.2.2.2 q hq
end
section
/-- a block of cells at the numbers b, b + 1, .. -/
def Ob (n : Nat) (st : St) (b : Nat) (es : List va_E) : Prop := b + es.length ≤ n ∧ ∀ (j : Nat) (e : va_E), es[j]? = some e → st (b + j) = e
theorem Ob.lt {n b j : Nat} {st : St} {es : List va_E} {e : va_E} (h : Ob n st b es) (hj : es[j]? = some e) : b + j < n := by
  have := (List.getElem?_eq_some_iff.mp hj).1
  have := h.1
  omega
theorem Ob.ne {n b q : Nat} {st : St} {es : List va_E} {e : va_E} (h : Ob n st b es) (hq : q < b ∨ b + es.length ≤ q) : Ob n (va_up st q e) b es := ⟨h.1, fun j x hj => by
  have := (List.getElem?_eq_some_iff.mp hj).1
  rw [va_up_ne _ _ (by omega)]
  exact h.2 j x hj⟩
theorem Ob.put {n b j : Nat} {st : St} {es es' : List va_E} {e : va_E} (h : Ob n st b es) (he : es.set j e = es') : Ob n (va_up st (b + j) e) b es' := by
  subst he
  refine ⟨by rw [List.length_set]; exact h.1, fun i x hi => ?_⟩
  by_cases hij : j = i
  · subst hij
    by_cases hl : j < es.length
    · rw [List.getElem?_set_self hl] at hi
      cases hi
      exact va_up_self _ _ _
    · rw [List.getElem?_eq_none (by rw [List.length_set]; omega)] at hi
      cases hi
  · rw [List.getElem?_set_ne hij] at hi
    rw [va_up_ne _ _ (by omega)]
    exact h.2 i x hi
/-- a block in another store that agrees on it -/
theorem Ob.to {n n' b : Nat} {st st' : St} {es : List va_E} (h : Ob n st b es) (hn : n ≤ n') (hs : ∀ q, b ≤ q → q < b + es.length → st' q = st q) : Ob n' st' b es := ⟨Nat.le_trans h.1 hn, fun j e hj => by
  have := (List.getElem?_eq_some_iff.mp hj).1
  rw [hs _ (by omega) (by omega)]
  exact h.2 j e hj⟩
/-- two stores agree but at the numbers of A -/
def Fr (A : Nat → Prop) (st st' : St) : Prop := ∀ q, ¬ A q → st' q = st q
theorem Fr.rf {A : Nat → Prop} {st : St} : Fr A st st := fun _ _ => rfl
theorem Fr.put {A : Nat → Prop} {st st' : St} {q : Nat} {e : va_E} (h : Fr A st st') (hq : A q) : Fr A st (va_up st' q e) := fun x hx => by
  rw [va_up_ne _ _ (fun z => hx (by rw [z]; exact hq))]
  exact h x hx
theorem Fr.then {A B : Nat → Prop} {st st1 st2 : St} (h : Fr A st st1) (h2 : Fr B st1 st2) (hB : ∀ q, B q → A q) : Fr A st st2 := fun x hx => (h2 x (fun z => hx (hB x z))).trans (h x hx)
theorem Fr.ob {A : Nat → Prop} {n b : Nat} {st st' : St} {es : List va_E} (h : Fr A st st') (hB : Ob n st b es) (hA : ∀ q, b ≤ q → q < b + es.length → ¬ A q) : Ob n st' b es := hB.to (Nat.le_refl _) (fun q h1 h2 => h q (hA q h1 h2))
theorem Fr.weak {A B : Nat → Prop} {st st' : St} (h : Fr A st st') (hB : ∀ q, A q → B q) : Fr B st st' := fun x hx => h x (fun z => hx (hB x z))
def LkF (own : String) (idx ci j : Nat) (C : String) (T : u_T) (N : Nat) : Prop := kcl[ci]? = some (C, T, N) ∧ (∀ w ∈ u_ws C T N, w ∈ gT) ∧ j < N ∧ Cond.fieldLink own idx (T j).1 (T j).2.1 (T j).2.2.1 ∈ gT
def LkP (own : String) (idx ci j : Nat) (C : String) (T : u_T) (N : Nat) (ty : Nat → FieldType) (fin : Bool) (t : FieldType) : Prop := LkF own idx ci j C T N ∧ (∀ k, k < N → parseFieldDescriptor (T k).2.2.1 = some (ty k)) ∧ (∀ a, a < N → ∀ b, b < N → a ≠ b → (T a).2.1 ≠ (T b).2.1) ∧ (T j).2.2.2 = fin ∧ parseFieldDescriptor (T j).2.2.1 = some t ∧ (T j).1 = own
def LkV (own : String) (idx : Nat) (C : String) (y : MethodName) (cc : ByteArray) (mL : Nat) (ret : Option FieldType) (na : Nat) : Prop := Cond.methodLink own idx y ∈ gT ∧ Cond.instanceMethod y ∈ gT ∧ Cond.selects C y y ∈ gT ∧ Cond.initialized C ∈ gT ∧ Cond.code y cc mL ret ∈ gT ∧ y.cls = C ∧ y.cls ≠ "java/lang/invoke/MethodHandle" ∧ y.cls ≠ "java/lang/invoke/VarHandle" ∧ (parseMethodDescriptor y.desc).map (fun d => d.parameters.length) = some na
def LkS (own : String) (idx : Nat) (y : MethodName) (cc : ByteArray) (mL : Nat) (ret : Option FieldType) (na : Nat) : Prop := Cond.methodLink own idx y ∈ gT ∧ Cond.static y ∈ gT ∧ Cond.initialized y.cls ∈ gT ∧ Cond.code y cc mL ret ∈ gT ∧ y.cls ≠ "java/lang/invoke/MethodHandle" ∧ y.cls ≠ "java/lang/invoke/VarHandle" ∧ (parseMethodDescriptor y.desc).map (fun d => d.parameters.length) = some na
def LkSN (own : String) (idx : Nat) (y : MethodName) (cc : ByteArray) (mL : Nat) (ret : Option FieldType) (na : Nat) : Prop := (∀ (κ : Kt) (s : State), Inv κ s → va_Nw (.methodLinkNest own idx y RX4) s) ∧ Cond.static y ∈ gT ∧ Cond.initialized y.cls ∈ gT ∧ Cond.code y cc mL ret ∈ gT ∧ y.cls ≠ "java/lang/invoke/MethodHandle" ∧ y.cls ≠ "java/lang/invoke/VarHandle" ∧ (parseMethodDescriptor y.desc).map (fun d => d.parameters.length) = some na
def LkI (own : String) (idx : Nat) (y : MethodName) (cc : ByteArray) (mL : Nat) (na : Nat) : Prop := Cond.methodLink own idx y ∈ gT ∧ Cond.instanceMethod y ∈ gT ∧ Cond.initialized y.cls ∈ gT ∧ Cond.code y cc mL none ∈ gT ∧ y.name = "<init>" ∧ y.cls ≠ "java/lang/invoke/MethodHandle" ∧ y.cls ≠ "java/lang/invoke/VarHandle" ∧ (parseMethodDescriptor y.desc).map (fun d => d.parameters.length) = some na
def LkIN (own : String) (idx : Nat) (y : MethodName) (cc : ByteArray) (mL : Nat) (na : Nat) : Prop := (∀ (κ : Kt) (s : State), Inv κ s → va_Nw (.methodLinkNest own idx y RX4) s) ∧ Cond.instanceMethod y ∈ gT ∧ Cond.initialized y.cls ∈ gT ∧ Cond.code y cc mL none ∈ gT ∧ y.name = "<init>" ∧ y.cls ≠ "java/lang/invoke/MethodHandle" ∧ y.cls ≠ "java/lang/invoke/VarHandle" ∧ (parseMethodDescriptor y.desc).map (fun d => d.parameters.length) = some na
theorem gT_own {y : MethodName} {cc : ByteArray} {mL : Nat} {ret : Option FieldType} (h : Cond.code y cc mL ret ∈ gT) : GoodIn gT (Cond.code y cc mL ret :: gT) := fun w hw => by
  rcases List.mem_cons.mp hw with rfl | hw
  · exact gT_all _ h
  · exact gT_all _ hw
def lw_okS (lv : List (Option Value)) (i : Nat) : Bool := Nat.ble (i + 1) lv.length && lw_ok1 lv i
theorem lw_okS_lt {lv : List (Option Value)} {i : Nat} (h : lw_okS lv i = true) : i < lv.length := Nat.le_of_ble_eq_true (Bool.and_eq_true _ _ ▸ h).1
theorem lw_okS_ok {lv : List (Option Value)} {i : Nat} (h : lw_okS lv i = true) : lw_ok1 lv i = true := (Bool.and_eq_true _ _ ▸ h).2
theorem Ob.ne' {n b q L : Nat} {st st2 : St} {es : List va_E} {e : va_E} (h : Ob n st b es) (hs : st2 = va_up st q e) (hL : es.length = L) (hq : q < b ∨ b + L ≤ q) : Ob n st2 b es := by
  subst hs hL
  exact h.ne hq
theorem Ob.put' {n b j : Nat} {st st2 : St} {es es' : List va_E} {e : va_E} (h : Ob n st b es) (hs : st2 = va_up st (b + j) e) (he : es.set j e = es') : Ob n st2 b es' := by
  subst hs
  exact h.put he
theorem Fr.put' {A : Nat → Prop} {st st' st2 : St} {q : Nat} {e : va_E} (h : Fr A st st') (hs : st2 = va_up st' q e) (hq : A q) : Fr A st st2 := by
  subst hs
  exact h.put hq
abbrev r0 (F L : Nat) : Room := { frames := F, cells := 0, slots := 0, locals := L }
section ROWS
variable {p : Program} {l : Launch} {e : Env} {R : Room} {s : State} {m : MethodId} {args : Array Value} {below : List Frame} {meth : Method} {c : Code} {κ : Kt} {n k sl : Nat} {Q : State → Prop} {st : St} {lv : List (Option Value)} {stk : List Value} {cc : ByteArray} {nL : Nat} {own : String} {ret : Option FieldType}
theorem ws_iconst (pc : Nat) (C : Cx p s m args meth c κ cc nL own ret) {i : Int} (d : decode cc pc = .ok (.iconst i, 1)) (v : Int32) (hv : Int32.ofInt i = v) (kk : WS p l e R s m args below meth c κ n k sl Q st (pc + 1) lv (.int v :: stk)) : WS p l e R s m args below meth c κ n k sl Q st pc lv (stk) := fun hz H locs ls hW hS hl => lv_iconst C.1.1 C.1.2.1 d hv (kk hz H locs ls hW hS hl)
theorem ws_bipush (pc : Nat) (C : Cx p s m args meth c κ cc nL own ret) {i : Int} (d : decode cc pc = .ok (.bipush i, 2)) (v : Int32) (hv : (Int8.ofInt i).toInt32 = v) (kk : WS p l e R s m args below meth c κ n k sl Q st (pc + 2) lv (.int v :: stk)) : WS p l e R s m args below meth c κ n k sl Q st pc lv (stk) := fun hz H locs ls hW hS hl => lv_bipush C.1.1 C.1.2.1 d hv (kk hz H locs ls hW hS hl)
theorem ws_sipush (pc : Nat) (C : Cx p s m args meth c κ cc nL own ret) {i : Int} (d : decode cc pc = .ok (.sipush i, 3)) (v : Int32) (hv : (Int16.ofInt i).toInt32 = v) (kk : WS p l e R s m args below meth c κ n k sl Q st (pc + 3) lv (.int v :: stk)) : WS p l e R s m args below meth c κ n k sl Q st pc lv (stk) := fun hz H locs ls hW hS hl => lv_sipush C.1.1 C.1.2.1 d hv (kk hz H locs ls hW hS hl)
theorem ws_lconst (pc : Nat) (C : Cx p s m args meth c κ cc nL own ret) {i : Fin 2} (d : decode cc pc = .ok (.lconst i, 1)) (v : Int64) (hv : Int64.ofNat (i : Nat) = v) (kk : WS p l e R s m args below meth c κ n k sl Q st (pc + 1) lv (.long v :: stk)) : WS p l e R s m args below meth c κ n k sl Q st pc lv (stk) := fun hz H locs ls hW hS hl => lv_lconst C.1.1 C.1.2.1 d hv (kk hz H locs ls hW hS hl)
theorem ws_ldc2 (pc : Nat) (C : Cx p s m args meth c κ cc nL own ret) {i : Nat} (d : decode cc pc = .ok (.ldc2_w i, 3)) (v : Int64) (hk : Cond.constantLong own i v ∈ gT) (kk : WS p l e R s m args below meth c κ n k sl Q st (pc + 3) lv (.long v :: stk)) : WS p l e R s m args below meth c κ n k sl Q st pc lv (stk) := fun hz H locs ls hW hS hl => lv_ldc2 C.1.1 C.1.2.1 C.1.2.2.2.1 (C.1.2.2.2.2 _ hk) d (kk hz H locs ls hW hS hl)
theorem ws_iload_n (pc : Nat) (C : Cx p s m args meth c κ cc nL own ret) {i : Fin 4} {x : Int32} (d : decode cc pc = .ok (.iload_n i, 1)) (h : lv[i.val]? = some (some (.int x))) (kk : WS p l e R s m args below meth c κ n k sl Q st (pc + 1) lv (.int x :: stk)) : WS p l e R s m args below meth c κ n k sl Q st pc lv (stk) := fun hz H locs ls hW hS hl => lv_iload_n C.1.1 C.1.2.1 d rfl (hl.2.2 _ _ h) (kk hz H locs ls hW hS hl)
theorem ws_iload (pc : Nat) (C : Cx p s m args meth c κ cc nL own ret) {i : Nat} {x : Int32} (d : decode cc pc = .ok (.iload i, 2)) (h : lv[i]? = some (some (.int x))) (kk : WS p l e R s m args below meth c κ n k sl Q st (pc + 2) lv (.int x :: stk)) : WS p l e R s m args below meth c κ n k sl Q st pc lv (stk) := fun hz H locs ls hW hS hl => lv_iload C.1.1 C.1.2.1 d (hl.2.2 _ _ h) (kk hz H locs ls hW hS hl)
theorem ws_lload_n (pc : Nat) (C : Cx p s m args meth c κ cc nL own ret) {i : Fin 4} {x : Int64} (d : decode cc pc = .ok (.lload_n i, 1)) (h : lv[i.val]? = some (some (.long x))) (kk : WS p l e R s m args below meth c κ n k sl Q st (pc + 1) lv (.long x :: stk)) : WS p l e R s m args below meth c κ n k sl Q st pc lv (stk) := fun hz H locs ls hW hS hl => lv_lload_n C.1.1 C.1.2.1 d rfl (hl.2.2 _ _ h) (kk hz H locs ls hW hS hl)
theorem ws_lload (pc : Nat) (C : Cx p s m args meth c κ cc nL own ret) {i : Nat} {x : Int64} (d : decode cc pc = .ok (.lload i, 2)) (h : lv[i]? = some (some (.long x))) (kk : WS p l e R s m args below meth c κ n k sl Q st (pc + 2) lv (.long x :: stk)) : WS p l e R s m args below meth c κ n k sl Q st pc lv (stk) := fun hz H locs ls hW hS hl => lv_lload C.1.1 C.1.2.1 d (hl.2.2 _ _ h) (kk hz H locs ls hW hS hl)
theorem ws_aload_n (pc : Nat) (C : Cx p s m args meth c κ cc nL own ret) {i : Fin 4} {x : Nat} (d : decode cc pc = .ok (.aload_n i, 1)) (h : lv[i.val]? = some (some (.ref x))) (kk : WS p l e R s m args below meth c κ n k sl Q st (pc + 1) lv (.ref x :: stk)) : WS p l e R s m args below meth c κ n k sl Q st pc lv (stk) := fun hz H locs ls hW hS hl => lv_aload_n C.1.1 C.1.2.1 d rfl (hl.2.2 _ _ h) (kk hz H locs ls hW hS hl)
theorem ws_aload (pc : Nat) (C : Cx p s m args meth c κ cc nL own ret) {i : Nat} {x : Nat} (d : decode cc pc = .ok (.aload i, 2)) (h : lv[i]? = some (some (.ref x))) (kk : WS p l e R s m args below meth c κ n k sl Q st (pc + 2) lv (.ref x :: stk)) : WS p l e R s m args below meth c κ n k sl Q st pc lv (stk) := fun hz H locs ls hW hS hl => lv_aload C.1.1 C.1.2.1 d (hl.2.2 _ _ h) (kk hz H locs ls hW hS hl)
theorem ws_istore_n (pc : Nat) (C : Cx p s m args meth c κ cc nL own ret) {i : Fin 4} {x : Int32} (d : decode cc pc = .ok (.istore_n i, 1)) (hi : lw_okS lv i.val = true) (lv2 : List (Option Value)) (hv2 : lv.set i.val (some (.int x)) = lv2) (kk : WS p l e R s m args below meth c κ n k sl Q st (pc + 1) lv2 (stk)) : WS p l e R s m args below meth c κ n k sl Q st pc lv (.int x :: stk) := fun hz H locs ls hW hS hl => lv_istore_n C.1.1 C.1.2.1 d rfl (lw_has hl) (lw_okS_lt hi) rfl (fun ls2 h2 => kk hz H locs ls2 hW hS (hv2 ▸ lw_put1 (lw_okS_lt hi) (lw_okS_ok hi) h2))
theorem ws_istore (pc : Nat) (C : Cx p s m args meth c κ cc nL own ret) {i : Nat} {x : Int32} (d : decode cc pc = .ok (.istore i, 2)) (hi : lw_okS lv i = true) (lv2 : List (Option Value)) (hv2 : lv.set i (some (.int x)) = lv2) (kk : WS p l e R s m args below meth c κ n k sl Q st (pc + 2) lv2 (stk)) : WS p l e R s m args below meth c κ n k sl Q st pc lv (.int x :: stk) := fun hz H locs ls hW hS hl => lv_istore C.1.1 C.1.2.1 d (lw_has hl) (lw_okS_lt hi) rfl (fun ls2 h2 => kk hz H locs ls2 hW hS (hv2 ▸ lw_put1 (lw_okS_lt hi) (lw_okS_ok hi) h2))
theorem ws_astore_n (pc : Nat) (C : Cx p s m args meth c κ cc nL own ret) {i : Fin 4} {x : Nat} (d : decode cc pc = .ok (.astore_n i, 1)) (hi : lw_okS lv i.val = true) (lv2 : List (Option Value)) (hv2 : lv.set i.val (some (.ref x)) = lv2) (kk : WS p l e R s m args below meth c κ n k sl Q st (pc + 1) lv2 (stk)) : WS p l e R s m args below meth c κ n k sl Q st pc lv (.ref x :: stk) := fun hz H locs ls hW hS hl => lv_astore_n C.1.1 C.1.2.1 d rfl (lw_has hl) (lw_okS_lt hi) rfl (fun ls2 h2 => kk hz H locs ls2 hW hS (hv2 ▸ lw_put1 (lw_okS_lt hi) (lw_okS_ok hi) h2))
theorem ws_astore (pc : Nat) (C : Cx p s m args meth c κ cc nL own ret) {i : Nat} {x : Nat} (d : decode cc pc = .ok (.astore i, 2)) (hi : lw_okS lv i = true) (lv2 : List (Option Value)) (hv2 : lv.set i (some (.ref x)) = lv2) (kk : WS p l e R s m args below meth c κ n k sl Q st (pc + 2) lv2 (stk)) : WS p l e R s m args below meth c κ n k sl Q st pc lv (.ref x :: stk) := fun hz H locs ls hW hS hl => lv_astore C.1.1 C.1.2.1 d (lw_has hl) (lw_okS_lt hi) rfl (fun ls2 h2 => kk hz H locs ls2 hW hS (hv2 ▸ lw_put1 (lw_okS_lt hi) (lw_okS_ok hi) h2))
theorem ws_lstore_n (pc : Nat) (C : Cx p s m args meth c κ cc nL own ret) {i : Fin 4} {x : Int64} (d : decode cc pc = .ok (.lstore_n i, 1)) (hi0 : Nat.ble (i.val + 2) lv.length = true) (ho : lw_ok1 lv i.val = true) (lv2 : List (Option Value)) (hv2 : (lv.set i.val (some (.long x))).set (i.val + 1) none = lv2) (kk : WS p l e R s m args below meth c κ n k sl Q st (pc + 1) lv2 (stk)) : WS p l e R s m args below meth c κ n k sl Q st pc lv (.long x :: stk) := fun hz H locs ls hW hS hl => lv_lstore_n C.1.1 C.1.2.1 d rfl (lw_has hl) (Nat.le_of_ble_eq_true hi0) rfl (fun ls2 h2 => kk hz H locs ls2 hW hS (hv2 ▸ lw_put2 (Nat.le_of_ble_eq_true hi0) ho h2))
theorem ws_lstore (pc : Nat) (C : Cx p s m args meth c κ cc nL own ret) {i : Nat} {x : Int64} (d : decode cc pc = .ok (.lstore i, 2)) (hi0 : Nat.ble (i + 2) lv.length = true) (ho : lw_ok1 lv i = true) (lv2 : List (Option Value)) (hv2 : (lv.set i (some (.long x))).set (i + 1) none = lv2) (kk : WS p l e R s m args below meth c κ n k sl Q st (pc + 2) lv2 (stk)) : WS p l e R s m args below meth c κ n k sl Q st pc lv (.long x :: stk) := fun hz H locs ls hW hS hl => lv_lstore C.1.1 C.1.2.1 d (lw_has hl) (Nat.le_of_ble_eq_true hi0) rfl (fun ls2 h2 => kk hz H locs ls2 hW hS (hv2 ▸ lw_put2 (Nat.le_of_ble_eq_true hi0) ho h2))
theorem ws_iinc (pc : Nat) (C : Cx p s m args meth c κ cc nL own ret) {i : Nat} {z : Int} {x : Int32} (d : decode cc pc = .ok (.iinc i z, 3)) (h : lv[i]? = some (some (.int x))) (v : Int32) (hv : x + Int32.ofInt z = v) (hi : lw_okS lv i = true) (lv2 : List (Option Value)) (hv2 : lv.set i (some (.int v)) = lv2) (kk : WS p l e R s m args below meth c κ n k sl Q st (pc + 3) lv2 stk) : WS p l e R s m args below meth c κ n k sl Q st pc lv stk := fun hz H locs ls hW hS hl => by
  obtain ⟨j, hj⟩ := List.getElem?_of_mem (lw_ps_mem.mpr h)
  exact lv_iinc C.1.1 C.1.2.1 d (lw_has hl) hj hv (lw_okS_lt hi) rfl (fun ls2 h2 => kk hz H locs ls2 hW hS (hv2 ▸ lw_put1 (lw_okS_lt hi) (lw_okS_ok hi) h2))
theorem ws_iadd (pc : Nat) (C : Cx p s m args meth c κ cc nL own ret) {x y : Int32} (d : decode cc pc = .ok (.iadd, 1)) (v : Int32) (hv : x + y = v) (kk : WS p l e R s m args below meth c κ n k sl Q st (pc + 1) lv (.int v :: stk)) : WS p l e R s m args below meth c κ n k sl Q st pc lv (.int y :: .int x :: stk) := fun hz H locs ls hW hS hl => lv_iadd C.1.1 C.1.2.1 d (hv ▸ kk hz H locs ls hW hS hl)
theorem ws_isub (pc : Nat) (C : Cx p s m args meth c κ cc nL own ret) {x y : Int32} (d : decode cc pc = .ok (.isub, 1)) (v : Int32) (hv : x - y = v) (kk : WS p l e R s m args below meth c κ n k sl Q st (pc + 1) lv (.int v :: stk)) : WS p l e R s m args below meth c κ n k sl Q st pc lv (.int y :: .int x :: stk) := fun hz H locs ls hW hS hl => lv_isub C.1.1 C.1.2.1 d (hv ▸ kk hz H locs ls hW hS hl)
theorem ws_imul (pc : Nat) (C : Cx p s m args meth c κ cc nL own ret) {x y : Int32} (d : decode cc pc = .ok (.imul, 1)) (v : Int32) (hv : x * y = v) (kk : WS p l e R s m args below meth c κ n k sl Q st (pc + 1) lv (.int v :: stk)) : WS p l e R s m args below meth c κ n k sl Q st pc lv (.int y :: .int x :: stk) := fun hz H locs ls hW hS hl => lv_imul C.1.1 C.1.2.1 d (hv ▸ kk hz H locs ls hW hS hl)
theorem ws_iand (pc : Nat) (C : Cx p s m args meth c κ cc nL own ret) {x y : Int32} (d : decode cc pc = .ok (.iand, 1)) (v : Int32) (hv : x &&& y = v) (kk : WS p l e R s m args below meth c κ n k sl Q st (pc + 1) lv (.int v :: stk)) : WS p l e R s m args below meth c κ n k sl Q st pc lv (.int y :: .int x :: stk) := fun hz H locs ls hW hS hl => lv_iand C.1.1 C.1.2.1 d (hv ▸ kk hz H locs ls hW hS hl)
theorem ws_ior (pc : Nat) (C : Cx p s m args meth c κ cc nL own ret) {x y : Int32} (d : decode cc pc = .ok (.ior, 1)) (v : Int32) (hv : x ||| y = v) (kk : WS p l e R s m args below meth c κ n k sl Q st (pc + 1) lv (.int v :: stk)) : WS p l e R s m args below meth c κ n k sl Q st pc lv (.int y :: .int x :: stk) := fun hz H locs ls hW hS hl => lv_ior C.1.1 C.1.2.1 d (hv ▸ kk hz H locs ls hW hS hl)
theorem ws_idiv (pc : Nat) (C : Cx p s m args meth c κ cc nL own ret) {x y : Int32} (d : decode cc pc = .ok (.idiv, 1)) (hne : ¬ y = 0) (v : Int32) (hv : x / y = v) (kk : WS p l e R s m args below meth c κ n k sl Q st (pc + 1) lv (.int v :: stk)) : WS p l e R s m args below meth c κ n k sl Q st pc lv (.int y :: .int x :: stk) := fun hz H locs ls hW hS hl => lv_idiv C.1.1 C.1.2.1 d hne (hv ▸ kk hz H locs ls hW hS hl)
theorem ws_irem (pc : Nat) (C : Cx p s m args meth c κ cc nL own ret) {x y : Int32} (d : decode cc pc = .ok (.irem, 1)) (hne : ¬ y = 0) (v : Int32) (hv : x - x / y * y = v) (kk : WS p l e R s m args below meth c κ n k sl Q st (pc + 1) lv (.int v :: stk)) : WS p l e R s m args below meth c κ n k sl Q st pc lv (.int y :: .int x :: stk) := fun hz H locs ls hW hS hl => lv_irem C.1.1 C.1.2.1 d hne (hv ▸ kk hz H locs ls hW hS hl)
theorem ws_ishl (pc : Nat) (C : Cx p s m args meth c κ cc nL own ret) {x y : Int32} (d : decode cc pc = .ok (.ishl, 1)) (v : Int32) (hv : x <<< (y &&& 31) = v) (kk : WS p l e R s m args below meth c κ n k sl Q st (pc + 1) lv (.int v :: stk)) : WS p l e R s m args below meth c κ n k sl Q st pc lv (.int y :: .int x :: stk) := fun hz H locs ls hW hS hl => lv_ishl C.1.1 C.1.2.1 d (hv ▸ kk hz H locs ls hW hS hl)
theorem ws_land (pc : Nat) (C : Cx p s m args meth c κ cc nL own ret) {x y : Int64} (d : decode cc pc = .ok (.land, 1)) (v : Int64) (hv : x &&& y = v) (kk : WS p l e R s m args below meth c κ n k sl Q st (pc + 1) lv (.long v :: stk)) : WS p l e R s m args below meth c κ n k sl Q st pc lv (.long y :: .long x :: stk) := fun hz H locs ls hW hS hl => lv_land C.1.1 C.1.2.1 d (hv ▸ kk hz H locs ls hW hS hl)
theorem ws_lor (pc : Nat) (C : Cx p s m args meth c κ cc nL own ret) {x y : Int64} (d : decode cc pc = .ok (.lor, 1)) (v : Int64) (hv : x ||| y = v) (kk : WS p l e R s m args below meth c κ n k sl Q st (pc + 1) lv (.long v :: stk)) : WS p l e R s m args below meth c κ n k sl Q st pc lv (.long y :: .long x :: stk) := fun hz H locs ls hW hS hl => lv_lor C.1.1 C.1.2.1 d (hv ▸ kk hz H locs ls hW hS hl)
theorem ws_lsub (pc : Nat) (C : Cx p s m args meth c κ cc nL own ret) {x y : Int64} (d : decode cc pc = .ok (.lsub, 1)) (v : Int64) (hv : x - y = v) (kk : WS p l e R s m args below meth c κ n k sl Q st (pc + 1) lv (.long v :: stk)) : WS p l e R s m args below meth c κ n k sl Q st pc lv (.long y :: .long x :: stk) := fun hz H locs ls hW hS hl => lv_lsub C.1.1 C.1.2.1 d (hv ▸ kk hz H locs ls hW hS hl)
theorem ws_lushr (pc : Nat) (C : Cx p s m args meth c κ cc nL own ret) {x : Int64} {y : Int32} (d : decode cc pc = .ok (.lushr, 1)) (v : Int64) (hv : (x.toUInt64 >>> (y.toInt64.toUInt64 &&& Int64.toUInt64 63)).toInt64 = v) (kk : WS p l e R s m args below meth c κ n k sl Q st (pc + 1) lv (.long v :: stk)) : WS p l e R s m args below meth c κ n k sl Q st pc lv (.int y :: .long x :: stk) := fun hz H locs ls hW hS hl => lv_lushr C.1.1 C.1.2.1 d hv (kk hz H locs ls hW hS hl)
theorem ws_lshl (pc : Nat) (C : Cx p s m args meth c κ cc nL own ret) {x : Int64} {y : Int32} (d : decode cc pc = .ok (.lshl, 1)) (v : Int64) (hv : x <<< (y.toInt64 &&& 63) = v) (kk : WS p l e R s m args below meth c κ n k sl Q st (pc + 1) lv (.long v :: stk)) : WS p l e R s m args below meth c κ n k sl Q st pc lv (.int y :: .long x :: stk) := fun hz H locs ls hW hS hl => lv_lshl C.1.1 C.1.2.1 d hv (kk hz H locs ls hW hS hl)
theorem ws_i2l (pc : Nat) (C : Cx p s m args meth c κ cc nL own ret) {x : Int32} (d : decode cc pc = .ok (.i2l, 1)) (v : Int64) (hv : x.toInt64 = v) (kk : WS p l e R s m args below meth c κ n k sl Q st (pc + 1) lv (.long v :: stk)) : WS p l e R s m args below meth c κ n k sl Q st pc lv (.int x :: stk) := fun hz H locs ls hW hS hl => lv_i2l C.1.1 C.1.2.1 d hv (kk hz H locs ls hW hS hl)
theorem ws_l2i (pc : Nat) (C : Cx p s m args meth c κ cc nL own ret) {x : Int64} (d : decode cc pc = .ok (.l2i, 1)) (v : Int32) (hv : x.toInt32 = v) (kk : WS p l e R s m args below meth c κ n k sl Q st (pc + 1) lv (.int v :: stk)) : WS p l e R s m args below meth c κ n k sl Q st pc lv (.long x :: stk) := fun hz H locs ls hW hS hl => lv_l2i C.1.1 C.1.2.1 d hv (kk hz H locs ls hW hS hl)
theorem ws_i2c (pc : Nat) (C : Cx p s m args meth c κ cc nL own ret) {x : Int32} (d : decode cc pc = .ok (.i2c, 1)) (v : Int32) (hv : (x.toUInt32 % 65536).toInt32 = v) (kk : WS p l e R s m args below meth c κ n k sl Q st (pc + 1) lv (.int v :: stk)) : WS p l e R s m args below meth c κ n k sl Q st pc lv (.int x :: stk) := fun hz H locs ls hW hS hl => lv_i2c C.1.1 C.1.2.1 d hv (kk hz H locs ls hW hS hl)
theorem ws_lcmp (pc : Nat) (C : Cx p s m args meth c κ cc nL own ret) {x y : Int64} (d : decode cc pc = .ok (.lcmp, 1)) (v : Int32) (hv : lg_cmp x y = v) (kk : WS p l e R s m args below meth c κ n k sl Q st (pc + 1) lv (.int v :: stk)) : WS p l e R s m args below meth c κ n k sl Q st pc lv (.long y :: .long x :: stk) := fun hz H locs ls hW hS hl => W.lcmp C.1.1 C.1.2.1 d (hv ▸ kk hz H locs ls hW hS hl)
theorem ws_dup (pc : Nat) (C : Cx p s m args meth c κ cc nL own ret) {v : Value} (d : decode cc pc = .ok (.dup, 1)) (hc : v.category = 1) (kk : WS p l e R s m args below meth c κ n k sl Q st (pc + 1) lv (v :: v :: stk)) : WS p l e R s m args below meth c κ n k sl Q st pc lv (v :: stk) := fun hz H locs ls hW hS hl => lv_dup C.1.1 C.1.2.1 d hc (kk hz H locs ls hW hS hl)
theorem ws_dup2 (pc : Nat) (C : Cx p s m args meth c κ cc nL own ret) {v u : Value} (d : decode cc pc = .ok (.dup2, 1)) (hc : v.category = 1) (hc2 : u.category = 1) (kk : WS p l e R s m args below meth c κ n k sl Q st (pc + 1) lv (v :: u :: v :: u :: stk)) : WS p l e R s m args below meth c κ n k sl Q st pc lv (v :: u :: stk) := fun hz H locs ls hW hS hl => lv_dup2_11 C.1.1 C.1.2.1 d hc hc2 (kk hz H locs ls hW hS hl)
theorem ws_pop (pc : Nat) (C : Cx p s m args meth c κ cc nL own ret) {v : Value} (d : decode cc pc = .ok (.pop, 1)) (hc : v.category = 1) (kk : WS p l e R s m args below meth c κ n k sl Q st (pc + 1) lv (stk)) : WS p l e R s m args below meth c κ n k sl Q st pc lv (v :: stk) := fun hz H locs ls hW hS hl => lv_pop C.1.1 C.1.2.1 d hc (kk hz H locs ls hW hS hl)
theorem ws_if_eq (pc : Nat) (C : Cx p s m args meth c κ cc nL own ret) {x : Int32} {off : Int} (tgt : Nat) (d : decode cc pc = .ok (.ifCond .eq off, 3)) (ht : (pc : Int) + off = (tgt : Int)) (kt : x = 0 → WS p l e R s m args below meth c κ n k sl Q st tgt lv stk) (kf : ¬ x = 0 → WS p l e R s m args below meth c κ n k sl Q st (pc + 3) lv stk) : WS p l e R s m args below meth c κ n k sl Q st pc lv (.int x :: stk) := fun hz H locs ls hW hS hl => lv_if_eq C.1.1 C.1.2.1 d ht (fun z => kt z hz H locs ls hW hS hl) (fun z => kf z hz H locs ls hW hS hl)
theorem ws_icmp_eq (pc : Nat) (C : Cx p s m args meth c κ cc nL own ret) {x y : Int32} {off : Int} (tgt : Nat) (d : decode cc pc = .ok (.if_icmp .eq off, 3)) (ht : (pc : Int) + off = (tgt : Int)) (kt : x = y → WS p l e R s m args below meth c κ n k sl Q st tgt lv stk) (kf : ¬ x = y → WS p l e R s m args below meth c κ n k sl Q st (pc + 3) lv stk) : WS p l e R s m args below meth c κ n k sl Q st pc lv (.int y :: .int x :: stk) := fun hz H locs ls hW hS hl => lv_icmp_eq C.1.1 C.1.2.1 d ht (fun z => kt z hz H locs ls hW hS hl) (fun z => kf z hz H locs ls hW hS hl)
theorem ws_if_ne (pc : Nat) (C : Cx p s m args meth c κ cc nL own ret) {x : Int32} {off : Int} (tgt : Nat) (d : decode cc pc = .ok (.ifCond .ne off, 3)) (ht : (pc : Int) + off = (tgt : Int)) (kt : ¬ x = 0 → WS p l e R s m args below meth c κ n k sl Q st tgt lv stk) (kf : x = 0 → WS p l e R s m args below meth c κ n k sl Q st (pc + 3) lv stk) : WS p l e R s m args below meth c κ n k sl Q st pc lv (.int x :: stk) := fun hz H locs ls hW hS hl => lv_if_ne C.1.1 C.1.2.1 d ht (fun z => kt z hz H locs ls hW hS hl) (fun z => kf z hz H locs ls hW hS hl)
theorem ws_icmp_ne (pc : Nat) (C : Cx p s m args meth c κ cc nL own ret) {x y : Int32} {off : Int} (tgt : Nat) (d : decode cc pc = .ok (.if_icmp .ne off, 3)) (ht : (pc : Int) + off = (tgt : Int)) (kt : ¬ x = y → WS p l e R s m args below meth c κ n k sl Q st tgt lv stk) (kf : x = y → WS p l e R s m args below meth c κ n k sl Q st (pc + 3) lv stk) : WS p l e R s m args below meth c κ n k sl Q st pc lv (.int y :: .int x :: stk) := fun hz H locs ls hW hS hl => lv_icmp_ne C.1.1 C.1.2.1 d ht (fun z => kt z hz H locs ls hW hS hl) (fun z => kf z hz H locs ls hW hS hl)
theorem ws_if_lt (pc : Nat) (C : Cx p s m args meth c κ cc nL own ret) {x : Int32} {off : Int} (tgt : Nat) (d : decode cc pc = .ok (.ifCond .lt off, 3)) (ht : (pc : Int) + off = (tgt : Int)) (kt : x < 0 → WS p l e R s m args below meth c κ n k sl Q st tgt lv stk) (kf : ¬ x < 0 → WS p l e R s m args below meth c κ n k sl Q st (pc + 3) lv stk) : WS p l e R s m args below meth c κ n k sl Q st pc lv (.int x :: stk) := fun hz H locs ls hW hS hl => lv_if_lt C.1.1 C.1.2.1 d ht (fun z => kt z hz H locs ls hW hS hl) (fun z => kf z hz H locs ls hW hS hl)
theorem ws_icmp_lt (pc : Nat) (C : Cx p s m args meth c κ cc nL own ret) {x y : Int32} {off : Int} (tgt : Nat) (d : decode cc pc = .ok (.if_icmp .lt off, 3)) (ht : (pc : Int) + off = (tgt : Int)) (kt : x < y → WS p l e R s m args below meth c κ n k sl Q st tgt lv stk) (kf : ¬ x < y → WS p l e R s m args below meth c κ n k sl Q st (pc + 3) lv stk) : WS p l e R s m args below meth c κ n k sl Q st pc lv (.int y :: .int x :: stk) := fun hz H locs ls hW hS hl => lv_icmp_lt C.1.1 C.1.2.1 d ht (fun z => kt z hz H locs ls hW hS hl) (fun z => kf z hz H locs ls hW hS hl)
theorem ws_if_ge (pc : Nat) (C : Cx p s m args meth c κ cc nL own ret) {x : Int32} {off : Int} (tgt : Nat) (d : decode cc pc = .ok (.ifCond .ge off, 3)) (ht : (pc : Int) + off = (tgt : Int)) (kt : 0 ≤ x → WS p l e R s m args below meth c κ n k sl Q st tgt lv stk) (kf : ¬ 0 ≤ x → WS p l e R s m args below meth c κ n k sl Q st (pc + 3) lv stk) : WS p l e R s m args below meth c κ n k sl Q st pc lv (.int x :: stk) := fun hz H locs ls hW hS hl => lv_if_ge C.1.1 C.1.2.1 d ht (fun z => kt z hz H locs ls hW hS hl) (fun z => kf z hz H locs ls hW hS hl)
theorem ws_icmp_ge (pc : Nat) (C : Cx p s m args meth c κ cc nL own ret) {x y : Int32} {off : Int} (tgt : Nat) (d : decode cc pc = .ok (.if_icmp .ge off, 3)) (ht : (pc : Int) + off = (tgt : Int)) (kt : y ≤ x → WS p l e R s m args below meth c κ n k sl Q st tgt lv stk) (kf : ¬ y ≤ x → WS p l e R s m args below meth c κ n k sl Q st (pc + 3) lv stk) : WS p l e R s m args below meth c κ n k sl Q st pc lv (.int y :: .int x :: stk) := fun hz H locs ls hW hS hl => lv_icmp_ge C.1.1 C.1.2.1 d ht (fun z => kt z hz H locs ls hW hS hl) (fun z => kf z hz H locs ls hW hS hl)
theorem ws_if_gt (pc : Nat) (C : Cx p s m args meth c κ cc nL own ret) {x : Int32} {off : Int} (tgt : Nat) (d : decode cc pc = .ok (.ifCond .gt off, 3)) (ht : (pc : Int) + off = (tgt : Int)) (kt : 0 < x → WS p l e R s m args below meth c κ n k sl Q st tgt lv stk) (kf : ¬ 0 < x → WS p l e R s m args below meth c κ n k sl Q st (pc + 3) lv stk) : WS p l e R s m args below meth c κ n k sl Q st pc lv (.int x :: stk) := fun hz H locs ls hW hS hl => lv_if_gt C.1.1 C.1.2.1 d ht (fun z => kt z hz H locs ls hW hS hl) (fun z => kf z hz H locs ls hW hS hl)
theorem ws_icmp_gt (pc : Nat) (C : Cx p s m args meth c κ cc nL own ret) {x y : Int32} {off : Int} (tgt : Nat) (d : decode cc pc = .ok (.if_icmp .gt off, 3)) (ht : (pc : Int) + off = (tgt : Int)) (kt : y < x → WS p l e R s m args below meth c κ n k sl Q st tgt lv stk) (kf : ¬ y < x → WS p l e R s m args below meth c κ n k sl Q st (pc + 3) lv stk) : WS p l e R s m args below meth c κ n k sl Q st pc lv (.int y :: .int x :: stk) := fun hz H locs ls hW hS hl => lv_icmp_gt C.1.1 C.1.2.1 d ht (fun z => kt z hz H locs ls hW hS hl) (fun z => kf z hz H locs ls hW hS hl)
theorem ws_if_le (pc : Nat) (C : Cx p s m args meth c κ cc nL own ret) {x : Int32} {off : Int} (tgt : Nat) (d : decode cc pc = .ok (.ifCond .le off, 3)) (ht : (pc : Int) + off = (tgt : Int)) (kt : x ≤ 0 → WS p l e R s m args below meth c κ n k sl Q st tgt lv stk) (kf : ¬ x ≤ 0 → WS p l e R s m args below meth c κ n k sl Q st (pc + 3) lv stk) : WS p l e R s m args below meth c κ n k sl Q st pc lv (.int x :: stk) := fun hz H locs ls hW hS hl => lv_if_le C.1.1 C.1.2.1 d ht (fun z => kt z hz H locs ls hW hS hl) (fun z => kf z hz H locs ls hW hS hl)
theorem ws_icmp_le (pc : Nat) (C : Cx p s m args meth c κ cc nL own ret) {x y : Int32} {off : Int} (tgt : Nat) (d : decode cc pc = .ok (.if_icmp .le off, 3)) (ht : (pc : Int) + off = (tgt : Int)) (kt : x ≤ y → WS p l e R s m args below meth c κ n k sl Q st tgt lv stk) (kf : ¬ x ≤ y → WS p l e R s m args below meth c κ n k sl Q st (pc + 3) lv stk) : WS p l e R s m args below meth c κ n k sl Q st pc lv (.int y :: .int x :: stk) := fun hz H locs ls hW hS hl => lv_icmp_le C.1.1 C.1.2.1 d ht (fun z => kt z hz H locs ls hW hS hl) (fun z => kf z hz H locs ls hW hS hl)
theorem ws_nicmp_eq (pc : Nat) (C : Cx p s m args meth c κ cc nL own ret) {a b : Nat} {off : Int} (tgt : Nat) (d : decode cc pc = .ok (.if_icmp .eq off, 3)) (ht : (pc : Int) + off = (tgt : Int)) (ha : a < 2 ^ 31) (hb : b < 2 ^ 31) (kt : a = b → WS p l e R s m args below meth c κ n k sl Q st tgt lv stk) (kf : ¬ a = b → WS p l e R s m args below meth c κ n k sl Q st (pc + 3) lv stk) : WS p l e R s m args below meth c κ n k sl Q st pc lv (.int (nI b) :: .int (nI a) :: stk) := ws_icmp_eq pc C tgt d ht (fun z => kt ((nI_eq ha hb).mp z)) (fun z => kf (fun q => z ((nI_eq ha hb).mpr q)))
theorem ws_nicmp_ne (pc : Nat) (C : Cx p s m args meth c κ cc nL own ret) {a b : Nat} {off : Int} (tgt : Nat) (d : decode cc pc = .ok (.if_icmp .ne off, 3)) (ht : (pc : Int) + off = (tgt : Int)) (ha : a < 2 ^ 31) (hb : b < 2 ^ 31) (kt : ¬ a = b → WS p l e R s m args below meth c κ n k sl Q st tgt lv stk) (kf : a = b → WS p l e R s m args below meth c κ n k sl Q st (pc + 3) lv stk) : WS p l e R s m args below meth c κ n k sl Q st pc lv (.int (nI b) :: .int (nI a) :: stk) := ws_icmp_ne pc C tgt d ht (fun z => kt (fun q => z ((nI_eq ha hb).mpr q))) (fun z => kf ((nI_eq ha hb).mp z))
theorem ws_nicmp_lt (pc : Nat) (C : Cx p s m args meth c κ cc nL own ret) {a b : Nat} {off : Int} (tgt : Nat) (d : decode cc pc = .ok (.if_icmp .lt off, 3)) (ht : (pc : Int) + off = (tgt : Int)) (ha : a < 2 ^ 31) (hb : b < 2 ^ 31) (kt : a < b → WS p l e R s m args below meth c κ n k sl Q st tgt lv stk) (kf : b ≤ a → WS p l e R s m args below meth c κ n k sl Q st (pc + 3) lv stk) : WS p l e R s m args below meth c κ n k sl Q st pc lv (.int (nI b) :: .int (nI a) :: stk) := ws_icmp_lt pc C tgt d ht (fun z => kt ((nI_ltI ha hb).mp z)) (fun z => kf (Nat.not_lt.mp (fun q => z ((nI_ltI ha hb).mpr q))))
theorem ws_nicmp_ge (pc : Nat) (C : Cx p s m args meth c κ cc nL own ret) {a b : Nat} {off : Int} (tgt : Nat) (d : decode cc pc = .ok (.if_icmp .ge off, 3)) (ht : (pc : Int) + off = (tgt : Int)) (ha : a < 2 ^ 31) (hb : b < 2 ^ 31) (kt : b ≤ a → WS p l e R s m args below meth c κ n k sl Q st tgt lv stk) (kf : a < b → WS p l e R s m args below meth c κ n k sl Q st (pc + 3) lv stk) : WS p l e R s m args below meth c κ n k sl Q st pc lv (.int (nI b) :: .int (nI a) :: stk) := ws_icmp_ge pc C tgt d ht (fun z => kt ((nI_leI hb ha).mp z)) (fun z => kf (Nat.not_le.mp (fun q => z ((nI_leI hb ha).mpr q))))
theorem ws_nicmp_gt (pc : Nat) (C : Cx p s m args meth c κ cc nL own ret) {a b : Nat} {off : Int} (tgt : Nat) (d : decode cc pc = .ok (.if_icmp .gt off, 3)) (ht : (pc : Int) + off = (tgt : Int)) (ha : a < 2 ^ 31) (hb : b < 2 ^ 31) (kt : b < a → WS p l e R s m args below meth c κ n k sl Q st tgt lv stk) (kf : a ≤ b → WS p l e R s m args below meth c κ n k sl Q st (pc + 3) lv stk) : WS p l e R s m args below meth c κ n k sl Q st pc lv (.int (nI b) :: .int (nI a) :: stk) := ws_icmp_gt pc C tgt d ht (fun z => kt ((nI_ltI hb ha).mp z)) (fun z => kf (Nat.not_lt.mp (fun q => z ((nI_ltI hb ha).mpr q))))
theorem ws_nicmp_le (pc : Nat) (C : Cx p s m args meth c κ cc nL own ret) {a b : Nat} {off : Int} (tgt : Nat) (d : decode cc pc = .ok (.if_icmp .le off, 3)) (ht : (pc : Int) + off = (tgt : Int)) (ha : a < 2 ^ 31) (hb : b < 2 ^ 31) (kt : a ≤ b → WS p l e R s m args below meth c κ n k sl Q st tgt lv stk) (kf : b < a → WS p l e R s m args below meth c κ n k sl Q st (pc + 3) lv stk) : WS p l e R s m args below meth c κ n k sl Q st pc lv (.int (nI b) :: .int (nI a) :: stk) := ws_icmp_le pc C tgt d ht (fun z => kt ((nI_leI ha hb).mp z)) (fun z => kf (Nat.not_le.mp (fun q => z ((nI_leI ha hb).mpr q))))
theorem ws_nif_eq (pc : Nat) (C : Cx p s m args meth c κ cc nL own ret) {a : Nat} {off : Int} (tgt : Nat) (d : decode cc pc = .ok (.ifCond .eq off, 3)) (ht : (pc : Int) + off = (tgt : Int)) (ha : a < 2 ^ 31) (kt : a = 0 → WS p l e R s m args below meth c κ n k sl Q st tgt lv stk) (kf : ¬ a = 0 → WS p l e R s m args below meth c κ n k sl Q st (pc + 3) lv stk) : WS p l e R s m args below meth c κ n k sl Q st pc lv (.int (nI a) :: stk) := ws_if_eq pc C tgt d ht (fun z => kt ((nI_eq ha (by decide : 0 < 2 ^ 31)).mp z)) (fun z => kf (fun q => z ((nI_eq ha (by decide : 0 < 2 ^ 31)).mpr q)))
theorem ws_nif_ne (pc : Nat) (C : Cx p s m args meth c κ cc nL own ret) {a : Nat} {off : Int} (tgt : Nat) (d : decode cc pc = .ok (.ifCond .ne off, 3)) (ht : (pc : Int) + off = (tgt : Int)) (ha : a < 2 ^ 31) (kt : ¬ a = 0 → WS p l e R s m args below meth c κ n k sl Q st tgt lv stk) (kf : a = 0 → WS p l e R s m args below meth c κ n k sl Q st (pc + 3) lv stk) : WS p l e R s m args below meth c κ n k sl Q st pc lv (.int (nI a) :: stk) := ws_if_ne pc C tgt d ht (fun z => kt (fun q => z ((nI_eq ha (by decide : 0 < 2 ^ 31)).mpr q))) (fun z => kf ((nI_eq ha (by decide : 0 < 2 ^ 31)).mp z))
theorem ws_nif_lt (pc : Nat) (C : Cx p s m args meth c κ cc nL own ret) {a : Nat} {off : Int} (tgt : Nat) (d : decode cc pc = .ok (.ifCond .lt off, 3)) (ht : (pc : Int) + off = (tgt : Int)) (ha : a < 2 ^ 31) (kk : WS p l e R s m args below meth c κ n k sl Q st (pc + 3) lv stk) : WS p l e R s m args below meth c κ n k sl Q st pc lv (.int (nI a) :: stk) := ws_if_lt pc C tgt d ht (fun z => absurd z (nI_pos ha)) (fun _ => kk)
theorem ws_nif_ge (pc : Nat) (C : Cx p s m args meth c κ cc nL own ret) {a : Nat} {off : Int} (tgt : Nat) (d : decode cc pc = .ok (.ifCond .ge off, 3)) (ht : (pc : Int) + off = (tgt : Int)) (ha : a < 2 ^ 31) (kk : WS p l e R s m args below meth c κ n k sl Q st tgt lv stk) : WS p l e R s m args below meth c κ n k sl Q st pc lv (.int (nI a) :: stk) := ws_if_ge pc C tgt d ht (fun _ => kk) (fun z => absurd (nI_pos' ha) z)
theorem ws_nif_le (pc : Nat) (C : Cx p s m args meth c κ cc nL own ret) {a : Nat} {off : Int} (tgt : Nat) (d : decode cc pc = .ok (.ifCond .le off, 3)) (ht : (pc : Int) + off = (tgt : Int)) (ha : a < 2 ^ 31) (kt : a = 0 → WS p l e R s m args below meth c κ n k sl Q st tgt lv stk) (kf : 0 < a → WS p l e R s m args below meth c κ n k sl Q st (pc + 3) lv stk) : WS p l e R s m args below meth c κ n k sl Q st pc lv (.int (nI a) :: stk) := ws_if_le pc C tgt d ht (fun z => kt (Nat.eq_zero_of_not_pos (fun q => nI_nle q ha z))) (fun z => kf (Nat.pos_of_ne_zero (fun q => z (by subst q; decide))))
theorem ws_nif_gt (pc : Nat) (C : Cx p s m args meth c κ cc nL own ret) {a : Nat} {off : Int} (tgt : Nat) (d : decode cc pc = .ok (.ifCond .gt off, 3)) (ht : (pc : Int) + off = (tgt : Int)) (ha : a < 2 ^ 31) (kt : 0 < a → WS p l e R s m args below meth c κ n k sl Q st tgt lv stk) (kf : a = 0 → WS p l e R s m args below meth c κ n k sl Q st (pc + 3) lv stk) : WS p l e R s m args below meth c κ n k sl Q st pc lv (.int (nI a) :: stk) := ws_if_gt pc C tgt d ht (fun z => kt (Nat.pos_of_ne_zero (fun q => absurd z (by subst q; decide)))) (fun z => kf (Nat.eq_zero_of_not_pos (fun q => z (nI_lt (a := 0) q ha))))
theorem ws_goto (pc : Nat) (C : Cx p s m args meth c κ cc nL own ret) {off : Int} (tgt : Nat) (d : decode cc pc = .ok (.goto off, 3)) (ht : (pc : Int) + off = (tgt : Int)) (kk : WS p l e R s m args below meth c κ n k sl Q st tgt lv stk) : WS p l e R s m args below meth c κ n k sl Q st pc lv stk := fun hz H locs ls hW hS hl => lv_goto C.1.1 C.1.2.1 d ht (kk hz H locs ls hW hS hl)
theorem ws_tin (pc : Nat) (C : Cx p s m args meth c κ cc nL own ret) {dflt lo hi : Int} {offs : Array Int} {len : Nat} {x : Int32} (d : decode cc pc = .ok (.tableswitch dflt lo hi offs, len)) (v : Int) (off : Int) (tgt : Nat) (hx : x.toInt = v) (h1 : ¬ v < lo) (h2 : ¬ hi < v) (ho : offs[(v - lo).toNat]? = some off) (ht : (pc : Int) + off = (tgt : Int)) (kk : WS p l e R s m args below meth c κ n k sl Q st tgt lv stk) : WS p l e R s m args below meth c κ n k sl Q st pc lv (.int x :: stk) := fun hz H locs ls hW hS hl => lv_tableIn C.1.1 C.1.2.1 d (by rw [hx]; exact h1) (by rw [hx]; exact h2) (by rw [hx]; exact ho) ht (kk hz H locs ls hW hS hl)
theorem ws_tout (pc : Nat) (C : Cx p s m args meth c κ cc nL own ret) {dflt lo hi : Int} {offs : Array Int} {len : Nat} {x : Int32} (d : decode cc pc = .ok (.tableswitch dflt lo hi offs, len)) (tgt : Nat) (h : x.toInt < lo ∨ hi < x.toInt) (ht : (pc : Int) + dflt = (tgt : Int)) (kk : WS p l e R s m args below meth c κ n k sl Q st tgt lv stk) : WS p l e R s m args below meth c κ n k sl Q st pc lv (.int x :: stk) := fun hz H locs ls hW hS hl => lv_tableOut C.1.1 C.1.2.1 d h ht (kk hz H locs ls hW hS hl)
theorem ws_lsw (pc : Nat) (C : Cx p s m args meth c κ cc nL own ret) {dflt : Int} {ps : Array (Int × Int)} {len : Nat} {x : Int32} (d : decode cc pc = .ok (.lookupswitch dflt ps, len)) (off : Int) (tgt : Nat) (hp : (ps.toList.zip (ps.toList.drop 1)).all (fun (a, next) => a.1 < next.1) = true) (ho : Op.lookupswitch.offset ps.toList dflt x.toInt = off) (ht : (pc : Int) + off = (tgt : Int)) (kk : WS p l e R s m args below meth c κ n k sl Q st tgt lv stk) : WS p l e R s m args below meth c κ n k sl Q st pc lv (.int x :: stk) := fun hz H locs ls hW hS hl => lv_lookup C.1.1 C.1.2.1 d hp ho ht (kk hz H locs ls hW hS hl)
theorem ws_get (pc : Nat) (C : Cx p s m args meth c κ cc nL own ret) {idx ci j : Nat} {Cn : String} {T : u_T} {N b : Nat} {es : List va_E} {fs : List Value} {v : Value} (d : decode cc pc = .ok (.getfield idx, 3)) (K : LkF own idx ci j Cn T N) (B : Ob n st b es) (h0 : es[0]? = some (.inr (ci, fs))) (hv : fs[j]? = some v) (kk : WS p l e R s m args below meth c κ n k sl Q st (pc + 3) lv (v :: stk)) : WS p l e R s m args below meth c κ n k sl Q st pc lv (.ref (ad κ b) :: stk) := fun hz H locs ls hW hS hl =>
  va_get (D := kG κ) (cl := kcl) (tys := kty κ) (ws := SW κ n st) C.1.1 C.1.2.1 C.1.2.2.2.2 K.2.1 C.1.2.2.2.1 C.2.1.1 hW.2 b (by rw [SW_get (by have := B.lt h0; omega), show st b = .inr (ci, fs) from B.2 0 _ h0]) K.1 j K.2.2.1 (C.1.2.2.2.2 _ K.2.2.2) (fun _ z => z) hv d (kk hz H locs ls hW hS hl)
theorem ws_put (pc : Nat) (C : Cx p s m args meth c κ cc nL own ret) {idx ci j : Nat} {Cn : String} {T : u_T} {N b : Nat} {ty : Nat → FieldType} {t : FieldType} {es : List va_E} {fs : List Value} {v : Value} (d : decode cc pc = .ok (.putfield idx, 3)) (K : LkF own idx ci j Cn T N) (K2 : (∀ k, k < N → parseFieldDescriptor (T k).2.2.1 = some (ty k)) ∧ (∀ a, a < N → ∀ b, b < N → a ≠ b → (T a).2.1 ≠ (T b).2.1) ∧ (T j).2.2.2 = false ∧ parseFieldDescriptor (T j).2.2.1 = some t) (B : Ob n st b es) (h0 : es[0]? = some (.inr (ci, fs))) (hl0 : j < fs.length) (hn : narrow t v = v) (hf : fits t v = true) (kk : ∀ st2 : St, st2 = va_up st (b + 0) (.inr (ci, fs.set j v)) → WS p l e R s m args below meth c κ n k sl Q st2 (pc + 3) lv stk) : WS p l e R s m args below meth c κ n k sl Q st pc lv (v :: .ref (ad κ b) :: stk) := fun hz H locs ls hW hS hl => by
  have hb : b < n := by have := B.lt h0; omega
  refine va_put (D := kG κ) (cl := kcl) (tys := kty κ) (ws := SW κ n st) C.1.1 C.1.2.1 C.1.2.2.2.2 K.2.1 ty K2.1 K2.2.1 C.1.2.2.2.1 C.2.1.1 hW.2 SW_D hS b (by rw [SW_get hb, show st b = .inr (ci, fs) from B.2 0 _ h0]) K.1 j K.2.2.1 (C.1.2.2.2.2 _ K.2.2.2) (fun _ z => z) K2.2.2.1 K2.2.2.2 hn hf hl0 d (fun H1 locs1 hP1 hD1 hS1 => kk _ rfl hz H1 locs1 ls (C.put hb hP1 hS1) hS1 hl)
theorem ws_putF (pc : Nat) (C : Cx p s m args meth c κ cc nL own ret) {idx ci j : Nat} {Cn : String} {T : u_T} {N b : Nat} {ty : Nat → FieldType} {t : FieldType} {es : List va_E} {fs : List Value} {v : Value} (d : decode cc pc = .ok (.putfield idx, 3)) (K : LkF own idx ci j Cn T N) (K2 : (∀ k, k < N → parseFieldDescriptor (T k).2.2.1 = some (ty k)) ∧ (∀ a, a < N → ∀ b, b < N → a ≠ b → (T a).2.1 ≠ (T b).2.1) ∧ (T j).2.2.2 = true ∧ parseFieldDescriptor (T j).2.2.1 = some t) (hin : meth.name = "<init>") (hdecl : (T j).1 = own) (B : Ob n st b es) (h0 : es[0]? = some (.inr (ci, fs))) (hl0 : j < fs.length) (hn : narrow t v = v) (hf : fits t v = true) (kk : ∀ st2 : St, st2 = va_up st (b + 0) (.inr (ci, fs.set j v)) → WS p l e R s m args below meth c κ n k sl Q st2 (pc + 3) lv stk) : WS p l e R s m args below meth c κ n k sl Q st pc lv (v :: .ref (ad κ b) :: stk) := fun hz H locs ls hW hS hl => by
  have hb : b < n := by have := B.lt h0; omega
  refine va_putF (D := kG κ) (cl := kcl) (tys := kty κ) (ws := SW κ n st) C.1.1 C.1.2.1 C.1.2.2.2.2 K.2.1 ty K2.1 K2.2.1 C.1.2.2.2.1 C.2.1.1 hW.2 SW_D hS b (by rw [SW_get hb, show st b = .inr (ci, fs) from B.2 0 _ h0]) K.1 j K.2.2.1 (C.1.2.2.2.2 _ K.2.2.2) (fun _ z => z) K2.2.2.1 hin hdecl K2.2.2.2 hn hf hl0 d (fun H1 locs1 hP1 hD1 hS1 => kk _ rfl hz H1 locs1 ls (C.put hb hP1 hS1) hS1 hl)
theorem ws_iald (pc : Nat) (C : Cx p s m args meth c κ cc nL own ret) {b N : Nat} {es : List va_E} {f : Nat → Int32} {i : Int32} (d : decode cc pc = .ok (.iaload, 1)) (B : Ob n st b es) (j : Nat) (hj : es[j]? = some (.inl (kI κ, N, .inl f))) (hi : vp_in i N) (v : Int32) (hv : f i.toNatClampNeg = v) (kk : WS p l e R s m args below meth c κ n k sl Q st (pc + 1) lv (.int v :: stk)) : WS p l e R s m args below meth c κ n k sl Q st pc lv (.int i :: .ref (ad κ (b + j)) :: stk) := fun hz H locs ls hW hS hl => by
  subst hv
  exact va_iald (D := kG κ) (cl := kcl) (tys := kty κ) (ws := SW κ n st) C.1.1 C.1.2.1 C.2.1.1 hW.2 (b + j) 0 (by rw [SW_get (B.lt hj), B.2 j _ hj]) rfl hi d (kk hz H locs ls hW hS hl)
theorem ws_cald (pc : Nat) (C : Cx p s m args meth c κ cc nL own ret) {b N : Nat} {es : List va_E} {f : Nat → Int32} {i : Int32} (d : decode cc pc = .ok (.caload, 1)) (B : Ob n st b es) (j : Nat) (hj : es[j]? = some (.inl (kC κ, N, .inl f))) (hi : vp_in i N) (v : Int32) (hv : f i.toNatClampNeg = v) (kk : WS p l e R s m args below meth c κ n k sl Q st (pc + 1) lv (.int v :: stk)) : WS p l e R s m args below meth c κ n k sl Q st pc lv (.int i :: .ref (ad κ (b + j)) :: stk) := fun hz H locs ls hW hS hl => by
  subst hv
  exact va_cald (D := kG κ) (cl := kcl) (tys := kty κ) (ws := SW κ n st) C.1.1 C.1.2.1 C.2.1.1 hW.2 (b + j) 1 (by rw [SW_get (B.lt hj), B.2 j _ hj]) rfl hi d (kk hz H locs ls hW hS hl)
theorem ws_zald (pc : Nat) (C : Cx p s m args meth c κ cc nL own ret) {b N : Nat} {es : List va_E} {f : Nat → Int32} {i : Int32} (d : decode cc pc = .ok (.baload, 1)) (B : Ob n st b es) (j : Nat) (hj : es[j]? = some (.inl (kZ κ, N, .inl f))) (hi : vp_in i N) (v : Int32) (hv : f i.toNatClampNeg = v) (kk : WS p l e R s m args below meth c κ n k sl Q st (pc + 1) lv (.int v :: stk)) : WS p l e R s m args below meth c κ n k sl Q st pc lv (.int i :: .ref (ad κ (b + j)) :: stk) := fun hz H locs ls hW hS hl => by
  subst hv
  exact va_zald (D := kG κ) (cl := kcl) (tys := kty κ) (ws := SW κ n st) C.1.1 C.1.2.1 C.2.1.1 hW.2 (b + j) 2 (by rw [SW_get (B.lt hj), B.2 j _ hj]) rfl hi d (kk hz H locs ls hW hS hl)
theorem ws_iast (pc : Nat) (C : Cx p s m args meth c κ cc nL own ret) {b N : Nat} {es : List va_E} {f : Nat → Int32} {i x : Int32} (d : decode cc pc = .ok (.iastore, 1)) (B : Ob n st b es) (j : Nat) (hj : es[j]? = some (.inl (kI κ, N, .inl f))) (hi : vp_in i N) (q : Nat) (hq : i.toNatClampNeg = q) (v : Int32) (hv : x = v) (kk : ∀ st2 : St, st2 = va_up st (b + j) (.inl (kI κ, N, .inl (upd f q v))) → WS p l e R s m args below meth c κ n k sl Q st2 (pc + 1) lv stk) : WS p l e R s m args below meth c κ n k sl Q st pc lv (.int x :: .int i :: .ref (ad κ (b + j)) :: stk) := fun hz H locs ls hW hS hl => by
  subst hv hq
  exact va_iast (D := kG κ) (cl := kcl) (tys := kty κ) (ws := SW κ n st) C.1.1 C.1.2.1 C.2.1.1 hW.2 SW_D hS (b + j) 0 (by rw [SW_get (B.lt hj), B.2 j _ hj]) rfl hi d (fun H1 locs1 hP1 hD1 hS1 => kk _ rfl hz H1 locs1 ls (C.put (B.lt hj) hP1 hS1) hS1 hl)
theorem ws_cast (pc : Nat) (C : Cx p s m args meth c κ cc nL own ret) {b N : Nat} {es : List va_E} {f : Nat → Int32} {i x : Int32} (d : decode cc pc = .ok (.castore, 1)) (B : Ob n st b es) (j : Nat) (hj : es[j]? = some (.inl (kC κ, N, .inl f))) (hi : vp_in i N) (q : Nat) (hq : i.toNatClampNeg = q) (v : Int32) (hv : (vp_nar .char x) = v) (kk : ∀ st2 : St, st2 = va_up st (b + j) (.inl (kC κ, N, .inl (upd f q v))) → WS p l e R s m args below meth c κ n k sl Q st2 (pc + 1) lv stk) : WS p l e R s m args below meth c κ n k sl Q st pc lv (.int x :: .int i :: .ref (ad κ (b + j)) :: stk) := fun hz H locs ls hW hS hl => by
  subst hv hq
  exact va_cast (D := kG κ) (cl := kcl) (tys := kty κ) (ws := SW κ n st) C.1.1 C.1.2.1 C.2.1.1 hW.2 SW_D hS (b + j) 1 (by rw [SW_get (B.lt hj), B.2 j _ hj]) rfl hi d (fun H1 locs1 hP1 hD1 hS1 => kk _ rfl hz H1 locs1 ls (C.put (B.lt hj) hP1 hS1) hS1 hl)
theorem ws_zast (pc : Nat) (C : Cx p s m args meth c κ cc nL own ret) {b N : Nat} {es : List va_E} {f : Nat → Int32} {i x : Int32} (d : decode cc pc = .ok (.bastore, 1)) (B : Ob n st b es) (j : Nat) (hj : es[j]? = some (.inl (kZ κ, N, .inl f))) (hi : vp_in i N) (q : Nat) (hq : i.toNatClampNeg = q) (v : Int32) (hv : (vp_nar .boolean x) = v) (kk : ∀ st2 : St, st2 = va_up st (b + j) (.inl (kZ κ, N, .inl (upd f q v))) → WS p l e R s m args below meth c κ n k sl Q st2 (pc + 1) lv stk) : WS p l e R s m args below meth c κ n k sl Q st pc lv (.int x :: .int i :: .ref (ad κ (b + j)) :: stk) := fun hz H locs ls hW hS hl => by
  subst hv hq
  exact va_zast (D := kG κ) (cl := kcl) (tys := kty κ) (ws := SW κ n st) C.1.1 C.1.2.1 C.2.1.1 hW.2 SW_D hS (b + j) 2 (by rw [SW_get (B.lt hj), B.2 j _ hj]) rfl hi d (fun H1 locs1 hP1 hD1 hS1 => kk _ rfl hz H1 locs1 ls (C.put (B.lt hj) hP1 hS1) hS1 hl)
theorem ws_aald (pc : Nat) (C : Cx p s m args meth c κ cc nL own ret) {b N : Nat} {es : List va_E} {f : Nat → Option Nat} {i : Int32} (d : decode cc pc = .ok (.aaload, 1)) (B : Ob n st b es) (j : Nat) (hj : es[j]? = some (.inl (kS κ, N, (.inr (.inr (.inr (.inr f))))))) (hi : vp_in i N) (v : Nat) (hv : f i.toNatClampNeg = some v) (kk : WS p l e R s m args below meth c κ n k sl Q st (pc + 1) lv (.ref v :: stk)) : WS p l e R s m args below meth c κ n k sl Q st pc lv (.int i :: .ref (ad κ (b + j)) :: stk) := fun hz H locs ls hW hS hl => by
  refine va_aldq (D := kG κ) (cl := kcl) (tys := kty κ) (ws := SW κ n st) C.1.1 C.1.2.1 C.2.1.1 hW.2 (b + j) 3 (by rw [SW_get (B.lt hj), B.2 j _ hj]) rfl hi d ?_
  rw [hv]
  exact kk hz H locs ls hW hS hl
theorem ws_aast (pc : Nat) (C : Cx p s m args meth c κ cc nL own ret) {b b2 N : Nat} {es es2 : List va_E} {f : Nat → Option Nat} {i : Int32} {fs : List Value} (d : decode cc pc = .ok (.aastore, 1)) (B : Ob n st b es) (j : Nat) (hj : es[j]? = some (.inl (kS κ, N, (.inr (.inr (.inr (.inr f))))))) (B2 : Ob n st b2 es2) (h2 : es2[0]? = some (.inr (3, fs))) (hi : vp_in i N) (q : Nat) (hq : i.toNatClampNeg = q) (kk : ∀ st2 : St, st2 = va_up st (b + j) (.inl (kS κ, N, (.inr (.inr (.inr (.inr (va_up f q (some (ad κ b2))))))))) → WS p l e R s m args below meth c κ n k sl Q st2 (pc + 1) lv stk) : WS p l e R s m args below meth c κ n k sl Q st pc lv (.ref (ad κ b2) :: .int i :: .ref (ad κ (b + j)) :: stk) := fun hz H locs ls hW hS hl => by
  subst hq
  have hb : b2 < n := by have := B2.lt h2; omega
  exact va_astq (D := kG κ) (cl := kcl) (tys := kty κ) (ws := SW κ n st) (r := (RX3, TX3, 7)) C.1.1 C.1.2.1 C.2.1.1 hW.2 SW_D hS (b + j) 3 b2 3 (by rw [SW_get (B.lt hj), B.2 j _ hj]) rfl (by rw [SW_get hb, show st b2 = .inr (3, fs) from B2.2 0 _ h2]) rfl hi d (fun H1 locs1 hP1 hD1 hS1 => kk _ rfl hz H1 locs1 ls (C.put (B.lt hj) hP1 hS1) hS1 hl)
theorem ws_sld (pc : Nat) (C : Cx p s m args meth c κ cc nL own ret) {b L : Nat} {xs : Nat → Int32} {i : Int32} (d : decode cc pc = .ok (.iaload, 1)) (hX : va_X b L xs s s.heap) (hbl : b < s.heap.size) (hbA : ¬ fr κ b) (hi : vp_in i L) (v : Int32) (hv : xs i.toNatClampNeg = v) (kk : WS p l e R s m args below meth c κ n k sl Q st (pc + 1) lv (.int v :: stk)) : WS p l e R s m args below meth c κ n k sl Q st pc lv (.int i :: .ref b :: stk) := fun hz H locs ls hW hS hl => by
  subst hv
  exact va_sld C.1.1 C.1.2.1 hX hbl hbA hS hi d (kk hz H locs ls hW hS hl)
theorem ws_slen (pc : Nat) (C : Cx p s m args meth c κ cc nL own ret) {b L : Nat} {xs : Nat → Int32} (d : decode cc pc = .ok (.arraylength, 1)) (hX : va_X b L xs s s.heap) (hbl : b < s.heap.size) (hbA : ¬ fr κ b) (kk : WS p l e R s m args below meth c κ n k sl Q st (pc + 1) lv (.int (nI L) :: stk)) : WS p l e R s m args below meth c κ n k sl Q st pc lv (.ref b :: stk) := fun hz H locs ls hW hS hl => va_slen C.1.1 C.1.2.1 hX hbl hbA hS d (kk hz H locs ls hW hS hl)
theorem ws_gstL (pc : Nat) (C : Cx p s m args meth c κ cc nL own ret) {idx : Nat} (d : decode cc pc = .ok (.getstatic idx, 3)) (hl0 : Cond.fieldLink own idx RX4 "LEAST_VALUE" "[I" ∈ gT) (kk : WS p l e R s m args below meth c κ n k sl Q st (pc + 3) lv (.ref (kL κ) :: stk)) : WS p l e R s m args below meth c κ n k sl Q st pc lv stk := fun hz H locs ls hW hS hl =>
  va_gets C.1.1 C.1.2.1 (va_Z.kept C.2.1.2.2.2.1.1 (fun a ha _ => C.2.2.2.2.2 a ha)) hS C.1.2.2.2.1 (C.1.2.2.2.2 _ hl0) (fun _ z => z) d (kk hz H locs ls hW hS hl)
theorem ws_staL (pc : Nat) (C : Cx p s m args meth c κ cc nL own ret) {i : Int32} (d : decode cc pc = .ok (.iaload, 1)) (hi : vp_in i 4) (v : Int32) (hv : lsv i.toNatClampNeg = v) (kk : WS p l e R s m args below meth c κ n k sl Q st (pc + 1) lv (.int v :: stk)) : WS p l e R s m args below meth c κ n k sl Q st pc lv (.int i :: .ref (kL κ) :: stk) := fun hz H locs ls hW hS hl =>
  va_ti C.1.1 C.1.2.1 (va_T.kept C.2.1.2.2.2.1.2 (fun a ha _ => C.2.2.2.2.2 a ha)) hS hi (congrArg Value.int hv) d (kk hz H locs ls hW hS hl)
theorem ws_gstG (pc : Nat) (C : Cx p s m args meth c κ cc nL own ret) {idx : Nat} (d : decode cc pc = .ok (.getstatic idx, 3)) (hl0 : Cond.fieldLink own idx RX4 "GREATEST_VALUE" "[I" ∈ gT) (kk : WS p l e R s m args below meth c κ n k sl Q st (pc + 3) lv (.ref (kT κ) :: stk)) : WS p l e R s m args below meth c κ n k sl Q st pc lv stk := fun hz H locs ls hW hS hl =>
  va_gets C.1.1 C.1.2.1 (va_Z.kept C.2.1.2.2.2.2.1 (fun a ha _ => C.2.2.2.2.2 a ha)) hS C.1.2.2.2.1 (C.1.2.2.2.2 _ hl0) (fun _ z => z) d (kk hz H locs ls hW hS hl)
theorem ws_staG (pc : Nat) (C : Cx p s m args meth c κ cc nL own ret) {i : Int32} (d : decode cc pc = .ok (.iaload, 1)) (hi : vp_in i 4) (v : Int32) (hv : gsv i.toNatClampNeg = v) (kk : WS p l e R s m args below meth c κ n k sl Q st (pc + 1) lv (.int v :: stk)) : WS p l e R s m args below meth c κ n k sl Q st pc lv (.int i :: .ref (kT κ) :: stk) := fun hz H locs ls hW hS hl =>
  va_ti C.1.1 C.1.2.1 (va_T.kept C.2.1.2.2.2.2.2 (fun a ha _ => C.2.2.2.2.2 a ha)) hS hi (congrArg Value.int hv) d (kk hz H locs ls hW hS hl)
theorem W.sz {H : Heap} {locs : List Loc} {g : JFrame} (kk : H.size ≤ s.heap.size + k → W p l e R s m args below meth c H locs k sl Q g) : W p l e R s m args below meth c H locs k sl Q g := fun T hT X => kk (by rw [← hT]; exact X.heapSize) T hT X
theorem Ob.grow {b : Nat} {es : List va_E} {e1 : va_E} (h : Ob n st b es) : Ob (n + 1) (va_up st n e1) b es := h.to (Nat.le_succ _) (fun q h1 h2 => va_up_ne _ _ (by have := h.1; omega))
theorem Ob.push {b : Nat} {es es' : List va_E} {e1 : va_E} (h : Ob n st b es) (hn : b + es.length = n) (he : es ++ [e1] = es') : Ob (n + 1) (va_up st n e1) b es' := by
  subst he
  refine ⟨by rw [List.length_append]; show b + (es.length + 1) ≤ n + 1; omega, fun j x hj => ?_⟩
  by_cases hl : j < es.length
  · rw [List.getElem?_append_left hl] at hj
    exact h.grow.2 j x hj
  · rw [List.getElem?_append_right (by omega)] at hj
    have hz : j - es.length < 1 := (List.getElem?_eq_some_iff.mp hj).1
    rw [show j - es.length = 0 by omega] at hj
    cases hj
    rw [show b + j = n by omega]
    exact va_up_self _ _ _
theorem Ob.one {e1 : va_E} : Ob (n + 1) (va_up st n e1) n [e1] := ⟨Nat.le_refl _, fun j x hj => by
  have hz : j < 1 := (List.getElem?_eq_some_iff.mp hj).1
  rw [show j = 0 by omega] at hj ⊢
  cases hj
  exact va_up_self _ _ _⟩
theorem Wd.grow {H H1 : Heap} {e1 : va_E} (h : Wd κ n st H) (hk : ∀ q, q < kN κ + n → H1[q]? = H[q]?) (h1 : va_at (kG κ) kcl (ad κ n, e1) H1) : Wd κ (n + 1) (va_up st n e1) H1 := by
  refine Wd.of (fun q hq => (hk q (by omega)).trans (h.1 q hq)) (fun k hkn => ?_)
  by_cases hkk : k = n
  · subst hkk
    rw [va_up_self]
    exact h1
  · rw [va_up_ne _ _ hkk]
    exact (h.at (by omega)).kept (hk (ad κ k) (by simp only [ad]; omega))
theorem ws_newaI (pc : Nat) (C : Cx p s m args meth c κ cc nL own ret) {i : Int32} (d : decode cc pc = .ok (.newarray .int, 2)) (N : Nat) (hi : ¬ i < 0) (hN : i.toNatClampNeg = N) (hb : N * componentBytes .int ≤ 536870912) (hc : Cond.arrayClass .int ∈ gT) (h1 : k + 1 ≤ R.cells) (h2 : sl + N ≤ R.slots) (kk : WS p l e R s m args below meth c κ (n + 1) (k + 1) (sl + N) Q (va_up st n (.inl (kI κ, N, .inl (fun _ => 0)))) (pc + 2) lv (.ref (ad κ n) :: stk)) : WS p l e R s m args below meth c κ n k sl Q st pc lv (.int i :: stk) := fun hz H locs ls hW hS hl => W.sz (fun e2 => by
  have hH : H.size = ad κ n := by
    have e1 := hW.size
    simp only [ad]
    omega
  refine va_newaK (atype := .int) C.1.1 C.1.2.1 (C.1.2.2.2.2 _ hc) rfl d rfl hi hN hb h1 h2 hH (fun H' cA e1 z1 o1 hAr hNm => ?_)
  have hcA : cA = kI κ := Option.some.inj (hNm.symm.trans (C.2.1.1.2 0 _ rfl).2)
  subst hcA
  exact kk (by omega) H' locs ls (hW.grow (fun q hq => o1 q (by simp only [ad] ; omega)) (by show H'[ad κ n]? = some (vp_cell _ _); rw [vp_cell_i]; exact e1)) ⟨Nat.le_trans hS.1 (by omega), fun q g1 g2 => (o1 q (by have := hS.1; omega)).trans (hS.2.1 q g1 g2), hS.2.2⟩ hl)
theorem ws_newaC (pc : Nat) (C : Cx p s m args meth c κ cc nL own ret) {i : Int32} (d : decode cc pc = .ok (.newarray .char, 2)) (N : Nat) (hi : ¬ i < 0) (hN : i.toNatClampNeg = N) (hb : N * componentBytes .char ≤ 536870912) (hc : Cond.arrayClass .char ∈ gT) (h1 : k + 1 ≤ R.cells) (h2 : sl + N ≤ R.slots) (kk : WS p l e R s m args below meth c κ (n + 1) (k + 1) (sl + N) Q (va_up st n (.inl (kC κ, N, .inl (fun _ => 0)))) (pc + 2) lv (.ref (ad κ n) :: stk)) : WS p l e R s m args below meth c κ n k sl Q st pc lv (.int i :: stk) := fun hz H locs ls hW hS hl => W.sz (fun e2 => by
  have hH : H.size = ad κ n := by
    have e1 := hW.size
    simp only [ad]
    omega
  refine va_newaK (atype := .char) C.1.1 C.1.2.1 (C.1.2.2.2.2 _ hc) rfl d rfl hi hN hb h1 h2 hH (fun H' cA e1 z1 o1 hAr hNm => ?_)
  have hcA : cA = kC κ := Option.some.inj (hNm.symm.trans (C.2.1.1.2 1 _ rfl).2)
  subst hcA
  exact kk (by omega) H' locs ls (hW.grow (fun q hq => o1 q (by simp only [ad] ; omega)) (by show H'[ad κ n]? = some (vp_cell _ _); rw [vp_cell_i]; exact e1)) ⟨Nat.le_trans hS.1 (by omega), fun q g1 g2 => (o1 q (by have := hS.1; omega)).trans (hS.2.1 q g1 g2), hS.2.2⟩ hl)
theorem ws_newaZ (pc : Nat) (C : Cx p s m args meth c κ cc nL own ret) {i : Int32} (d : decode cc pc = .ok (.newarray .boolean, 2)) (N : Nat) (hi : ¬ i < 0) (hN : i.toNatClampNeg = N) (hb : N * componentBytes .boolean ≤ 536870912) (hc : Cond.arrayClass .boolean ∈ gT) (h1 : k + 1 ≤ R.cells) (h2 : sl + N ≤ R.slots) (kk : WS p l e R s m args below meth c κ (n + 1) (k + 1) (sl + N) Q (va_up st n (.inl (kZ κ, N, .inl (fun _ => 0)))) (pc + 2) lv (.ref (ad κ n) :: stk)) : WS p l e R s m args below meth c κ n k sl Q st pc lv (.int i :: stk) := fun hz H locs ls hW hS hl => W.sz (fun e2 => by
  have hH : H.size = ad κ n := by
    have e1 := hW.size
    simp only [ad]
    omega
  refine va_newaK (atype := .boolean) C.1.1 C.1.2.1 (C.1.2.2.2.2 _ hc) rfl d rfl hi hN hb h1 h2 hH (fun H' cA e1 z1 o1 hAr hNm => ?_)
  have hcA : cA = kZ κ := Option.some.inj (hNm.symm.trans (C.2.1.1.2 2 _ rfl).2)
  subst hcA
  exact kk (by omega) H' locs ls (hW.grow (fun q hq => o1 q (by simp only [ad] ; omega)) (by show H'[ad κ n]? = some (vp_cell _ _); rw [vp_cell_i]; exact e1)) ⟨Nat.le_trans hS.1 (by omega), fun q g1 g2 => (o1 q (by have := hS.1; omega)).trans (hS.2.1 q g1 g2), hS.2.2⟩ hl)
theorem ws_newq (pc : Nat) (C : Cx p s m args meth c κ cc nL own ret) {idx : Nat} {i : Int32} (d : decode cc pc = .ok (.anewarray idx, 3)) (N : Nat) (hi : ¬ i < 0) (hN : i.toNatClampNeg = N) (hb : N * 4 ≤ 536870912) (hc : Cond.classLink own idx RX3 ∈ gT) (h1 : k + 1 ≤ R.cells) (h2 : sl + N ≤ R.slots) (kk : WS p l e R s m args below meth c κ (n + 1) (k + 1) (sl + N) Q (va_up st n (.inl (kS κ, N, (.inr (.inr (.inr (.inr (fun _ => none)))))))) (pc + 3) lv (.ref (ad κ n) :: stk)) : WS p l e R s m args below meth c κ n k sl Q st pc lv (.int i :: stk) := fun hz H locs ls hW hS hl => W.sz (fun e2 => by
  have hH : H.size = ad κ n := by
    have e1 := hW.size
    simp only [ad]
    omega
  subst hN
  refine W.anew C.1.1 C.1.2.1 C.1.2.2.2.1 (C.1.2.2.2.2 _ hc) (va_AO.use C.2.1.2.2.1) rfl d rfl hi hb h1 h2 (fun cA kA comp f1 f2 f3 f4 => ?_)
  obtain ⟨kA', comp', g1, g2, g3, g4⟩ := (C.2.1.1.2 3 _ rfl).2
  have hcA : cA = kS κ := Option.some.inj (f1.symm.trans g4)
  subst hcA
  generalize hH1 : H.push ({ cls := kS κ, slots := Array.replicate i.toNatClampNeg .null, vm := .none } : Cell) = H1
  have z1 : H1.size = H.size + 1 := by rw [← hH1, Array.size_push]
  have e1 : H1[H.size]? = some (arrV (kS κ) i.toNatClampNeg (fun _ => .null)) := by rw [← hH1, Array.getElem?_push_size, ← arrV_new]
  have o1 : ∀ q : Nat, q < H.size → H1[q]? = H[q]? := fun q hq => by rw [← hH1, Array.getElem?_push, if_neg (Nat.ne_of_lt hq)]
  rw [hH]
  exact kk (by omega) H1 locs ls (hW.grow (fun q hq => o1 q (by rw [hH]; simp only [ad] ; omega)) (by show H1[ad κ n]? = some (vp_cell _ _); rw [vp_cell_q, ← hH]; exact e1)) ⟨Nat.le_trans hS.1 (by omega), fun q g1 g2 => (o1 q (by have := hS.1; omega)).trans (hS.2.1 q g1 g2), hS.2.2⟩ hl)
theorem ws_new (pc : Nat) (C : Cx p s m args meth c κ cc nL own ret) {idx ci N : Nat} {Cn : String} {T : u_T} (d : decode cc pc = .ok (.new idx, 3)) (hc : kcl[ci]? = some (Cn, T, N)) (hin : ∀ w ∈ u_ws Cn T N, w ∈ gT) (ty : Nat → FieldType) (hty : ∀ k, k < N → parseFieldDescriptor (T k).2.2.1 = some (ty k)) (hcl : Cond.classLink own idx Cn ∈ gT) (hins : Cond.instantiable Cn N ∈ gT) (hini : Cond.initialized Cn ∈ gT) (fs : List Value) (hfs : ∀ j, j < N → defaultValue (ty j) = vp_V fs j) (h1 : k + 1 ≤ R.cells) (h2 : sl + N ≤ R.slots) (kk : WS p l e R s m args below meth c κ (n + 1) (k + 1) (sl + N) Q (va_up st n (.inr (ci, fs))) (pc + 3) lv (.ref (ad κ n) :: stk)) : WS p l e R s m args below meth c κ n k sl Q st pc lv stk := fun hz H locs ls hW hS hl => W.sz (fun e2 => by
  have hH : H.size = ad κ n := by
    have e1 := hW.size
    simp only [ad]
    omega
  have hKn := C.2.1.1.1 ci _ hc
  refine W.newcK C.1.1 C.1.2.1 C.1.2.2.2.1 (C.1.2.2.2.2 _ hcl) (C.1.2.2.2.2 _ hins) (C.1.2.2.2.2 _ hini) rfl d h1 h2 hKn.2.1 hH (fun H1 kC hkC e1 z1 o1 => ?_)
  exact kk (by omega) H1 locs ls (hW.grow (fun q hq => o1 q (by simp only [ad] ; omega)) ⟨_, hc, (u_born ty C.1.2.2.2.2 hin hKn hkC e1 hty).to hfs⟩) ⟨Nat.le_trans hS.1 (by omega), fun q g1 g2 => (o1 q (by have := hS.1; omega)).trans (hS.2.1 q g1 g2), hS.2.2⟩ hl)
theorem ws_run {mc ms : Nat} {a : Array Value} {P : Option Value → St → Prop} {st0 : List Value} {pc : Nat} (C : Cx p s m args meth c κ cc nL own ret) (hr : ∀ (H : Heap) (locs : List Loc) (ls : Array Slot), Wd κ n st H → H.size ≤ kN κ + n → ls.size = lv.length → va_Run p l e R s m args below meth c H locs k sl mc ms (F0 m pc ls st0) stk ((QK κ (n + mc) P) a) (fr κ)) (kk : ∀ (v : Option Value) (u : St), P v u → WS p l e R s m args below meth c κ (n + mc) (k + mc) (sl + ms) Q u (pc + 3) lv (v.toList ++ stk)) : WS p l e R s m args below meth c κ n k sl Q st pc lv st0 := fun hz H locs ls hW hS hl T hT X => by
  have hsz : H.size ≤ kN κ + n := by
    have e2 := X.heapSize
    rw [hT] at e2
    omega
  obtain ⟨v, st₀, t, T', L, h0, X', hL, e1, e2, ⟨v', u, hv, hp, hw⟩, st⟩ := hr H locs ls hW hsz hl.1 T hT X
  cases hv
  rw [← e1] at hw
  have hz1 : s.heap.size ≤ T'.heap.size := by
    have := hw.size
    have := hS.1
    omega
  obtain ⟨t2, a1, b1⟩ := kk _ u hp (by omega) T'.heap (locs ++ L) ls hw ⟨hz1, fun q g1 g2 => by
    have hq : q < kN κ := Nat.not_le.mp g2
    rw [hw.1 q hq, C.2.2.2.2.2 q hq], fun q hq => by
      rcases List.mem_append.mp hq with h | h
      · exact hS.2.2 q h
      · exact hL q h⟩ hl T' rfl X'
  exact ⟨t2, st t2 a1, b1⟩
theorem ws_callV (pc : Nat) (C : Cx p s m args meth c κ cc nL own ret) {idx mL na : Nat} {y : MethodName} {bc : ByteArray} {rt : Option FieldType} {rm : Room} {P : Option Value → St → Prop} {As : List Value} {b ci N : Nat} {Cn : String} {T : u_T} {es : List va_E} {fs : List Value} {stk0 : List Value} (hM : CT l κ y bc mL rt rm n (.ref (ad κ b) :: As) st P) (d : decode cc pc = .ok (.invokevirtual idx, 3)) (K : LkV own idx Cn y bc mL rt na) (hc : kcl[ci]? = some (Cn, T, N)) (B : Ob n st b es) (h0 : es[0]? = some (.inr (ci, fs))) (hnL : lv.length = nL) (hR : rm.frames + 1 ≤ R.frames ∧ 8 + (mL + 11) + rm.locals ≤ R.locals) (hC : k + rm.cells ≤ R.cells ∧ sl + rm.slots ≤ R.slots) (hn : As.length = na) (hcat : (stk.map fun v => v.category).sum ≤ 8) (hstk : stk0 = As.reverse ++ .ref (ad κ b) :: stk) (kk : ∀ (v : Option Value) (u : St), P v u → WS p l e R s m args below meth c κ (n + rm.cells) (k + rm.cells) (sl + rm.slots) Q u (pc + 3) lv (v.toList ++ stk)) : WS p l e R s m args below meth c κ n k sl Q st pc lv stk0 := by
  subst hstk
  refine ws_run C (a := (Value.ref (ad κ b) :: As).toArray) (fun H locs ls hW hsz hls => ?_) kk
  have hb : b < n := by have := B.lt h0; omega
  have hat := hW.at hb
  rw [show st b = .inr (ci, fs) from B.2 0 _ h0] at hat
  obtain ⟨r, h1, cell, q1, q2, q3, -⟩ := hat
  cases (hc.symm.trans h1)
  exact va_runV C.1 hM (cwV na C.1.2.2.2.2 (fun w hw => by
    rcases List.mem_append.mp hw with hw | hw
    · simp only [List.mem_cons, List.not_mem_nil, or_false] at hw
      rcases hw with rfl | rfl | rfl | rfl
      · exact gT_all _ K.1
      · exact gT_all _ K.2.1
      · exact gT_all _ K.2.2.1
      · exact gT_all _ K.2.2.2.1
    · exact gT_own K.2.2.2.2.1 w hw) rfl rfl rfl K.2.2.2.2.2 hR) ⟨PcK.blind, ⟨cell, q1, by rw [q3]; rfl, by rw [q2]; exact (C.2.1.1.1 ci _ hc).2.1⟩, fun U hU hWm => ⟨rfl, C.2.1.warm hWm, by rw [hU]; exact hW, by rw [hU]; exact hsz⟩⟩ rfl hn (hls.trans hnL) rfl (by show 2 * 0 + _ ≤ 8; omega) d hC
theorem ws_callS (pc : Nat) (C : Cx p s m args meth c κ cc nL own ret) {idx mL na : Nat} {y : MethodName} {bc : ByteArray} {rt : Option FieldType} {rm : Room} {P : Option Value → St → Prop} {As : List Value} {stk0 : List Value} (hM : CT l κ y bc mL rt rm n As st P) (d : decode cc pc = .ok (.invokestatic idx, 3)) (K : LkS own idx y bc mL rt na) (hnL : lv.length = nL) (hR : rm.frames + 1 ≤ R.frames ∧ 8 + (mL + 11) + rm.locals ≤ R.locals) (hC : k + rm.cells ≤ R.cells ∧ sl + rm.slots ≤ R.slots) (hn : As.length = na) (hcat : (stk.map fun v => v.category).sum ≤ 8) (hstk : stk0 = As.reverse ++ stk) (kk : ∀ (v : Option Value) (u : St), P v u → WS p l e R s m args below meth c κ (n + rm.cells) (k + rm.cells) (sl + rm.slots) Q u (pc + 3) lv (v.toList ++ stk)) : WS p l e R s m args below meth c κ n k sl Q st pc lv stk0 := by
  subst hstk
  refine ws_run C (a := As.toArray) (fun H locs ls hW hsz hls => ?_) kk
  exact va_runS C.1 hM (va_cwS na C.1.2.2.2.2 (fun w hw => by
    rcases List.mem_append.mp hw with hw | hw
    · simp only [List.mem_cons, List.not_mem_nil, or_false] at hw
      rcases hw with rfl | rfl | rfl
      · exact gT_all _ K.1
      · exact gT_all _ K.2.1
      · exact gT_all _ K.2.2.1
    · exact gT_own K.2.2.2.1 w hw) rfl rfl rfl K.2.2.2.2 hR) ⟨PcK.blind,  fun U hU hWm => ⟨rfl, C.2.1.warm hWm, by rw [hU]; exact hW, by rw [hU]; exact hsz⟩⟩ rfl hn (hls.trans hnL) rfl (by show 2 * 0 + _ ≤ 8; omega) d hC
theorem ws_callSN (pc : Nat) (C : Cx p s m args meth c κ cc nL own ret) {idx mL na : Nat} {y : MethodName} {bc : ByteArray} {rt : Option FieldType} {rm : Room} {P : Option Value → St → Prop} {As : List Value} {stk0 : List Value} (hM : CT l κ y bc mL rt rm n As st P) (d : decode cc pc = .ok (.invokestatic idx, 3)) (K : LkSN own idx y bc mL rt na) (hnL : lv.length = nL) (hR : rm.frames + 1 ≤ R.frames ∧ 8 + (mL + 11) + rm.locals ≤ R.locals) (hC : k + rm.cells ≤ R.cells ∧ sl + rm.slots ≤ R.slots) (hn : As.length = na) (hcat : (stk.map fun v => v.category).sum ≤ 8) (hstk : stk0 = As.reverse ++ stk) (kk : ∀ (v : Option Value) (u : St), P v u → WS p l e R s m args below meth c κ (n + rm.cells) (k + rm.cells) (sl + rm.slots) Q u (pc + 3) lv (v.toList ++ stk)) : WS p l e R s m args below meth c κ n k sl Q st pc lv stk0 := by
  subst hstk
  refine ws_run C (a := As.toArray) (fun H locs ls hW hsz hls => ?_) kk
  exact va_runSN C.1 hM ⟨va_cnB na C.1.2.2.2.2 (gT_own K.2.2.2.1) rfl rfl rfl (K.1 κ s C.2.1) (C.1.2.2.2.2 _ K.2.2.1) K.2.2.2.2 hR, C.1.2.2.2.2 _ K.2.1, trivial⟩ ⟨PcK.blind,  fun U hU hWm => ⟨rfl, C.2.1.warm hWm, by rw [hU]; exact hW, by rw [hU]; exact hsz⟩⟩ rfl hn (hls.trans hnL) rfl (by show 2 * 0 + _ ≤ 8; omega) d hC
theorem ws_callI (pc : Nat) (C : Cx p s m args meth c κ cc nL own ret) {idx mL na : Nat} {y : MethodName} {bc : ByteArray} {rm : Room} {P : Option Value → St → Prop} {As : List Value} {b : Nat} {stk0 : List Value} (hM : CT l κ y bc mL none rm n (.ref b :: As) st P) (d : decode cc pc = .ok (.invokespecial idx, 3)) (K : LkI own idx y bc mL na) (hnL : lv.length = nL) (hR : rm.frames + 1 ≤ R.frames ∧ 8 + (mL + 11) + rm.locals ≤ R.locals) (hC : k + rm.cells ≤ R.cells ∧ sl + rm.slots ≤ R.slots) (hn : As.length = na) (hcat : (stk.map fun v => v.category).sum ≤ 8) (hstk : stk0 = As.reverse ++ .ref b :: stk) (kk : ∀ (v : Option Value) (u : St), P v u → WS p l e R s m args below meth c κ (n + rm.cells) (k + rm.cells) (sl + rm.slots) Q u (pc + 3) lv (v.toList ++ stk)) : WS p l e R s m args below meth c κ n k sl Q st pc lv stk0 := by
  subst hstk
  refine ws_run C (a := (Value.ref b :: As).toArray) (fun H locs ls hW hsz hls => ?_) kk
  exact va_runI C.1 hM (cwI na C.1.2.2.2.2 (gT_own K.2.2.2.1) rfl rfl rfl (C.1.2.2.2.2 _ K.2.2.1) (C.1.2.2.2.2 _ K.1) (C.1.2.2.2.2 _ K.2.1) K.2.2.2.2.1 K.2.2.2.2.2 hR) ⟨PcK.blind,  fun U hU hWm => ⟨rfl, C.2.1.warm hWm, by rw [hU]; exact hW, by rw [hU]; exact hsz⟩⟩ rfl hn (hls.trans hnL) rfl (by show 2 * 0 + _ ≤ 8; omega) d hC
theorem ws_callIN (pc : Nat) (C : Cx p s m args meth c κ cc nL own ret) {idx mL na : Nat} {y : MethodName} {bc : ByteArray} {rm : Room} {P : Option Value → St → Prop} {As : List Value} {b : Nat} {stk0 : List Value} (hM : CT l κ y bc mL none rm n (.ref b :: As) st P) (d : decode cc pc = .ok (.invokespecial idx, 3)) (K : LkIN own idx y bc mL na) (hnL : lv.length = nL) (hR : rm.frames + 1 ≤ R.frames ∧ 8 + (mL + 11) + rm.locals ≤ R.locals) (hC : k + rm.cells ≤ R.cells ∧ sl + rm.slots ≤ R.slots) (hn : As.length = na) (hcat : (stk.map fun v => v.category).sum ≤ 8) (hstk : stk0 = As.reverse ++ .ref b :: stk) (kk : ∀ (v : Option Value) (u : St), P v u → WS p l e R s m args below meth c κ (n + rm.cells) (k + rm.cells) (sl + rm.slots) Q u (pc + 3) lv (v.toList ++ stk)) : WS p l e R s m args below meth c κ n k sl Q st pc lv stk0 := by
  subst hstk
  refine ws_run C (a := (Value.ref b :: As).toArray) (fun H locs ls hW hsz hls => ?_) kk
  exact va_runIN C.1 hM ⟨va_cnB na C.1.2.2.2.2 (gT_own K.2.2.2.1) rfl rfl rfl (K.1 κ s C.2.1) (C.1.2.2.2.2 _ K.2.2.1) K.2.2.2.2.2 hR, K.2.2.2.2.1, C.1.2.2.2.2 _ K.2.1⟩ ⟨PcK.blind,  fun U hU hWm => ⟨rfl, C.2.1.warm hWm, by rw [hU]; exact hW, by rw [hU]; exact hsz⟩⟩ rfl hn (hls.trans hnL) rfl (by show 2 * 0 + _ ≤ 8; omega) d hC
theorem ws_objI (pc : Nat) (C : Cx p s m args meth c κ cc nL own ret) {idx a : Nat} (d : decode cc pc = .ok (.invokespecial idx, 3)) (h1 : Cond.methodLink own idx objectInit ∈ gT) (h2 : Cond.instanceMethod objectInit ∈ gT) (h3 : Cond.code objectInit ⟨#[0xb1]⟩ 1 none ∈ gT) (hnL : lv.length = nL) (hf : 1 ≤ R.frames) (hlo : (stk.map fun v => v.category).sum + 12 ≤ R.locals) (kk : WS p l e R s m args below meth c κ n k sl Q st (pc + 3) lv stk) : WS p l e R s m args below meth c κ n k sl Q st pc lv (.ref a :: stk) := fun hz H locs ls hW hS hl =>
  W.objInit C.1.1 C.1.2.1 C.1.2.2.2.1 (C.1.2.2.2.2 _ h1) (C.1.2.2.2.2 _ h2) (C.1.2.2.2.2 _ h3) rfl (by show ls.size = _; rw [hl.1, hnL, C.1.2.2.1]) rfl d hf (by show 2 * 0 + _ + 12 ≤ _; omega) (kk hz H locs ls hW hS hl)
theorem ws_mmax (pc : Nat) (C : Cx p s m args meth c κ cc nL own ret) {idx : Nat} {x y : Int32} (d : decode cc pc = .ok (.invokestatic idx, 3)) (h1 : Cond.methodLink own idx Lib.Math.max.name ∈ gT) (h2 : Cond.static Lib.Math.max.name ∈ gT) (h3 : Cond.initialized "java/lang/Math" ∈ gT) (h4 : Cond.code Lib.Math.max.name Lib.Math.max.code 2 (some .int) ∈ gT) (hnL : lv.length = nL) (hf : 1 ≤ R.frames) (hlo : (stk.map fun v => v.category).sum + 13 ≤ R.locals) (hc : k ≤ R.cells) (hs : sl ≤ R.slots) (v : Int32) (hv : (if x < y then y else x) = v) (kk : WS p l e R s m args below meth c κ n k sl Q st (pc + 3) lv (.int v :: stk)) : WS p l e R s m args below meth c κ n k sl Q st pc lv (.int y :: .int x :: stk) := fun hz H locs ls hW hS hl =>
  va_mmax C.1.1 C.1.2.1 (by rw [hl.1, hnL, C.1.2.2.1]) C.1.2.2.2.1 (C.1.2.2.2.2 _ h1) (C.1.2.2.2.2 _ h2) (C.1.2.2.2.2 _ h3) (C.1.2.2.2.2 _ h4) hf hlo hc hs d (hv ▸ kk hz H locs ls hW hS hl)
theorem ws_copyI (pc : Nat) (C : Cx p s m args meth c κ cc nL own ret) {idx b1 b2 N1 N2 : Nat} {es1 es2 : List va_E} {f g : Nat → Int32} (d : decode cc pc = .ok (.invokestatic idx, 3)) (h1 : Cond.methodLink own idx arraycopyName ∈ gT) (h2 : Cond.native arraycopyName ∈ gT) (h3 : Cond.static arraycopyName ∈ gT) (h4 : Cond.initialized "java/lang/System" ∈ gT) (hnL : lv.length = nL) (B1 : Ob n st b1 es1) (j1 : Nat) (hj1 : es1[j1]? = some (.inl (kI κ, N1, .inl f))) (B2 : Ob n st b2 es2) (j2 : Nat) (hj2 : es2[j2]? = some (.inl (kI κ, N2, .inl g))) (sp dp dn : Nat) (hsp : sp + dn ≤ N1) (hdp : dp + dn ≤ N2) (hN1 : N1 < 2 ^ 31) (hN2 : N2 < 2 ^ 31) (hf : 1 ≤ R.frames) (hlo : (stk.map fun v => v.category).sum + (nativeFrameWords "java/lang/System" "arraycopy" 5 + 11) ≤ R.locals) (kk : ∀ st2 : St, st2 = va_up st (b2 + j2) (.inl (kI κ, N2, .inl (va_cpy f g sp dp dn))) → WS p l e R s m args below meth c κ n k sl Q st2 (pc + 3) lv stk) : WS p l e R s m args below meth c κ n k sl Q st pc lv (.int (nI dn) :: .int (nI dp) :: .ref (ad κ (b2 + j2)) :: .int (nI sp) :: .ref (ad κ (b1 + j1)) :: stk) := fun hz H locs ls hW hS hl => by
  have e1 : (nI sp).toNatClampNeg = sp := nI_clamp (by omega)
  have e2 : (nI dp).toNatClampNeg = dp := nI_clamp (by omega)
  have e3 : (nI dn).toNatClampNeg = dn := nI_clamp (by omega)
  refine va_copyi (D := kG κ) (cl := kcl) (tys := kty κ) (ws := SW κ n st) (ty := .int) C.1.1 C.1.2.1 (by rw [hl.1, hnL, C.1.2.2.1]) C.1.2.2.2.1 (C.1.2.2.2.2 _ h1) (C.1.2.2.2.2 _ h2) (C.1.2.2.2.2 _ h3) (C.1.2.2.2.2 _ h4) C.2.1.1 hW.2 SW_D hS (b1 + j1) (b2 + j2) 0 0 (by rw [SW_get (B1.lt hj1), B1.2 j1 _ hj1]) (by rw [SW_get (B2.lt hj2), B2.2 j2 _ hj2]) rfl rfl rfl (nI_pos (by omega)) (nI_pos (by omega)) (nI_pos (by omega)) (by rw [e1, e3]; exact hsp) (by rw [e2, e3]; exact hdp) (by rw [e1, e3]; exact (fun z hz2 => rfl)) hf hlo d (fun H1 locs1 hP1 hD1 hS1 => kk _ rfl hz H1 locs1 ls ?_ hS1 hl)
  rw [e1, e2, e3] at hP1
  exact C.put (B2.lt hj2) hP1 hS1
theorem ws_copyC (pc : Nat) (C : Cx p s m args meth c κ cc nL own ret) {idx b1 b2 N1 N2 : Nat} {es1 es2 : List va_E} {f g : Nat → Int32} (d : decode cc pc = .ok (.invokestatic idx, 3)) (h1 : Cond.methodLink own idx arraycopyName ∈ gT) (h2 : Cond.native arraycopyName ∈ gT) (h3 : Cond.static arraycopyName ∈ gT) (h4 : Cond.initialized "java/lang/System" ∈ gT) (hnL : lv.length = nL) (B1 : Ob n st b1 es1) (j1 : Nat) (hj1 : es1[j1]? = some (.inl (kC κ, N1, .inl f))) (B2 : Ob n st b2 es2) (j2 : Nat) (hj2 : es2[j2]? = some (.inl (kC κ, N2, .inl g))) (sp dp dn : Nat) (hsp : sp + dn ≤ N1) (hdp : dp + dn ≤ N2) (hN1 : N1 < 2 ^ 31) (hN2 : N2 < 2 ^ 31) (hfit : ∀ z, z < dn → fits .char (.int (f (sp + z))) = true) (hf : 1 ≤ R.frames) (hlo : (stk.map fun v => v.category).sum + (nativeFrameWords "java/lang/System" "arraycopy" 5 + 11) ≤ R.locals) (kk : ∀ st2 : St, st2 = va_up st (b2 + j2) (.inl (kC κ, N2, .inl (va_cpy f g sp dp dn))) → WS p l e R s m args below meth c κ n k sl Q st2 (pc + 3) lv stk) : WS p l e R s m args below meth c κ n k sl Q st pc lv (.int (nI dn) :: .int (nI dp) :: .ref (ad κ (b2 + j2)) :: .int (nI sp) :: .ref (ad κ (b1 + j1)) :: stk) := fun hz H locs ls hW hS hl => by
  have e1 : (nI sp).toNatClampNeg = sp := nI_clamp (by omega)
  have e2 : (nI dp).toNatClampNeg = dp := nI_clamp (by omega)
  have e3 : (nI dn).toNatClampNeg = dn := nI_clamp (by omega)
  refine va_copyi (D := kG κ) (cl := kcl) (tys := kty κ) (ws := SW κ n st) (ty := .char) C.1.1 C.1.2.1 (by rw [hl.1, hnL, C.1.2.2.1]) C.1.2.2.2.1 (C.1.2.2.2.2 _ h1) (C.1.2.2.2.2 _ h2) (C.1.2.2.2.2 _ h3) (C.1.2.2.2.2 _ h4) C.2.1.1 hW.2 SW_D hS (b1 + j1) (b2 + j2) 1 1 (by rw [SW_get (B1.lt hj1), B1.2 j1 _ hj1]) (by rw [SW_get (B2.lt hj2), B2.2 j2 _ hj2]) rfl rfl rfl (nI_pos (by omega)) (nI_pos (by omega)) (nI_pos (by omega)) (by rw [e1, e3]; exact hsp) (by rw [e2, e3]; exact hdp) (by rw [e1, e3]; exact (fun z hz2 => hfit z hz2)) hf hlo d (fun H1 locs1 hP1 hD1 hS1 => kk _ rfl hz H1 locs1 ls ?_ hS1 hl)
  rw [e1, e2, e3] at hP1
  exact C.put (B2.lt hj2) hP1 hS1
theorem kR {pc : Nat} {r : Int32} (kk : WS p l e R s m args below meth c κ n k sl Q st pc lv (.int r :: stk)) : ∀ (v : Option Value) (u : St), PR (some (.int r)) st v u → WS p l e R s m args below meth c κ n k sl Q u pc lv (v.toList ++ stk) := fun v u h => by
  obtain ⟨h1, h2⟩ := h
  subst h1 h2
  exact kk
theorem kI' {pc : Nat} {f : Int32 → St → Prop} (kk : ∀ (r : Int32) (u : St), f r u → WS p l e R s m args below meth c κ n k sl Q u pc lv (.int r :: stk)) : ∀ (v : Option Value) (u : St), PI f v u → WS p l e R s m args below meth c κ n k sl Q u pc lv (v.toList ++ stk) := fun v u h => by
  obtain ⟨r, h1, h2⟩ := h
  subst h1
  exact kk r u h2
theorem kV {pc : Nat} {f : St → Prop} (kk : ∀ (u : St), f u → WS p l e R s m args below meth c κ n k sl Q u pc lv stk) : ∀ (v : Option Value) (u : St), PV f v u → WS p l e R s m args below meth c κ n k sl Q u pc lv (v.toList ++ stk) := fun v u h => by
  obtain ⟨h1, h2⟩ := h
  subst h1
  exact kk u h2
def PA (f : Nat → St → Prop) : Option Value → St → Prop := fun w u => ∃ r, w = some (.ref r) ∧ f r u
theorem kA {pc : Nat} {f : Nat → St → Prop} (kk : ∀ (r : Nat) (u : St), f r u → WS p l e R s m args below meth c κ n k sl Q u pc lv (.ref r :: stk)) : ∀ (v : Option Value) (u : St), PA f v u → WS p l e R s m args below meth c κ n k sl Q u pc lv (v.toList ++ stk) := fun v u h => by
  obtain ⟨r, h1, h2⟩ := h
  subst h1
  exact kk r u h2
end ROWS
section RETS
variable {p : Program} {l : Launch} {e : Env} {rm : Room} {s : State} {m : MethodId} {args : Array Value} {below : List Frame} {meth : Method} {c : Code} {κ : Kt} {n n0 k sl : Nat} {st : St} {lv : List (Option Value)} {cc : ByteArray} {nL : Nat} {own : String} {P : Option Value → St → Prop}
theorem ws_iret (pc : Nat) (C : Cx p s m args meth c κ cc nL own (some .int)) {v : Int32} (d : decode cc pc = .ok (.ireturn, 1)) (hn : n = n0 + rm.cells) (hk : k ≤ rm.cells) (hs : sl ≤ rm.slots) (hP : P (some (.int v)) st) : WS p l e rm s m args below meth c κ n k sl (QM below args s κ n0 rm P) st pc lv ([.int v]) := fun hz H locs ls hW hS hl => by
  subst hn
  refine W.widen hk hs ?_
  exact W.iret C.1.1 C.1.2.1 C.2.2.1 (fun t ht hWm => ⟨_, st, rfl, hP, by rw [ht]; exact hW⟩) hS.2.2 d C.2.2.2.1
theorem ws_zret (pc : Nat) (C : Cx p s m args meth c κ cc nL own (some .boolean)) {v : Int32} (hv : narrow .boolean (.int v) = .int v) (d : decode cc pc = .ok (.ireturn, 1)) (hn : n = n0 + rm.cells) (hk : k ≤ rm.cells) (hs : sl ≤ rm.slots) (hP : P (some (.int v)) st) : WS p l e rm s m args below meth c κ n k sl (QM below args s κ n0 rm P) st pc lv ([.int v]) := fun hz H locs ls hW hS hl => by
  subst hn
  refine W.widen hk hs ?_
  exact W.zret C.1.1 C.1.2.1 C.2.2.1 hv (fun t ht hWm => ⟨_, st, rfl, hP, by rw [ht]; exact hW⟩) hS.2.2 d C.2.2.2.1
theorem ws_cret (pc : Nat) (C : Cx p s m args meth c κ cc nL own (some .char)) {v : Int32} (hv : narrow .char (.int v) = .int v) (d : decode cc pc = .ok (.ireturn, 1)) (hn : n = n0 + rm.cells) (hk : k ≤ rm.cells) (hs : sl ≤ rm.slots) (hP : P (some (.int v)) st) : WS p l e rm s m args below meth c κ n k sl (QM below args s κ n0 rm P) st pc lv ([.int v]) := fun hz H locs ls hW hS hl => by
  subst hn
  refine W.widen hk hs ?_
  exact W.zret C.1.1 C.1.2.1 C.2.2.1 hv (fun t ht hWm => ⟨_, st, rfl, hP, by rw [ht]; exact hW⟩) hS.2.2 d C.2.2.2.1
theorem ws_vret (pc : Nat) (C : Cx p s m args meth c κ cc nL own none)  (d : decode cc pc = .ok (.return_, 1)) (hn : n = n0 + rm.cells) (hk : k ≤ rm.cells) (hs : sl ≤ rm.slots) (hP : P (none) st) : WS p l e rm s m args below meth c κ n k sl (QM below args s κ n0 rm P) st pc lv ([]) := fun hz H locs ls hW hS hl => by
  subst hn
  refine W.widen hk hs ?_
  exact W.vret C.1.1 C.1.2.1 C.2.2.1 (fun t ht hWm => ⟨_, st, rfl, hP, by rw [ht]; exact hW⟩) hS.2.2 d C.2.2.2.1
theorem ws_aret (pc : Nat) (C : Cx p s m args meth c κ cc nL own (some (.object "HungStops$Layout"))) {v : Nat} (d : decode cc pc = .ok (.areturn, 1)) (hn : n = n0 + rm.cells) (hk : k ≤ rm.cells) (hs : sl ≤ rm.slots) (hP : P (some (.ref v)) st) : WS p l e rm s m args below meth c κ n k sl (QM below args s κ n0 rm P) st pc lv ([.ref v]) := fun hz H locs ls hW hS hl => by
  subst hn
  refine W.widen hk hs ?_
  exact W.aret C.1.1 C.1.2.1 C.2.2.1 (Or.inl ⟨_, rfl⟩) (Or.inr ⟨v, rfl⟩) (fun t ht hWm => ⟨_, st, rfl, hP, by rw [ht]; exact hW⟩) hS.2.2 d C.2.2.2.1
end RETS
end
section
theorem fX3_9 : LkF RX3 9 3 0 RX3 TX3 7 := ⟨rfl, iX3, by decide, k58⟩
theorem fX1_49 : LkF RX1 49 3 0 RX3 TX3 7 := ⟨rfl, iX3, by decide, k59⟩
theorem fX4_62 : LkF RX4 62 3 0 RX3 TX3 7 := ⟨rfl, iX3, by decide, k60⟩
theorem fX3_15 : LkF RX3 15 3 1 RX3 TX3 7 := ⟨rfl, iX3, by decide, k61⟩
theorem fX4_72 : LkF RX4 72 3 1 RX3 TX3 7 := ⟨rfl, iX3, by decide, k62⟩
theorem fX3_18 : LkF RX3 18 3 2 RX3 TX3 7 := ⟨rfl, iX3, by decide, k63⟩
theorem fX4_75 : LkF RX4 75 3 2 RX3 TX3 7 := ⟨rfl, iX3, by decide, k64⟩
theorem fX3_21 : LkF RX3 21 3 3 RX3 TX3 7 := ⟨rfl, iX3, by decide, k65⟩
theorem fX4_78 : LkF RX4 78 3 3 RX3 TX3 7 := ⟨rfl, iX3, by decide, k66⟩
theorem fX3_24 : LkF RX3 24 3 4 RX3 TX3 7 := ⟨rfl, iX3, by decide, k67⟩
theorem fX3_28 : LkF RX3 28 3 5 RX3 TX3 7 := ⟨rfl, iX3, by decide, k68⟩
theorem fX4_129 : LkF RX4 129 3 5 RX3 TX3 7 := ⟨rfl, iX3, by decide, k69⟩
theorem fX3_31 : LkF RX3 31 3 6 RX3 TX3 7 := ⟨rfl, iX3, by decide, k70⟩
theorem fX1_46 : LkF RX1 46 3 6 RX3 TX3 7 := ⟨rfl, iX3, by decide, k71⟩
theorem fX4_85 : LkF RX4 85 3 6 RX3 TX3 7 := ⟨rfl, iX3, by decide, k72⟩
theorem fX1_9 : LkF RX1 9 1 0 RX1 TX1 11 := ⟨rfl, iX1, by decide, k81⟩
theorem fX1_15 : LkF RX1 15 1 1 RX1 TX1 11 := ⟨rfl, iX1, by decide, k82⟩
theorem fX1_18 : LkF RX1 18 1 2 RX1 TX1 11 := ⟨rfl, iX1, by decide, k83⟩
theorem fX1_21 : LkF RX1 21 1 3 RX1 TX1 11 := ⟨rfl, iX1, by decide, k84⟩
theorem fX1_25 : LkF RX1 25 1 4 RX1 TX1 11 := ⟨rfl, iX1, by decide, k85⟩
theorem fX4_174 : LkF RX4 174 1 4 RX1 TX1 11 := ⟨rfl, iX1, by decide, k86⟩
theorem fX1_28 : LkF RX1 28 1 5 RX1 TX1 11 := ⟨rfl, iX1, by decide, k87⟩
theorem fX1_31 : LkF RX1 31 1 6 RX1 TX1 11 := ⟨rfl, iX1, by decide, k88⟩
theorem fX1_34 : LkF RX1 34 1 7 RX1 TX1 11 := ⟨rfl, iX1, by decide, k89⟩
theorem fX1_37 : LkF RX1 37 1 8 RX1 TX1 11 := ⟨rfl, iX1, by decide, k90⟩
theorem fX4_117 : LkF RX4 117 1 8 RX1 TX1 11 := ⟨rfl, iX1, by decide, k91⟩
theorem fX1_40 : LkF RX1 40 1 9 RX1 TX1 11 := ⟨rfl, iX1, by decide, k92⟩
theorem fX1_43 : LkF RX1 43 1 10 RX1 TX1 11 := ⟨rfl, iX1, by decide, k93⟩
theorem fX2_9 : LkF RX2 9 2 0 RX2 TX2 2 := ⟨rfl, iX2, by decide, k100⟩
theorem fX2_15 : LkF RX2 15 2 1 RX2 TX2 2 := ⟨rfl, iX2, by decide, k101⟩
theorem fX4_95 : LkF RX4 95 2 1 RX2 TX2 2 := ⟨rfl, iX2, by decide, k102⟩
theorem fX0_11 : LkF RX0 11 0 0 RX0 TX0 3 := ⟨rfl, iX0, by decide, k112⟩
theorem fX0_17 : LkF RX0 17 0 1 RX0 TX0 3 := ⟨rfl, iX0, by decide, k113⟩
theorem fX0_21 : LkF RX0 21 0 2 RX0 TX0 3 := ⟨rfl, iX0, by decide, k114⟩
theorem fX4_165 : LkF RX4 165 0 2 RX0 TX0 3 := ⟨rfl, iX0, by decide, k115⟩
theorem fX4_10 : LkF RX4 10 4 0 RX4 TX4 8 := ⟨rfl, iX4, by decide, k116⟩
theorem fX4_16 : LkF RX4 16 4 1 RX4 TX4 8 := ⟨rfl, iX4, by decide, k117⟩
theorem fX4_22 : LkF RX4 22 4 2 RX4 TX4 8 := ⟨rfl, iX4, by decide, k118⟩
theorem fX4_26 : LkF RX4 26 4 3 RX4 TX4 8 := ⟨rfl, iX4, by decide, k119⟩
theorem fX4_32 : LkF RX4 32 4 4 RX4 TX4 8 := ⟨rfl, iX4, by decide, k120⟩
theorem fX4_39 : LkF RX4 39 4 5 RX4 TX4 8 := ⟨rfl, iX4, by decide, k121⟩
theorem fX4_43 : LkF RX4 43 4 6 RX4 TX4 8 := ⟨rfl, iX4, by decide, k122⟩
theorem fX4_47 : LkF RX4 47 4 7 RX4 TX4 8 := ⟨rfl, iX4, by decide, k123⟩
theorem fX5_7 : LkF RX5 7 5 0 RX5 TX5 18 := ⟨rfl, iX5, by decide, k413⟩
theorem fX5_13 : LkF RX5 13 5 1 RX5 TX5 18 := ⟨rfl, iX5, by decide, k414⟩
theorem fX5_16 : LkF RX5 16 5 2 RX5 TX5 18 := ⟨rfl, iX5, by decide, k415⟩
theorem fX5_52 : LkF RX5 52 5 3 RX5 TX5 18 := ⟨rfl, iX5, by decide, k416⟩
theorem fX5_19 : LkF RX5 19 5 4 RX5 TX5 18 := ⟨rfl, iX5, by decide, k417⟩
theorem fX5_22 : LkF RX5 22 5 5 RX5 TX5 18 := ⟨rfl, iX5, by decide, k418⟩
theorem fX5_25 : LkF RX5 25 5 6 RX5 TX5 18 := ⟨rfl, iX5, by decide, k419⟩
theorem fX5_28 : LkF RX5 28 5 7 RX5 TX5 18 := ⟨rfl, iX5, by decide, k420⟩
theorem fX5_31 : LkF RX5 31 5 8 RX5 TX5 18 := ⟨rfl, iX5, by decide, k421⟩
theorem fX5_34 : LkF RX5 34 5 9 RX5 TX5 18 := ⟨rfl, iX5, by decide, k422⟩
theorem fX5_98 : LkF RX5 98 5 10 RX5 TX5 18 := ⟨rfl, iX5, by decide, k423⟩
theorem fX5_37 : LkF RX5 37 5 11 RX5 TX5 18 := ⟨rfl, iX5, by decide, k424⟩
theorem fX5_40 : LkF RX5 40 5 12 RX5 TX5 18 := ⟨rfl, iX5, by decide, k425⟩
theorem fX5_43 : LkF RX5 43 5 13 RX5 TX5 18 := ⟨rfl, iX5, by decide, k426⟩
theorem fX5_177 : LkF RX5 177 5 14 RX5 TX5 18 := ⟨rfl, iX5, by decide, k427⟩
theorem fX5_46 : LkF RX5 46 5 15 RX5 TX5 18 := ⟨rfl, iX5, by decide, k428⟩
theorem fX5_49 : LkF RX5 49 5 16 RX5 TX5 18 := ⟨rfl, iX5, by decide, k429⟩
theorem fX5_201 : LkF RX5 201 5 17 RX5 TX5 18 := ⟨rfl, iX5, by decide, k430⟩
theorem q0_0 : (∀ k, k < 3 → parseFieldDescriptor (TX0 k).2.2.1 = some (tyX0 k)) ∧ (∀ a, a < 3 → ∀ b, b < 3 → a ≠ b → (TX0 a).2.1 ≠ (TX0 b).2.1) ∧ (TX0 0).2.2.2 = true ∧ parseFieldDescriptor (TX0 0).2.2.1 = some (.array (.object "HungStops$Sheet")) := ⟨tyX0_ok, nmX0, rfl, tyX0_ok 0 (by decide)⟩
theorem q0_1 : (∀ k, k < 3 → parseFieldDescriptor (TX0 k).2.2.1 = some (tyX0 k)) ∧ (∀ a, a < 3 → ∀ b, b < 3 → a ≠ b → (TX0 a).2.1 ≠ (TX0 b).2.1) ∧ (TX0 1).2.2.2 = false ∧ parseFieldDescriptor (TX0 1).2.2.1 = some (.int) := ⟨tyX0_ok, nmX0, rfl, tyX0_ok 1 (by decide)⟩
theorem q0_2 : (∀ k, k < 3 → parseFieldDescriptor (TX0 k).2.2.1 = some (tyX0 k)) ∧ (∀ a, a < 3 → ∀ b, b < 3 → a ≠ b → (TX0 a).2.1 ≠ (TX0 b).2.1) ∧ (TX0 2).2.2.2 = false ∧ parseFieldDescriptor (TX0 2).2.2.1 = some (.int) := ⟨tyX0_ok, nmX0, rfl, tyX0_ok 2 (by decide)⟩
theorem q1_0 : (∀ k, k < 11 → parseFieldDescriptor (TX1 k).2.2.1 = some (tyX1 k)) ∧ (∀ a, a < 11 → ∀ b, b < 11 → a ≠ b → (TX1 a).2.1 ≠ (TX1 b).2.1) ∧ (TX1 0).2.2.2 = true ∧ parseFieldDescriptor (TX1 0).2.2.1 = some (.array .int) := ⟨tyX1_ok, nmX1, rfl, tyX1_ok 0 (by decide)⟩
theorem q1_1 : (∀ k, k < 11 → parseFieldDescriptor (TX1 k).2.2.1 = some (tyX1 k)) ∧ (∀ a, a < 11 → ∀ b, b < 11 → a ≠ b → (TX1 a).2.1 ≠ (TX1 b).2.1) ∧ (TX1 1).2.2.2 = true ∧ parseFieldDescriptor (TX1 1).2.2.1 = some (.array .int) := ⟨tyX1_ok, nmX1, rfl, tyX1_ok 1 (by decide)⟩
theorem q1_2 : (∀ k, k < 11 → parseFieldDescriptor (TX1 k).2.2.1 = some (tyX1 k)) ∧ (∀ a, a < 11 → ∀ b, b < 11 → a ≠ b → (TX1 a).2.1 ≠ (TX1 b).2.1) ∧ (TX1 2).2.2.2 = true ∧ parseFieldDescriptor (TX1 2).2.2.1 = some (.array .int) := ⟨tyX1_ok, nmX1, rfl, tyX1_ok 2 (by decide)⟩
theorem q1_3 : (∀ k, k < 11 → parseFieldDescriptor (TX1 k).2.2.1 = some (tyX1 k)) ∧ (∀ a, a < 11 → ∀ b, b < 11 → a ≠ b → (TX1 a).2.1 ≠ (TX1 b).2.1) ∧ (TX1 3).2.2.2 = false ∧ parseFieldDescriptor (TX1 3).2.2.1 = some (.int) := ⟨tyX1_ok, nmX1, rfl, tyX1_ok 3 (by decide)⟩
theorem q1_4 : (∀ k, k < 11 → parseFieldDescriptor (TX1 k).2.2.1 = some (tyX1 k)) ∧ (∀ a, a < 11 → ∀ b, b < 11 → a ≠ b → (TX1 a).2.1 ≠ (TX1 b).2.1) ∧ (TX1 4).2.2.2 = false ∧ parseFieldDescriptor (TX1 4).2.2.1 = some (.int) := ⟨tyX1_ok, nmX1, rfl, tyX1_ok 4 (by decide)⟩
theorem q1_5 : (∀ k, k < 11 → parseFieldDescriptor (TX1 k).2.2.1 = some (tyX1 k)) ∧ (∀ a, a < 11 → ∀ b, b < 11 → a ≠ b → (TX1 a).2.1 ≠ (TX1 b).2.1) ∧ (TX1 5).2.2.2 = false ∧ parseFieldDescriptor (TX1 5).2.2.1 = some (.int) := ⟨tyX1_ok, nmX1, rfl, tyX1_ok 5 (by decide)⟩
theorem q1_6 : (∀ k, k < 11 → parseFieldDescriptor (TX1 k).2.2.1 = some (tyX1 k)) ∧ (∀ a, a < 11 → ∀ b, b < 11 → a ≠ b → (TX1 a).2.1 ≠ (TX1 b).2.1) ∧ (TX1 6).2.2.2 = false ∧ parseFieldDescriptor (TX1 6).2.2.1 = some (.int) := ⟨tyX1_ok, nmX1, rfl, tyX1_ok 6 (by decide)⟩
theorem q1_7 : (∀ k, k < 11 → parseFieldDescriptor (TX1 k).2.2.1 = some (tyX1 k)) ∧ (∀ a, a < 11 → ∀ b, b < 11 → a ≠ b → (TX1 a).2.1 ≠ (TX1 b).2.1) ∧ (TX1 7).2.2.2 = true ∧ parseFieldDescriptor (TX1 7).2.2.1 = some (.array .int) := ⟨tyX1_ok, nmX1, rfl, tyX1_ok 7 (by decide)⟩
theorem q1_8 : (∀ k, k < 11 → parseFieldDescriptor (TX1 k).2.2.1 = some (tyX1 k)) ∧ (∀ a, a < 11 → ∀ b, b < 11 → a ≠ b → (TX1 a).2.1 ≠ (TX1 b).2.1) ∧ (TX1 8).2.2.2 = false ∧ parseFieldDescriptor (TX1 8).2.2.1 = some (.int) := ⟨tyX1_ok, nmX1, rfl, tyX1_ok 8 (by decide)⟩
theorem q1_9 : (∀ k, k < 11 → parseFieldDescriptor (TX1 k).2.2.1 = some (tyX1 k)) ∧ (∀ a, a < 11 → ∀ b, b < 11 → a ≠ b → (TX1 a).2.1 ≠ (TX1 b).2.1) ∧ (TX1 9).2.2.2 = true ∧ parseFieldDescriptor (TX1 9).2.2.1 = some (.array .int) := ⟨tyX1_ok, nmX1, rfl, tyX1_ok 9 (by decide)⟩
theorem q1_10 : (∀ k, k < 11 → parseFieldDescriptor (TX1 k).2.2.1 = some (tyX1 k)) ∧ (∀ a, a < 11 → ∀ b, b < 11 → a ≠ b → (TX1 a).2.1 ≠ (TX1 b).2.1) ∧ (TX1 10).2.2.2 = true ∧ parseFieldDescriptor (TX1 10).2.2.1 = some (.array .int) := ⟨tyX1_ok, nmX1, rfl, tyX1_ok 10 (by decide)⟩
theorem q2_0 : (∀ k, k < 2 → parseFieldDescriptor (TX2 k).2.2.1 = some (tyX2 k)) ∧ (∀ a, a < 2 → ∀ b, b < 2 → a ≠ b → (TX2 a).2.1 ≠ (TX2 b).2.1) ∧ (TX2 0).2.2.2 = true ∧ parseFieldDescriptor (TX2 0).2.2.1 = some (.array .char) := ⟨tyX2_ok, nmX2, rfl, tyX2_ok 0 (by decide)⟩
theorem q2_1 : (∀ k, k < 2 → parseFieldDescriptor (TX2 k).2.2.1 = some (tyX2 k)) ∧ (∀ a, a < 2 → ∀ b, b < 2 → a ≠ b → (TX2 a).2.1 ≠ (TX2 b).2.1) ∧ (TX2 1).2.2.2 = false ∧ parseFieldDescriptor (TX2 1).2.2.1 = some (.int) := ⟨tyX2_ok, nmX2, rfl, tyX2_ok 1 (by decide)⟩
theorem q3_0 : (∀ k, k < 7 → parseFieldDescriptor (TX3 k).2.2.1 = some (tyX3 k)) ∧ (∀ a, a < 7 → ∀ b, b < 7 → a ≠ b → (TX3 a).2.1 ≠ (TX3 b).2.1) ∧ (TX3 0).2.2.2 = true ∧ parseFieldDescriptor (TX3 0).2.2.1 = some (.array .int) := ⟨tyX3_ok, nmX3, rfl, tyX3_ok 0 (by decide)⟩
theorem q3_1 : (∀ k, k < 7 → parseFieldDescriptor (TX3 k).2.2.1 = some (tyX3 k)) ∧ (∀ a, a < 7 → ∀ b, b < 7 → a ≠ b → (TX3 a).2.1 ≠ (TX3 b).2.1) ∧ (TX3 1).2.2.2 = true ∧ parseFieldDescriptor (TX3 1).2.2.1 = some (.array .int) := ⟨tyX3_ok, nmX3, rfl, tyX3_ok 1 (by decide)⟩
theorem q3_2 : (∀ k, k < 7 → parseFieldDescriptor (TX3 k).2.2.1 = some (tyX3 k)) ∧ (∀ a, a < 7 → ∀ b, b < 7 → a ≠ b → (TX3 a).2.1 ≠ (TX3 b).2.1) ∧ (TX3 2).2.2.2 = true ∧ parseFieldDescriptor (TX3 2).2.2.1 = some (.array .int) := ⟨tyX3_ok, nmX3, rfl, tyX3_ok 2 (by decide)⟩
theorem q3_3 : (∀ k, k < 7 → parseFieldDescriptor (TX3 k).2.2.1 = some (tyX3 k)) ∧ (∀ a, a < 7 → ∀ b, b < 7 → a ≠ b → (TX3 a).2.1 ≠ (TX3 b).2.1) ∧ (TX3 3).2.2.2 = true ∧ parseFieldDescriptor (TX3 3).2.2.1 = some (.array .int) := ⟨tyX3_ok, nmX3, rfl, tyX3_ok 3 (by decide)⟩
theorem q3_4 : (∀ k, k < 7 → parseFieldDescriptor (TX3 k).2.2.1 = some (tyX3 k)) ∧ (∀ a, a < 7 → ∀ b, b < 7 → a ≠ b → (TX3 a).2.1 ≠ (TX3 b).2.1) ∧ (TX3 4).2.2.2 = true ∧ parseFieldDescriptor (TX3 4).2.2.1 = some (.array .char) := ⟨tyX3_ok, nmX3, rfl, tyX3_ok 4 (by decide)⟩
theorem q3_5 : (∀ k, k < 7 → parseFieldDescriptor (TX3 k).2.2.1 = some (tyX3 k)) ∧ (∀ a, a < 7 → ∀ b, b < 7 → a ≠ b → (TX3 a).2.1 ≠ (TX3 b).2.1) ∧ (TX3 5).2.2.2 = true ∧ parseFieldDescriptor (TX3 5).2.2.1 = some (.array .int) := ⟨tyX3_ok, nmX3, rfl, tyX3_ok 5 (by decide)⟩
theorem q3_6 : (∀ k, k < 7 → parseFieldDescriptor (TX3 k).2.2.1 = some (tyX3 k)) ∧ (∀ a, a < 7 → ∀ b, b < 7 → a ≠ b → (TX3 a).2.1 ≠ (TX3 b).2.1) ∧ (TX3 6).2.2.2 = false ∧ parseFieldDescriptor (TX3 6).2.2.1 = some (.int) := ⟨tyX3_ok, nmX3, rfl, tyX3_ok 6 (by decide)⟩
theorem q4_0 : (∀ k, k < 8 → parseFieldDescriptor (TX4 k).2.2.1 = some (tyX4 k)) ∧ (∀ a, a < 8 → ∀ b, b < 8 → a ≠ b → (TX4 a).2.1 ≠ (TX4 b).2.1) ∧ (TX4 0).2.2.2 = true ∧ parseFieldDescriptor (TX4 0).2.2.1 = some (.object "HungStops$Sheet") := ⟨tyX4_ok, nmX4, rfl, tyX4_ok 0 (by decide)⟩
theorem q4_1 : (∀ k, k < 8 → parseFieldDescriptor (TX4 k).2.2.1 = some (tyX4 k)) ∧ (∀ a, a < 8 → ∀ b, b < 8 → a ≠ b → (TX4 a).2.1 ≠ (TX4 b).2.1) ∧ (TX4 1).2.2.2 = true ∧ parseFieldDescriptor (TX4 1).2.2.1 = some (.object "HungStops$Sheet") := ⟨tyX4_ok, nmX4, rfl, tyX4_ok 1 (by decide)⟩
theorem q4_2 : (∀ k, k < 8 → parseFieldDescriptor (TX4 k).2.2.1 = some (tyX4 k)) ∧ (∀ a, a < 8 → ∀ b, b < 8 → a ≠ b → (TX4 a).2.1 ≠ (TX4 b).2.1) ∧ (TX4 2).2.2.2 = true ∧ parseFieldDescriptor (TX4 2).2.2.1 = some (.object "HungStops$Layout") := ⟨tyX4_ok, nmX4, rfl, tyX4_ok 2 (by decide)⟩
theorem q4_3 : (∀ k, k < 8 → parseFieldDescriptor (TX4 k).2.2.1 = some (tyX4 k)) ∧ (∀ a, a < 8 → ∀ b, b < 8 → a ≠ b → (TX4 a).2.1 ≠ (TX4 b).2.1) ∧ (TX4 3).2.2.2 = true ∧ parseFieldDescriptor (TX4 3).2.2.1 = some (.object "HungStops$Layout") := ⟨tyX4_ok, nmX4, rfl, tyX4_ok 3 (by decide)⟩
theorem q4_4 : (∀ k, k < 8 → parseFieldDescriptor (TX4 k).2.2.1 = some (tyX4 k)) ∧ (∀ a, a < 8 → ∀ b, b < 8 → a ≠ b → (TX4 a).2.1 ≠ (TX4 b).2.1) ∧ (TX4 4).2.2.2 = true ∧ parseFieldDescriptor (TX4 4).2.2.1 = some (.object "HungStops$Pad") := ⟨tyX4_ok, nmX4, rfl, tyX4_ok 4 (by decide)⟩
theorem q4_5 : (∀ k, k < 8 → parseFieldDescriptor (TX4 k).2.2.1 = some (tyX4 k)) ∧ (∀ a, a < 8 → ∀ b, b < 8 → a ≠ b → (TX4 a).2.1 ≠ (TX4 b).2.1) ∧ (TX4 5).2.2.2 = true ∧ parseFieldDescriptor (TX4 5).2.2.1 = some (.object "HungStops$History") := ⟨tyX4_ok, nmX4, rfl, tyX4_ok 5 (by decide)⟩
theorem q4_6 : (∀ k, k < 8 → parseFieldDescriptor (TX4 k).2.2.1 = some (tyX4 k)) ∧ (∀ a, a < 8 → ∀ b, b < 8 → a ≠ b → (TX4 a).2.1 ≠ (TX4 b).2.1) ∧ (TX4 6).2.2.2 = true ∧ parseFieldDescriptor (TX4 6).2.2.1 = some (.array (.object "HungStops$Sheet")) := ⟨tyX4_ok, nmX4, rfl, tyX4_ok 6 (by decide)⟩
theorem q4_7 : (∀ k, k < 8 → parseFieldDescriptor (TX4 k).2.2.1 = some (tyX4 k)) ∧ (∀ a, a < 8 → ∀ b, b < 8 → a ≠ b → (TX4 a).2.1 ≠ (TX4 b).2.1) ∧ (TX4 7).2.2.2 = true ∧ parseFieldDescriptor (TX4 7).2.2.1 = some (.array .boolean) := ⟨tyX4_ok, nmX4, rfl, tyX4_ok 7 (by decide)⟩
theorem q5_0 : (∀ k, k < 18 → parseFieldDescriptor (TX5 k).2.2.1 = some (tyX5 k)) ∧ (∀ a, a < 18 → ∀ b, b < 18 → a ≠ b → (TX5 a).2.1 ≠ (TX5 b).2.1) ∧ (TX5 0).2.2.2 = true ∧ parseFieldDescriptor (TX5 0).2.2.1 = some (.array .int) := ⟨tyX5_ok, nmX5, rfl, tyX5_ok 0 (by decide)⟩
theorem q5_1 : (∀ k, k < 18 → parseFieldDescriptor (TX5 k).2.2.1 = some (tyX5 k)) ∧ (∀ a, a < 18 → ∀ b, b < 18 → a ≠ b → (TX5 a).2.1 ≠ (TX5 b).2.1) ∧ (TX5 1).2.2.2 = true ∧ parseFieldDescriptor (TX5 1).2.2.1 = some (.array .int) := ⟨tyX5_ok, nmX5, rfl, tyX5_ok 1 (by decide)⟩
theorem q5_2 : (∀ k, k < 18 → parseFieldDescriptor (TX5 k).2.2.1 = some (tyX5 k)) ∧ (∀ a, a < 18 → ∀ b, b < 18 → a ≠ b → (TX5 a).2.1 ≠ (TX5 b).2.1) ∧ (TX5 2).2.2.2 = true ∧ parseFieldDescriptor (TX5 2).2.2.1 = some (.array .int) := ⟨tyX5_ok, nmX5, rfl, tyX5_ok 2 (by decide)⟩
theorem q5_3 : (∀ k, k < 18 → parseFieldDescriptor (TX5 k).2.2.1 = some (tyX5 k)) ∧ (∀ a, a < 18 → ∀ b, b < 18 → a ≠ b → (TX5 a).2.1 ≠ (TX5 b).2.1) ∧ (TX5 3).2.2.2 = false ∧ parseFieldDescriptor (TX5 3).2.2.1 = some (.int) := ⟨tyX5_ok, nmX5, rfl, tyX5_ok 3 (by decide)⟩
theorem q5_4 : (∀ k, k < 18 → parseFieldDescriptor (TX5 k).2.2.1 = some (tyX5 k)) ∧ (∀ a, a < 18 → ∀ b, b < 18 → a ≠ b → (TX5 a).2.1 ≠ (TX5 b).2.1) ∧ (TX5 4).2.2.2 = true ∧ parseFieldDescriptor (TX5 4).2.2.1 = some (.array .int) := ⟨tyX5_ok, nmX5, rfl, tyX5_ok 4 (by decide)⟩
theorem q5_5 : (∀ k, k < 18 → parseFieldDescriptor (TX5 k).2.2.1 = some (tyX5 k)) ∧ (∀ a, a < 18 → ∀ b, b < 18 → a ≠ b → (TX5 a).2.1 ≠ (TX5 b).2.1) ∧ (TX5 5).2.2.2 = true ∧ parseFieldDescriptor (TX5 5).2.2.1 = some (.array .int) := ⟨tyX5_ok, nmX5, rfl, tyX5_ok 5 (by decide)⟩
theorem q5_6 : (∀ k, k < 18 → parseFieldDescriptor (TX5 k).2.2.1 = some (tyX5 k)) ∧ (∀ a, a < 18 → ∀ b, b < 18 → a ≠ b → (TX5 a).2.1 ≠ (TX5 b).2.1) ∧ (TX5 6).2.2.2 = true ∧ parseFieldDescriptor (TX5 6).2.2.1 = some (.array .int) := ⟨tyX5_ok, nmX5, rfl, tyX5_ok 6 (by decide)⟩
theorem q5_7 : (∀ k, k < 18 → parseFieldDescriptor (TX5 k).2.2.1 = some (tyX5 k)) ∧ (∀ a, a < 18 → ∀ b, b < 18 → a ≠ b → (TX5 a).2.1 ≠ (TX5 b).2.1) ∧ (TX5 7).2.2.2 = true ∧ parseFieldDescriptor (TX5 7).2.2.1 = some (.array .int) := ⟨tyX5_ok, nmX5, rfl, tyX5_ok 7 (by decide)⟩
theorem q5_8 : (∀ k, k < 18 → parseFieldDescriptor (TX5 k).2.2.1 = some (tyX5 k)) ∧ (∀ a, a < 18 → ∀ b, b < 18 → a ≠ b → (TX5 a).2.1 ≠ (TX5 b).2.1) ∧ (TX5 8).2.2.2 = true ∧ parseFieldDescriptor (TX5 8).2.2.1 = some (.array .int) := ⟨tyX5_ok, nmX5, rfl, tyX5_ok 8 (by decide)⟩
theorem q5_9 : (∀ k, k < 18 → parseFieldDescriptor (TX5 k).2.2.1 = some (tyX5 k)) ∧ (∀ a, a < 18 → ∀ b, b < 18 → a ≠ b → (TX5 a).2.1 ≠ (TX5 b).2.1) ∧ (TX5 9).2.2.2 = true ∧ parseFieldDescriptor (TX5 9).2.2.1 = some (.array .int) := ⟨tyX5_ok, nmX5, rfl, tyX5_ok 9 (by decide)⟩
theorem q5_10 : (∀ k, k < 18 → parseFieldDescriptor (TX5 k).2.2.1 = some (tyX5 k)) ∧ (∀ a, a < 18 → ∀ b, b < 18 → a ≠ b → (TX5 a).2.1 ≠ (TX5 b).2.1) ∧ (TX5 10).2.2.2 = false ∧ parseFieldDescriptor (TX5 10).2.2.1 = some (.int) := ⟨tyX5_ok, nmX5, rfl, tyX5_ok 10 (by decide)⟩
theorem q5_11 : (∀ k, k < 18 → parseFieldDescriptor (TX5 k).2.2.1 = some (tyX5 k)) ∧ (∀ a, a < 18 → ∀ b, b < 18 → a ≠ b → (TX5 a).2.1 ≠ (TX5 b).2.1) ∧ (TX5 11).2.2.2 = true ∧ parseFieldDescriptor (TX5 11).2.2.1 = some (.array .int) := ⟨tyX5_ok, nmX5, rfl, tyX5_ok 11 (by decide)⟩
theorem q5_12 : (∀ k, k < 18 → parseFieldDescriptor (TX5 k).2.2.1 = some (tyX5 k)) ∧ (∀ a, a < 18 → ∀ b, b < 18 → a ≠ b → (TX5 a).2.1 ≠ (TX5 b).2.1) ∧ (TX5 12).2.2.2 = true ∧ parseFieldDescriptor (TX5 12).2.2.1 = some (.array .int) := ⟨tyX5_ok, nmX5, rfl, tyX5_ok 12 (by decide)⟩
theorem q5_13 : (∀ k, k < 18 → parseFieldDescriptor (TX5 k).2.2.1 = some (tyX5 k)) ∧ (∀ a, a < 18 → ∀ b, b < 18 → a ≠ b → (TX5 a).2.1 ≠ (TX5 b).2.1) ∧ (TX5 13).2.2.2 = true ∧ parseFieldDescriptor (TX5 13).2.2.1 = some (.array .int) := ⟨tyX5_ok, nmX5, rfl, tyX5_ok 13 (by decide)⟩
theorem q5_14 : (∀ k, k < 18 → parseFieldDescriptor (TX5 k).2.2.1 = some (tyX5 k)) ∧ (∀ a, a < 18 → ∀ b, b < 18 → a ≠ b → (TX5 a).2.1 ≠ (TX5 b).2.1) ∧ (TX5 14).2.2.2 = false ∧ parseFieldDescriptor (TX5 14).2.2.1 = some (.int) := ⟨tyX5_ok, nmX5, rfl, tyX5_ok 14 (by decide)⟩
theorem q5_15 : (∀ k, k < 18 → parseFieldDescriptor (TX5 k).2.2.1 = some (tyX5 k)) ∧ (∀ a, a < 18 → ∀ b, b < 18 → a ≠ b → (TX5 a).2.1 ≠ (TX5 b).2.1) ∧ (TX5 15).2.2.2 = true ∧ parseFieldDescriptor (TX5 15).2.2.1 = some (.array .int) := ⟨tyX5_ok, nmX5, rfl, tyX5_ok 15 (by decide)⟩
theorem q5_16 : (∀ k, k < 18 → parseFieldDescriptor (TX5 k).2.2.1 = some (tyX5 k)) ∧ (∀ a, a < 18 → ∀ b, b < 18 → a ≠ b → (TX5 a).2.1 ≠ (TX5 b).2.1) ∧ (TX5 16).2.2.2 = true ∧ parseFieldDescriptor (TX5 16).2.2.1 = some (.array .int) := ⟨tyX5_ok, nmX5, rfl, tyX5_ok 16 (by decide)⟩
theorem q5_17 : (∀ k, k < 18 → parseFieldDescriptor (TX5 k).2.2.1 = some (tyX5 k)) ∧ (∀ a, a < 18 → ∀ b, b < 18 → a ≠ b → (TX5 a).2.1 ≠ (TX5 b).2.1) ∧ (TX5 17).2.2.2 = false ∧ parseFieldDescriptor (TX5 17).2.2.1 = some (.int) := ⟨tyX5_ok, nmX5, rfl, tyX5_ok 17 (by decide)⟩
theorem vL_9 : LkI RL 9 yX4_init cX4_init 1 0 := ⟨k46, k47, k36, k48, rfl, by decide, by decide, by decide +kernel⟩
theorem vX4_9 : LkIN RX4 9 yX3_init cX3_init 1 0 := ⟨fun κ s h => h.2.1.1, k55, k37, k56, rfl, by decide, by decide, by decide +kernel⟩
theorem vX4_21 : LkIN RX4 21 yX1_init cX1_init 1 0 := ⟨fun κ s h => h.2.1.2.1, k78, k38, k79, rfl, by decide, by decide, by decide +kernel⟩
theorem vX4_31 : LkIN RX4 31 yX2_init cX2_init 1 0 := ⟨fun κ s h => h.2.1.2.2.1, k97, k39, k98, rfl, by decide, by decide, by decide +kernel⟩
theorem vX4_38 : LkI RX4 38 yX0_init cX0_init 2 0 := ⟨k105, k106, k40, k107, rfl, by decide, by decide, by decide +kernel⟩
theorem vX0_24 : LkIN RX0 24 yX3_init cX3_init 1 0 := ⟨fun κ s h => h.2.1.2.2.2.1, k55, k37, k56, rfl, by decide, by decide, by decide +kernel⟩
theorem vL_13 : LkV RL 13 RX4 yX4_set cX4_set 4 (some .int) 2 := ⟨k125, k126, k127, k36, k128, rfl, by decide, by decide, by decide +kernel⟩
theorem vX4_58 : LkV RX4 58 RX0 yX0_record cX0_record 2 none 1 := ⟨k133, k134, k135, k40, k136, rfl, by decide, by decide, by decide +kernel⟩
theorem vX0_25 : LkV RX0 25 RX3 yX3_copyFrom cX3_copyFrom 2 none 1 := ⟨k137, k138, k139, k37, k140, rfl, by decide, by decide, by decide +kernel⟩
theorem vL_18 : LkV RL 18 RX4 yX4_sort cX4_sort 6 (some .int) 4 := ⟨k144, k145, k146, k36, k147, rfl, by decide, by decide, by decide +kernel⟩
theorem vX4_65 : LkS RX4 65 yX4_isSort cX4_isSort 1 (some .boolean) 1 := ⟨k148, k149, k36, k150, by decide, by decide, by decide +kernel⟩
theorem vX4_69 : LkS RX4 69 yX4_isShare cX4_isShare 1 (some .boolean) 1 := ⟨k151, k152, k36, k153, by decide, by decide, by decide +kernel⟩
theorem vL_23 : LkV RL 23 RX4 yX4_read cX4_read 1 (some .int) 0 := ⟨k154, k155, k156, k36, k157, rfl, by decide, by decide, by decide +kernel⟩
theorem vX4_81 : LkV RX4 81 RX2 yX2_firstFault cX2_firstFault 3 (some .int) 0 := ⟨k158, k159, k160, k39, k161, rfl, by decide, by decide, by decide +kernel⟩
theorem vX2_21 : LkSN RX2 21 yX4_sortWith cX4_sortWith 1 (some .int) 1 := ⟨fun κ s h => h.2.1.2.2.2.2.1, k163, k36, k164, by decide, by decide, by decide +kernel⟩
theorem vX4_89 : LkV RX4 89 RX2 yX2_countWords cX2_countWords 3 (some .int) 0 := ⟨k165, k166, k167, k39, k168, rfl, by decide, by decide, by decide +kernel⟩
theorem vX4_92 : LkV RX4 92 RX2 yX2_addWordsTo cX2_addWordsTo 3 none 1 := ⟨k169, k170, k171, k39, k172, rfl, by decide, by decide, by decide +kernel⟩
theorem vX2_25 : LkV RX2 25 RX3 yX3_beginWord cX3_beginWord 1 none 0 := ⟨k173, k174, k175, k37, k176, rfl, by decide, by decide, by decide +kernel⟩
theorem vX2_30 : LkV RX2 30 RX3 yX3_addSign cX3_addSign 3 none 1 := ⟨k177, k178, k179, k37, k180, rfl, by decide, by decide, by decide +kernel⟩
theorem vL_28 : LkV RL 28 RX4 yX4_drop cX4_drop 3 (some .int) 1 := ⟨k181, k182, k183, k36, k184, rfl, by decide, by decide, by decide +kernel⟩
theorem vX4_98 : LkV RX4 98 RX4 yX4_isWord cX4_isWord 2 (some .boolean) 1 := ⟨k185, k186, k0, k36, k187, rfl, by decide, by decide, by decide +kernel⟩
theorem vX4_101 : LkV RX4 101 RX3 yX3_widthOf cX3_widthOf 4 (some .int) 1 := ⟨k188, k189, k190, k37, k191, rfl, by decide, by decide, by decide +kernel⟩
theorem vX3_55 : LkV RX3 55 RX3 yX3_sortAt cX3_sortAt 3 (some .int) 2 := ⟨k192, k193, k194, k37, k195, rfl, by decide, by decide, by decide +kernel⟩
theorem vX3_41 : LkV RX3 41 RX3 yX3_signAt cX3_signAt 3 (some .char) 2 := ⟨k196, k197, k198, k37, k199, rfl, by decide, by decide, by decide +kernel⟩
theorem vX3_45 : LkSN RX3 45 yX4_sortWith cX4_sortWith 1 (some .int) 1 := ⟨fun κ s h => h.2.1.2.2.2.2.2, k163, k36, k164, by decide, by decide, by decide +kernel⟩
theorem vX4_105 : LkV RX4 105 RX3 yX3_takeOut cX3_takeOut 3 none 1 := ⟨k204, k205, k206, k37, k207, rfl, by decide, by decide, by decide +kernel⟩
theorem vL_33 : LkV RL 33 RX4 yX4_swap cX4_swap 3 (some .int) 2 := ⟨k208, k209, k210, k36, k211, rfl, by decide, by decide, by decide +kernel⟩
theorem vX4_109 : LkV RX4 109 RX3 yX3_exchange cX3_exchange 5 none 2 := ⟨k212, k213, k214, k37, k215, rfl, by decide, by decide, by decide +kernel⟩
theorem vX4_113 : LkV RX4 113 RX4 yX4_broken cX4_broken 3 (some (.object "HungStops$Layout")) 1 := ⟨k216, k217, k1, k36, k218, rfl, by decide, by decide, by decide +kernel⟩
theorem vX4_168 : LkV RX4 168 RX1 yX1_weigh cX1_weigh 3 none 1 := ⟨k219, k220, k221, k38, k222, rfl, by decide, by decide, by decide +kernel⟩
theorem vX1_52 : LkV RX1 52 RX3 yX3_widthOf cX3_widthOf 4 (some .int) 1 := ⟨k223, k189, k190, k37, k191, rfl, by decide, by decide, by decide +kernel⟩
theorem vX1_56 : LkV RX1 56 RX3 yX3_leftHangOf cX3_leftHangOf 2 (some .int) 1 := ⟨k224, k225, k226, k37, k227, rfl, by decide, by decide, by decide +kernel⟩
theorem vX3_58 : LkV RX3 58 RX3 yX3_hangAtLeft cX3_hangAtLeft 2 (some .int) 1 := ⟨k228, k229, k230, k37, k231, rfl, by decide, by decide, by decide +kernel⟩
theorem vX1_59 : LkV RX1 59 RX3 yX3_rightHangOf cX3_rightHangOf 2 (some .int) 1 := ⟨k232, k233, k234, k37, k235, rfl, by decide, by decide, by decide +kernel⟩
theorem vX3_61 : LkV RX3 61 RX3 yX3_hangAtRight cX3_hangAtRight 2 (some .int) 1 := ⟨k236, k237, k238, k37, k239, rfl, by decide, by decide, by decide +kernel⟩
theorem vX4_177 : LkV RX4 177 RX1 yX1_fillGreedily cX1_fillGreedily 2 none 0 := ⟨k240, k241, k242, k38, k243, rfl, by decide, by decide, by decide +kernel⟩
theorem vX1_66 : LkV RX1 66 RX1 yX1_bodyOf cX1_bodyOf 3 (some .int) 2 := ⟨k244, k245, k246, k38, k247, rfl, by decide, by decide, by decide +kernel⟩
theorem vX1_62 : LkV RX1 62 RX1 yX1_widthFrom cX1_widthFrom 3 (some .int) 2 := ⟨k248, k249, k250, k38, k251, rfl, by decide, by decide, by decide +kernel⟩
theorem vX4_198 : LkV RX4 198 RX1 yX1_breakBest cX1_breakBest 3 none 0 := ⟨k252, k253, k254, k38, k255, rfl, by decide, by decide, by decide +kernel⟩
theorem vX1_69 : LkV RX1 69 RX1 yX1_leastBadness cX1_leastBadness 2 (some .int) 0 := ⟨k256, k257, k258, k38, k259, rfl, by decide, by decide, by decide +kernel⟩
theorem vX1_73 : LkV RX1 73 RX1 yX1_findFirstLine cX1_findFirstLine 4 none 1 := ⟨k260, k261, k2, k38, k262, rfl, by decide, by decide, by decide +kernel⟩
theorem vX1_77 : LkV RX1 77 RX1 yX1_badnessOf cX1_badnessOf 4 (some .int) 2 := ⟨k263, k264, k3, k38, k265, rfl, by decide, by decide, by decide +kernel⟩
theorem vL_37 : LkV RL 37 RX4 yX4_clear cX4_clear 2 (some .int) 0 := ⟨k266, k267, k268, k36, k269, rfl, by decide, by decide, by decide +kernel⟩
theorem vL_41 : LkV RL 41 RX4 yX4_sortOf cX4_sortOf 3 (some .int) 2 := ⟨k270, k271, k272, k36, k273, rfl, by decide, by decide, by decide +kernel⟩
theorem vX4_120 : LkV RX4 120 RX3 yX3_hangAtLeft cX3_hangAtLeft 2 (some .int) 1 := ⟨k274, k229, k230, k37, k231, rfl, by decide, by decide, by decide +kernel⟩
theorem vX4_123 : LkV RX4 123 RX3 yX3_hangAtRight cX3_hangAtRight 2 (some .int) 1 := ⟨k275, k237, k238, k37, k239, rfl, by decide, by decide, by decide +kernel⟩
theorem vX4_126 : LkV RX4 126 RX3 yX3_countOf cX3_countOf 5 (some .int) 1 := ⟨k276, k277, k278, k37, k279, rfl, by decide, by decide, by decide +kernel⟩
theorem vL_45 : LkV RL 45 RX4 yX4_word cX4_word 3 (some .int) 2 := ⟨k280, k281, k282, k36, k283, rfl, by decide, by decide, by decide +kernel⟩
theorem vX4_132 : LkV RX4 132 RX1 yX1_lineWith cX1_lineWith 4 (some .int) 1 := ⟨k284, k285, k286, k38, k287, rfl, by decide, by decide, by decide +kernel⟩
theorem vX4_135 : LkV RX4 135 RX3 yX3_signAt cX3_signAt 3 (some .char) 2 := ⟨k288, k197, k198, k37, k199, rfl, by decide, by decide, by decide +kernel⟩
theorem vL_49 : LkV RL 49 RX4 yX4_line cX4_line 5 (some .int) 3 := ⟨k289, k290, k291, k36, k292, rfl, by decide, by decide, by decide +kernel⟩
theorem vX4_139 : LkS RX4 139 yX4_isWay cX4_isWay 1 (some .boolean) 1 := ⟨k293, k294, k36, k295, by decide, by decide, by decide +kernel⟩
theorem vX4_142 : LkV RX4 142 RX1 yX1_tellLine cX1_tellLine 3 (some .int) 2 := ⟨k296, k297, k298, k38, k299, rfl, by decide, by decide, by decide +kernel⟩
theorem vX1_80 : LkV RX1 80 RX1 yX1_lastWord cX1_lastWord 2 (some .int) 1 := ⟨k300, k301, k302, k38, k303, rfl, by decide, by decide, by decide +kernel⟩
theorem vX1_83 : LkV RX1 83 RX1 yX1_bodyOfLine cX1_bodyOfLine 2 (some .int) 1 := ⟨k304, k305, k306, k38, k307, rfl, by decide, by decide, by decide +kernel⟩
theorem vX1_86 : LkV RX1 86 RX1 yX1_fits cX1_fits 2 (some .boolean) 1 := ⟨k308, k309, k310, k38, k311, rfl, by decide, by decide, by decide +kernel⟩
theorem vX1_90 : LkV RX1 90 RX1 yX1_looksIndented cX1_looksIndented 2 (some .boolean) 1 := ⟨k312, k313, k314, k38, k315, rfl, by decide, by decide, by decide +kernel⟩
theorem vL_54 : LkV RL 54 RX4 yX4_lines cX4_lines 3 (some .int) 2 := ⟨k316, k317, k318, k36, k319, rfl, by decide, by decide, by decide +kernel⟩
theorem vX4_146 : LkV RX4 146 RX1 yX1_badness cX1_badness 3 (some .int) 0 := ⟨k320, k321, k322, k38, k323, rfl, by decide, by decide, by decide +kernel⟩
theorem vX4_149 : LkV RX4 149 RX1 yX1_countIndented cX1_countIndented 3 (some .int) 0 := ⟨k324, k325, k326, k38, k327, rfl, by decide, by decide, by decide +kernel⟩
theorem vX4_152 : LkV RX4 152 RX1 yX1_countUnfit cX1_countUnfit 3 (some .int) 0 := ⟨k328, k329, k330, k38, k331, rfl, by decide, by decide, by decide +kernel⟩
theorem vX4_155 : LkV RX4 155 RX1 yX1_greatestBody cX1_greatestBody 3 (some .int) 0 := ⟨k332, k333, k334, k38, k335, rfl, by decide, by decide, by decide +kernel⟩
theorem vL_58 : LkV RL 58 RX4 yX4_count cX4_count 2 (some .int) 1 := ⟨k337, k338, k339, k36, k340, rfl, by decide, by decide, by decide +kernel⟩
theorem vX4_158 : LkV RX4 158 RX3 yX3_countSigns cX3_countSigns 3 (some .int) 0 := ⟨k341, k342, k343, k37, k344, rfl, by decide, by decide, by decide +kernel⟩
theorem vX4_161 : LkV RX4 161 RX1 yX1_breaksLike cX1_breaksLike 3 (some .boolean) 1 := ⟨k345, k346, k347, k38, k348, rfl, by decide, by decide, by decide +kernel⟩
theorem vL_62 : LkV RL 62 RX4 yX4_body cX4_body 3 (some .int) 2 := ⟨k349, k350, k351, k36, k352, rfl, by decide, by decide, by decide +kernel⟩
theorem vX4_171 : LkV RX4 171 RX1 yX1_bodyOf cX1_bodyOf 3 (some .int) 2 := ⟨k353, k245, k246, k38, k247, rfl, by decide, by decide, by decide +kernel⟩
theorem vL_66 : LkV RL 66 RX4 yX4_leastMeasure cX4_leastMeasure 3 (some .int) 1 := ⟨k354, k355, k356, k36, k357, rfl, by decide, by decide, by decide +kernel⟩
theorem vL_70 : LkV RL 70 RX4 yX4_bestShare cX4_bestShare 8 (some .int) 1 := ⟨k358, k359, k360, k36, k361, rfl, by decide, by decide, by decide +kernel⟩
theorem vX4_180 : LkV RX4 180 RX3 yX3_copyFrom cX3_copyFrom 2 none 1 := ⟨k362, k138, k139, k37, k140, rfl, by decide, by decide, by decide +kernel⟩
theorem vX4_183 : LkV RX4 183 RX4 yX4_leastBadnessOf cX4_leastBadnessOf 2 (some .int) 1 := ⟨k363, k364, k4, k36, k365, rfl, by decide, by decide, by decide +kernel⟩
theorem vX4_201 : LkV RX4 201 RX1 yX1_leastBadness cX1_leastBadness 2 (some .int) 0 := ⟨k366, k257, k258, k38, k259, rfl, by decide, by decide, by decide +kernel⟩
theorem vL_74 : LkV RL 74 RX4 yX4_worstWord cX4_worstWord 5 (some .int) 0 := ⟨k367, k368, k369, k36, k370, rfl, by decide, by decide, by decide +kernel⟩
theorem vL_80 : LkV RL 80 RX4 yX4_put cX4_put 4 (some .int) 1 := ⟨k371, k372, k373, k36, k374, rfl, by decide, by decide, by decide +kernel⟩
theorem vX4_187 : LkS RX4 187 yX2_lengthOf cX2_lengthOf 7 (some .int) 1 := ⟨k375, k376, k39, k377, by decide, by decide, by decide +kernel⟩
theorem vX4_191 : LkV RX4 191 RX2 yX2_append cX2_append 5 none 2 := ⟨k379, k380, k381, k39, k382, rfl, by decide, by decide, by decide +kernel⟩
theorem vL_85 : LkV RL 85 RX4 yX4_wipe cX4_wipe 2 (some .int) 0 := ⟨k383, k384, k385, k36, k386, rfl, by decide, by decide, by decide +kernel⟩
theorem vL_89 : LkV RL 89 RX4 yX4_fault cX4_fault 1 (some .int) 0 := ⟨k387, k388, k389, k36, k390, rfl, by decide, by decide, by decide +kernel⟩
theorem vL_93 : LkV RL 93 RX4 yX4_undo cX4_undo 1 (some .int) 0 := ⟨k391, k392, k393, k36, k394, rfl, by decide, by decide, by decide +kernel⟩
theorem vX4_195 : LkV RX4 195 RX0 yX0_takeBack cX0_takeBack 2 none 1 := ⟨k395, k396, k397, k40, k398, rfl, by decide, by decide, by decide +kernel⟩
theorem vL_97 : LkV RL 97 RX4 yX4_save cX4_save 2 (some .int) 1 := ⟨k399, k400, k401, k36, k402, rfl, by decide, by decide, by decide +kernel⟩
theorem vL_101 : LkV RL 101 RX4 yX4_restore cX4_restore 2 (some .int) 1 := ⟨k403, k404, k405, k36, k406, rfl, by decide, by decide, by decide +kernel⟩
theorem vL_12 : LkI RL 12 yX5_init cX5_init 2 0 := ⟨k409, k410, k41, k411, rfl, by decide, by decide, by decide +kernel⟩
theorem vL_17 : LkV RL 17 RX5 yX5_set cX5_set 4 (some .int) 2 := ⟨k431, k432, k433, k41, k434, rfl, by decide, by decide, by decide +kernel⟩
theorem vX5_130 : LkS RX5 130 yX5_isSetting cX5_isSetting 2 (some .boolean) 2 := ⟨k435, k436, k41, k437, by decide, by decide, by decide +kernel⟩
theorem vX5_58 : LkS RX5 58 yX5_in cX5_in 6 (some .boolean) 3 := ⟨k440, k441, k41, k442, by decide, by decide, by decide +kernel⟩
theorem vX5_134 : LkV RX5 134 RX5 yX5_changes cX5_changes 2 none 0 := ⟨k444, k445, k5, k41, k446, rfl, by decide, by decide, by decide +kernel⟩
theorem vL_22 : LkV RL 22 RX5 yX5_sort cX5_sort 6 (some .int) 4 := ⟨k447, k448, k449, k41, k450, rfl, by decide, by decide, by decide +kernel⟩
theorem vX5_137 : LkS RX5 137 yX5_isSort cX5_isSort 1 (some .boolean) 1 := ⟨k451, k452, k41, k453, by decide, by decide, by decide +kernel⟩
theorem vL_32 : LkV RL 32 RX5 yX5_drop cX5_drop 3 (some .int) 1 := ⟨k456, k457, k458, k41, k459, rfl, by decide, by decide, by decide +kernel⟩
theorem vX5_142 : LkV RX5 142 RX5 yX5_isWord cX5_isWord 2 (some .boolean) 1 := ⟨k460, k461, k6, k41, k462, rfl, by decide, by decide, by decide +kernel⟩
theorem vX5_80 : LkV RX5 80 RX5 yX5_widthOf cX5_widthOf 4 (some .int) 1 := ⟨k463, k464, k7, k41, k465, rfl, by decide, by decide, by decide +kernel⟩
theorem vX5_66 : LkV RX5 66 RX5 yX5_signs cX5_signs 2 (some .int) 1 := ⟨k466, k467, k8, k41, k468, rfl, by decide, by decide, by decide +kernel⟩
theorem vX5_70 : LkV RX5 70 RX5 yX5_signAt cX5_signAt 3 (some .int) 2 := ⟨k469, k470, k9, k41, k471, rfl, by decide, by decide, by decide +kernel⟩
theorem vX5_74 : LkS RX5 74 yX5_sortBy cX5_sortBy 1 (some .int) 1 := ⟨k472, k473, k41, k474, by decide, by decide, by decide +kernel⟩
theorem vX5_145 : LkV RX5 145 RX5 yX5_takesOut cX5_takesOut 3 none 1 := ⟨k477, k478, k10, k41, k479, rfl, by decide, by decide, by decide +kernel⟩
theorem vL_36 : LkV RL 36 RX5 yX5_swap cX5_swap 5 (some .int) 2 := ⟨k480, k481, k482, k41, k483, rfl, by decide, by decide, by decide +kernel⟩
theorem vX5_108 : LkV RX5 108 RX5 yX5_fills cX5_fills 3 none 0 := ⟨k484, k485, k11, k41, k486, rfl, by decide, by decide, by decide +kernel⟩
theorem vX5_95 : LkV RX5 95 RX5 yX5_measures cX5_measures 2 none 0 := ⟨k487, k488, k12, k41, k489, rfl, by decide, by decide, by decide +kernel⟩
theorem vX5_83 : LkV RX5 83 RX5 yX5_hangsLeft cX5_hangsLeft 2 (some .int) 1 := ⟨k490, k491, k13, k41, k492, rfl, by decide, by decide, by decide +kernel⟩
theorem vX5_77 : LkV RX5 77 RX5 yX5_hang cX5_hang 3 (some .int) 2 := ⟨k493, k494, k14, k41, k495, rfl, by decide, by decide, by decide +kernel⟩
theorem vX5_86 : LkV RX5 86 RX5 yX5_hangsRight cX5_hangsRight 2 (some .int) 1 := ⟨k496, k497, k15, k41, k498, rfl, by decide, by decide, by decide +kernel⟩
theorem vX5_92 : LkV RX5 92 RX5 yX5_bodyOf cX5_bodyOf 3 (some .int) 2 := ⟨k499, k500, k16, k41, k501, rfl, by decide, by decide, by decide +kernel⟩
theorem vX5_89 : LkV RX5 89 RX5 yX5_widthOfLine cX5_widthOfLine 3 (some .int) 2 := ⟨k502, k503, k17, k41, k504, rfl, by decide, by decide, by decide +kernel⟩
theorem vL_40 : LkV RL 40 RX5 yX5_clear cX5_clear 3 (some .int) 0 := ⟨k505, k506, k507, k41, k508, rfl, by decide, by decide, by decide +kernel⟩
theorem vL_44 : LkV RL 44 RX5 yX5_sortOf cX5_sortOf 3 (some .int) 2 := ⟨k509, k510, k511, k41, k512, rfl, by decide, by decide, by decide +kernel⟩
theorem vX5_148 : LkV RX5 148 RX5 yX5_often cX5_often 6 (some .int) 1 := ⟨k513, k514, k18, k41, k515, rfl, by decide, by decide, by decide +kernel⟩
theorem vL_48 : LkV RL 48 RX5 yX5_word cX5_word 3 (some .int) 2 := ⟨k516, k517, k518, k41, k519, rfl, by decide, by decide, by decide +kernel⟩
theorem vX5_154 : LkV RX5 154 RX5 yX5_lineOf cX5_lineOf 4 (some .int) 2 := ⟨k520, k521, k19, k41, k522, rfl, by decide, by decide, by decide +kernel⟩
theorem vX5_151 : LkV RX5 151 RX5 yX5_breaks cX5_breaks 2 none 1 := ⟨k523, k524, k20, k41, k525, rfl, by decide, by decide, by decide +kernel⟩
theorem vX5_111 : LkV RX5 111 RX5 yX5_breaksBest cX5_breaksBest 2 none 0 := ⟨k526, k527, k21, k41, k528, rfl, by decide, by decide, by decide +kernel⟩
theorem vX5_104 : LkV RX5 104 RX5 yX5_worksOutFrom cX5_worksOutFrom 4 none 1 := ⟨k529, k530, k22, k41, k531, rfl, by decide, by decide, by decide +kernel⟩
theorem vX5_101 : LkV RX5 101 RX5 yX5_badnessOf cX5_badnessOf 4 (some .int) 2 := ⟨k532, k533, k23, k41, k534, rfl, by decide, by decide, by decide +kernel⟩
theorem vL_53 : LkV RL 53 RX5 yX5_line cX5_line 6 (some .int) 3 := ⟨k535, k536, k537, k41, k538, rfl, by decide, by decide, by decide +kernel⟩
theorem vX5_157 : LkS RX5 157 yX5_isWay cX5_isWay 1 (some .boolean) 1 := ⟨k539, k540, k41, k541, by decide, by decide, by decide +kernel⟩
theorem vX5_114 : LkV RX5 114 RX5 yX5_lastOf cX5_lastOf 2 (some .int) 1 := ⟨k543, k544, k24, k41, k545, rfl, by decide, by decide, by decide +kernel⟩
theorem vX5_120 : LkV RX5 120 RX5 yX5_fits cX5_fits 2 (some .boolean) 1 := ⟨k546, k547, k25, k41, k548, rfl, by decide, by decide, by decide +kernel⟩
theorem vX5_117 : LkV RX5 117 RX5 yX5_bodyOfLine cX5_bodyOfLine 2 (some .int) 1 := ⟨k549, k550, k26, k41, k551, rfl, by decide, by decide, by decide +kernel⟩
theorem vX5_162 : LkV RX5 162 RX5 yX5_looksIndented cX5_looksIndented 2 (some .boolean) 1 := ⟨k552, k553, k27, k41, k554, rfl, by decide, by decide, by decide +kernel⟩
theorem vL_57 : LkV RL 57 RX5 yX5_lines cX5_lines 3 (some .int) 2 := ⟨k555, k556, k557, k41, k558, rfl, by decide, by decide, by decide +kernel⟩
theorem vX5_167 : LkV RX5 167 RX5 yX5_ofLines cX5_ofLines 6 (some .int) 1 := ⟨k560, k561, k28, k41, k562, rfl, by decide, by decide, by decide +kernel⟩
theorem vL_61 : LkV RL 61 RX5 yX5_count cX5_count 2 (some .int) 1 := ⟨k563, k564, k565, k41, k566, rfl, by decide, by decide, by decide +kernel⟩
theorem vX5_170 : LkV RX5 170 RX5 yX5_allSigns cX5_allSigns 3 (some .int) 0 := ⟨k567, k568, k29, k41, k569, rfl, by decide, by decide, by decide +kernel⟩
theorem vX5_174 : LkV RX5 174 RX5 yX5_areAlike cX5_areAlike 4 (some .int) 0 := ⟨k570, k571, k30, k41, k572, rfl, by decide, by decide, by decide +kernel⟩
theorem vL_65 : LkV RL 65 RX5 yX5_body cX5_body 3 (some .int) 2 := ⟨k573, k574, k575, k41, k576, rfl, by decide, by decide, by decide +kernel⟩
theorem vL_69 : LkV RL 69 RX5 yX5_leastMeasure cX5_leastMeasure 5 (some .int) 1 := ⟨k577, k578, k579, k41, k580, rfl, by decide, by decide, by decide +kernel⟩
theorem vL_73 : LkV RL 73 RX5 yX5_bestShare cX5_bestShare 7 (some .int) 1 := ⟨k582, k583, k584, k41, k585, rfl, by decide, by decide, by decide +kernel⟩
theorem vX5_182 : LkV RX5 182 RX5 yX5_bestBadness cX5_bestBadness 1 (some .int) 0 := ⟨k586, k587, k31, k41, k588, rfl, by decide, by decide, by decide +kernel⟩
theorem vL_77 : LkV RL 77 RX5 yX5_worstWord cX5_worstWord 6 (some .int) 0 := ⟨k589, k590, k591, k41, k592, rfl, by decide, by decide, by decide +kernel⟩
theorem vX5_185 : LkV RX5 185 RX5 yX5_keeps cX5_keeps 2 none 0 := ⟨k593, k594, k32, k41, k595, rfl, by decide, by decide, by decide +kernel⟩
theorem vX5_188 : LkV RX5 188 RX5 yX5_comesBack cX5_comesBack 2 none 0 := ⟨k596, k597, k33, k41, k598, rfl, by decide, by decide, by decide +kernel⟩
theorem vL_84 : LkV RL 84 RX5 yX5_put cX5_put 5 (some .int) 1 := ⟨k599, k600, k601, k41, k602, rfl, by decide, by decide, by decide +kernel⟩
theorem vX5_197 : LkS RX5 197 yX5_charactersOf cX5_charactersOf 5 (some .int) 1 := ⟨k603, k604, k41, k605, by decide, by decide, by decide +kernel⟩
theorem vL_88 : LkV RL 88 RX5 yX5_wipe cX5_wipe 2 (some .int) 0 := ⟨k609, k610, k611, k41, k612, rfl, by decide, by decide, by decide +kernel⟩
theorem vL_92 : LkV RL 92 RX5 yX5_fault cX5_fault 4 (some .int) 0 := ⟨k613, k614, k615, k41, k616, rfl, by decide, by decide, by decide +kernel⟩
theorem vX5_204 : LkV RX5 204 RX5 yX5_wordEnd cX5_wordEnd 3 (some .int) 1 := ⟨k617, k618, k34, k41, k619, rfl, by decide, by decide, by decide +kernel⟩
theorem vL_27 : LkV RL 27 RX5 yX5_read cX5_read 4 (some .int) 0 := ⟨k620, k621, k622, k41, k623, rfl, by decide, by decide, by decide +kernel⟩
theorem vX5_207 : LkV RX5 207 RX5 yX5_fault cX5_fault 4 (some .int) 0 := ⟨k624, k614, k615, k41, k616, rfl, by decide, by decide, by decide +kernel⟩
theorem vL_96 : LkV RL 96 RX5 yX5_undo cX5_undo 2 (some .int) 0 := ⟨k625, k626, k627, k41, k628, rfl, by decide, by decide, by decide +kernel⟩
theorem vL_100 : LkV RL 100 RX5 yX5_save cX5_save 3 (some .int) 1 := ⟨k629, k630, k631, k41, k632, rfl, by decide, by decide, by decide +kernel⟩
theorem vX5_210 : LkS RX5 210 yX5_isSlot cX5_isSlot 1 (some .boolean) 1 := ⟨k633, k634, k41, k635, by decide, by decide, by decide +kernel⟩
theorem vL_104 : LkV RL 104 RX5 yX5_restore cX5_restore 3 (some .int) 1 := ⟨k636, k637, k638, k41, k639, rfl, by decide, by decide, by decide +kernel⟩
section ROWS0
variable {p : Program} {l : Launch} {e : Env} {R : Room} {s : State} {m : MethodId} {args : Array Value} {below : List Frame} {meth : Method} {c : Code} {κ : Kt} {n k sl : Nat} {Q : State → Prop} {st : St} {lv : List (Option Value)} {stk : List Value} {cc : ByteArray} {nL : Nat} {own : String} {ret : Option FieldType} {idx mL na F Lo : Nat} {y : MethodName} {bc : ByteArray} {rt : Option FieldType} {P : Option Value → St → Prop} {As stk0 : List Value}
theorem ws_callV0 (pc : Nat) (C : Cx p s m args meth c κ cc nL own ret) {b ci N : Nat} {Cn : String} {T : u_T} {es : List va_E} {fs : List Value} (d : decode cc pc = .ok (.invokevirtual idx, 3)) (K : LkV own idx Cn y bc mL rt na) (hM : CT l κ y bc mL rt (r0 F Lo) n (.ref (ad κ b) :: As) st P) (hc : kcl[ci]? = some (Cn, T, N)) (B : Ob n st b es) (h0 : es[0]? = some (.inr (ci, fs))) (hnL : lv.length = nL) (hR : F + 1 ≤ R.frames ∧ 8 + (mL + 11) + Lo ≤ R.locals) (hC : k ≤ R.cells ∧ sl ≤ R.slots) (hn : As.length = na) (hcat : Nat.ble (stk.map fun v => v.category).sum 8 = true) (hstk : stk0 = As.reverse ++ .ref (ad κ b) :: stk) (kk : ∀ (v : Option Value) (u : St), P v u → WS p l e R s m args below meth c κ n k sl Q u (pc + 3) lv (v.toList ++ stk)) : WS p l e R s m args below meth c κ n k sl Q st pc lv stk0 := ws_callV pc C hM d K hc B h0 hnL hR hC hn (Nat.le_of_ble_eq_true hcat) hstk kk
theorem ws_callS0 (pc : Nat) (C : Cx p s m args meth c κ cc nL own ret) (d : decode cc pc = .ok (.invokestatic idx, 3)) (K : LkS own idx y bc mL rt na) (hM : CT l κ y bc mL rt (r0 F Lo) n As st P) (hnL : lv.length = nL) (hR : F + 1 ≤ R.frames ∧ 8 + (mL + 11) + Lo ≤ R.locals) (hC : k ≤ R.cells ∧ sl ≤ R.slots) (hn : As.length = na) (hcat : Nat.ble (stk.map fun v => v.category).sum 8 = true) (hstk : stk0 = As.reverse ++ stk) (kk : ∀ (v : Option Value) (u : St), P v u → WS p l e R s m args below meth c κ n k sl Q u (pc + 3) lv (v.toList ++ stk)) : WS p l e R s m args below meth c κ n k sl Q st pc lv stk0 := ws_callS pc C hM d K hnL hR hC hn (Nat.le_of_ble_eq_true hcat) hstk kk
theorem ws_callSN0 (pc : Nat) (C : Cx p s m args meth c κ cc nL own ret) (d : decode cc pc = .ok (.invokestatic idx, 3)) (K : LkSN own idx y bc mL rt na) (hM : CT l κ y bc mL rt (r0 F Lo) n As st P) (hnL : lv.length = nL) (hR : F + 1 ≤ R.frames ∧ 8 + (mL + 11) + Lo ≤ R.locals) (hC : k ≤ R.cells ∧ sl ≤ R.slots) (hn : As.length = na) (hcat : Nat.ble (stk.map fun v => v.category).sum 8 = true) (hstk : stk0 = As.reverse ++ stk) (kk : ∀ (v : Option Value) (u : St), P v u → WS p l e R s m args below meth c κ n k sl Q u (pc + 3) lv (v.toList ++ stk)) : WS p l e R s m args below meth c κ n k sl Q st pc lv stk0 := ws_callSN pc C hM d K hnL hR hC hn (Nat.le_of_ble_eq_true hcat) hstk kk
end ROWS0
end
section
/-! What a text of words is, and what is asked of it: numbers and functions alone -/
abbrev Mu : Type := (Nat → Nat → Int32) × Nat × (Nat → Nat) × (Nat → Nat → Int32)
/-- 0: settings, 1: widths, 2: left shares, 3: right shares -/
def mv (μ : Mu) (i k : Nat) : Int32 := μ.1 i k
def mn (μ : Mu) : Nat := μ.2.1
def ml (μ : Mu) (w : Nat) : Nat := μ.2.2.1 w
def mg (μ : Mu) (w j : Nat) : Int32 := μ.2.2.2 w j
def sc (c : Int32) : Nat := if nI 97 ≤ c ∧ c ≤ nI 122 then 0 else if c = nI 46 then 1 else if c = nI 44 then 2 else if c = nI 59 then 3 else if c = nI 58 then 4 else if c = nI 45 then 5 else if c = nI 39 then 6 else if c = nI 33 then 7 else 8
def so (μ : Mu) (w j : Nat) : Nat := sc (mg μ w j)
def Ok (μ : Mu) : Prop := mn μ ≤ 24 ∧ ∀ w, w < mn μ → 1 ≤ ml μ w ∧ ml μ w ≤ 10 ∧ ∀ j, j < ml μ w → so μ w j < 8
def wdS (μ : Mu) (w : Nat) : Nat → Int32
  | 0 => nI 0
  | k + 1 => wdS μ w k + mv μ 1 (so μ w k)
def wd (μ : Mu) (w : Nat) : Int32 := wdS μ w (ml μ w)
def hg (μ : Mu) (side s : Nat) : Int32 := if mv μ 0 3 = nI 0 then nI 0 else mv μ 1 s * mv μ side s / nI 100
def lh (μ : Mu) (w : Nat) : Int32 := hg μ 2 (so μ w 0)
def rh (μ : Mu) (w : Nat) : Int32 := hg μ 3 (so μ w (ml μ w - 1))
def ah (μ : Mu) : Nat → Int32
  | 0 => nI 0
  | k + 1 => ah μ k + wd μ k
/-- where a word begins, all in one line -/
def pl (μ : Mu) : Nat → Int32
  | 0 => nI 0
  | k + 1 => pl μ k + wd μ k + mv μ 0 1
def wl (μ : Mu) (i j : Nat) : Int32 := pl μ (j + 1) - pl μ i - mv μ 0 1
def bo (μ : Mu) (i j : Nat) : Int32 := wl μ i j - lh μ i - rh μ j
/-- lines: b the bodies, m the measure, n how many words -/
def bad (b : Nat → Nat → Int32) (m : Int32) (n i j : Nat) : Int32 := if m - b i j < nI 0 then nI 10000 else if j = n - 1 then nI 0 else (m - b i j) * (m - b i j)
def gxf (b : Nat → Nat → Int32) (m : Int32) (n k : Nat) : Nat → Nat → Nat
  | 0, j => j + 1
  | f + 1, j => if j + 1 < n ∧ b k (j + 1) ≤ m then gxf b m n k f (j + 1) else j + 1
/-- where the line that begins with word k ends, greedily -/
def gx (b : Nat → Nat → Int32) (m : Int32) (n k : Nat) : Nat := gxf b m n k n k
/-- where the i-th line begins -/
def stt (nx : Nat → Nat) : Nat → Nat
  | 0 => 0
  | i + 1 => nx (stt nx i)
def cf (nx : Nat → Nat) (n : Nat) : Nat → Nat → Nat
  | 0, _ => 0
  | f + 1, k => if k < n then 1 + cf nx n f (nx k) else 0
/-- how many lines -/
def lno (nx : Nat → Nat) (n : Nat) : Nat := cf nx n n 0
def Adv (nx : Nat → Nat) (n : Nat) : Prop := ∀ k, k < n → k < nx k ∧ nx k ≤ n
def Br (nx : Nat → Nat) (n L : Nat) : Prop := stt nx L = n ∧ ∀ i, i < L → stt nx i < n
def inn (b : Nat → Nat → Int32) (m : Int32) (n : Nat) (lf : Nat → Int32) (k : Nat) : Nat → Int32 × Nat
  | 0 => (bad b m n k k + lf (k + 1), k + 1)
  | t + 1 => if bad b m n k (k + t + 1) + lf (k + t + 2) ≤ (inn b m n lf k t).1 then (bad b m n k (k + t + 1) + lf (k + t + 2), k + t + 2) else inn b m n lf k t
/-- the least badness from a word on, and where its first line ends: for the last d words -/
def bv (b : Nat → Nat → Int32) (m : Int32) (n : Nat) : Nat → (Nat → Int32) × (Nat → Nat)
  | 0 => (fun _ => nI 0, fun _ => 0)
  | d + 1 => (upd (bv b m n d).1 (n - 1 - d) (inn b m n (bv b m n d).1 (n - 1 - d) (gx b m n (n - 1 - d) - (n - 1 - d) - 1)).1, va_up (bv b m n d).2 (n - 1 - d) (inn b m n (bv b m n d).1 (n - 1 - d) (gx b m n (n - 1 - d) - (n - 1 - d) - 1)).2)
def lfm (b : Nat → Nat → Int32) (m : Int32) (n : Nat) : Nat → Int32 := (bv b m n n).1
def nb (b : Nat → Nat → Int32) (m : Int32) (n : Nat) : Nat → Nat := (bv b m n n).2
theorem stt_mono {nx : Nat → Nat} {n L : Nat} (ha : Adv nx n) (h : Br nx n L) : ∀ i j, i < j → j ≤ L → stt nx i < stt nx j := by
  intro i j hij
  induction j with
  | zero => omega
  | succ j ih =>
    intro hj
    have h1 := h.2 j (by omega)
    have h2 := (ha _ h1).1
    show stt nx i < nx (stt nx j)
    rcases Nat.lt_or_ge i j with q | q
    · have := ih q (by omega)
      omega
    · have : i = j := by omega
      subst this
      exact h2
theorem Br.one {nx : Nat → Nat} {n L L' : Nat} (h : Br nx n L) (h' : Br nx n L') : L = L' := by
  rcases Nat.lt_trichotomy L L' with q | q | q
  · have := h'.2 L q
    have := h.1
    omega
  · exact q
  · have := h.2 L' q
    have := h'.1
    omega
theorem stt_ge {nx : Nat → Nat} {n : Nat} (ha : Adv nx n) : ∀ i, (∀ k, k < i → stt nx k < n) → i ≤ stt nx i := by
  intro i
  induction i with
  | zero => intro _; exact Nat.zero_le _
  | succ i ih =>
    intro h
    have h1 := ih (fun k hk => h k (by omega))
    have h2 := (ha _ (h i (by omega))).1
    show i + 1 ≤ nx (stt nx i)
    omega
theorem cf_br {nx : Nat → Nat} {n : Nat} (ha : Adv nx n) : ∀ (f i : Nat), n ≤ i + f → (∀ k, k < i → stt nx k < n) → stt nx i ≤ n → Br nx n (i + cf nx n f (stt nx i)) := by
  intro f
  induction f with
  | zero =>
    intro i h1 h2 h3
    have := stt_ge ha i h2
    refine ⟨?_, h2⟩
    show stt nx (i + 0) = n
    rw [Nat.add_zero]
    omega
  | succ f ih =>
    intro i h1 h2 h3
    unfold cf
    by_cases hk : stt nx i < n
    · rw [if_pos hk]
      have := ih (i + 1) (by omega) (fun k hk2 => by
        rcases Nat.lt_or_ge k i with q | q
        · exact h2 k q
        · have : k = i := by omega
          subst this
          exact hk) ((ha _ hk).2)
      rw [show i + (1 + cf nx n f (nx (stt nx i))) = i + 1 + cf nx n f (stt nx (i + 1)) from by rw [show stt nx (i + 1) = nx (stt nx i) from rfl]; omega]
      exact this
    · rw [if_neg hk, Nat.add_zero]
      exact ⟨by omega, h2⟩
theorem lno_br {nx : Nat → Nat} {n : Nat} (ha : Adv nx n) : Br nx n (lno nx n) := by
  have := cf_br ha n 0 (by omega) (fun k hk => by omega) (Nat.zero_le _)
  rw [Nat.zero_add] at this
  exact this
theorem Br.is {nx : Nat → Nat} {n L : Nat} (ha : Adv nx n) (h : Br nx n L) : L = lno nx n := h.one (lno_br ha)
theorem Br.le {nx : Nat → Nat} {n L : Nat} (ha : Adv nx n) (h : Br nx n L) : L ≤ n := by
  have := stt_ge ha L h.2
  have := h.1
  omega
theorem gxf_spec {b : Nat → Nat → Int32} {m : Int32} {n k : Nat} : ∀ (f j : Nat), n ≤ j + f + 1 → j < n → j < gxf b m n k f j ∧ gxf b m n k f j ≤ n ∧ (∀ x, j < x → x < gxf b m n k f j → b k x ≤ m) ∧ (gxf b m n k f j = n ∨ ¬ b k (gxf b m n k f j) ≤ m) := by
  intro f
  induction f with
  | zero =>
    intro j h1 h2
    unfold gxf
    exact ⟨by omega, by omega, fun x _ _ => by omega, Or.inl (by omega)⟩
  | succ f ih =>
    intro j h1 h2
    unfold gxf
    by_cases hc : j + 1 < n ∧ b k (j + 1) ≤ m
    · rw [if_pos hc]
      obtain ⟨a1, a2, a3, a4⟩ := ih (j + 1) (by omega) hc.1
      refine ⟨by omega, a2, fun x hx1 hx2 => ?_, a4⟩
      rcases Nat.lt_or_ge (j + 1) x with q | q
      · exact a3 x q hx2
      · have : x = j + 1 := by omega
        subst this
        exact hc.2
    · rw [if_neg hc]
      refine ⟨by omega, by omega, fun x _ _ => by omega, ?_⟩
      rcases Nat.lt_or_ge (j + 1) n with q | q
      · exact Or.inr (fun z => hc ⟨q, z⟩)
      · exact Or.inl (by omega)
theorem gx_spec (b : Nat → Nat → Int32) (m : Int32) {n k : Nat} (hk : k < n) : k < gx b m n k ∧ gx b m n k ≤ n ∧ (∀ x, k < x → x < gx b m n k → b k x ≤ m) ∧ (gx b m n k = n ∨ ¬ b k (gx b m n k) ≤ m) := gxf_spec n k (by omega) hk
theorem gx_adv (b : Nat → Nat → Int32) (m : Int32) (n : Nat) : Adv (gx b m n) n := fun k hk => ⟨(gx_spec b m hk).1, (gx_spec b m hk).2.1⟩
/-- what ends a line is its end -/
theorem gx_is {b : Nat → Nat → Int32} {m : Int32} {n k x : Nat} (hk : k < n) (h1 : k < x) (h2 : x ≤ n) (h3 : ∀ j, k < j → j < x → b k j ≤ m) (h4 : x = n ∨ ¬ b k x ≤ m) : gx b m n k = x := by
  obtain ⟨a1, a2, a3, a4⟩ := gx_spec b m hk
  rcases Nat.lt_trichotomy (gx b m n k) x with q | q | q
  · rcases a4 with a | a
    · omega
    · exact absurd (h3 _ a1 q) a
  · exact q
  · rcases h4 with a | a
    · omega
    · exact absurd (a3 x h1 q) a
theorem inn_snd (b : Nat → Nat → Int32) (m : Int32) (n : Nat) (lf : Nat → Int32) (k : Nat) : ∀ t, k < (inn b m n lf k t).2 ∧ (inn b m n lf k t).2 ≤ k + t + 1 := by
  intro t
  induction t with
  | zero => exact ⟨Nat.lt_succ_self k, Nat.le_refl _⟩
  | succ t ih =>
    unfold inn
    split
    · exact ⟨by show k < k + t + 2; omega, by show k + t + 2 ≤ _; omega⟩
    · exact ⟨ih.1, by omega⟩
theorem bv_adv (b : Nat → Nat → Int32) (m : Int32) (n : Nat) : ∀ d, d ≤ n → ∀ k, n - d ≤ k → k < n → k < (bv b m n d).2 k ∧ (bv b m n d).2 k ≤ n := by
  intro d
  induction d with
  | zero => intro _ k h1 h2; omega
  | succ d ih =>
    intro hd k h1 h2
    show k < va_up (bv b m n d).2 _ _ k ∧ va_up (bv b m n d).2 _ _ k ≤ n
    by_cases hk : k = n - 1 - d
    · subst hk
      rw [va_up_self]
      have h3 := inn_snd b m n (bv b m n d).1 (n - 1 - d) (gx b m n (n - 1 - d) - (n - 1 - d) - 1)
      have h4 := gx_spec b m h2
      exact ⟨h3.1, by omega⟩
    · rw [va_up_ne _ _ hk]
      exact ih (by omega) k (by omega) h2
theorem nb_adv (b : Nat → Nat → Int32) (m : Int32) (n : Nat) : Adv (nb b m n) n := fun k hk => bv_adv b m n n (Nat.le_refl _) k (by omega) hk
/-- sums of small numbers -/
def smI (f : Nat → Int32) : Nat → Int32
  | 0 => nI 0
  | k + 1 => smI f k + f k
def smN (f : Nat → Nat) : Nat → Nat
  | 0 => 0
  | k + 1 => smN f k + f k
def mxI (f : Nat → Int32) : Nat → Int32
  | 0 => f 0
  | k + 1 => if mxI f k < f (k + 1) then f (k + 1) else mxI f k
theorem smN_le {f : Nat → Nat} {c : Nat} : ∀ n, (∀ k, k < n → f k ≤ c) → smN f n ≤ n * c := by
  intro n
  induction n with
  | zero => intro _; exact Nat.zero_le _
  | succ n ih =>
    intro h
    have h1 := ih (fun k hk => h k (by omega))
    have h2 := h n (by omega)
    rw [Nat.succ_mul]
    show smN f n + f n ≤ _
    omega
/-- downwards: P at k from P behind it -/
theorem dnw {N : Nat} {P : Nat → Prop} (h : ∀ k, k ≤ N → (k < N → P (k + 1)) → P k) : ∀ k, k ≤ N → P k := by
  intro k hk
  obtain ⟨d, hd⟩ : ∃ d, d = N - k := ⟨_, rfl⟩
  induction d generalizing k with
  | zero => exact h k hk (fun q => by omega)
  | succ d ih => exact h k hk (fun q => ih (k + 1) (by omega) (by omega))
theorem upw {P : Nat → Prop} (h0 : P 0) (h : ∀ k, P k → P (k + 1)) : ∀ k, P k := fun k => by
  induction k with
  | zero => exact h0
  | succ k ih => exact h k ih
end
section
/-! The objects as blocks of cells, and what they say of a text -/
def bSh (κ : Kt) (b : Nat) (f1 f2 f3 f4 f5 f6 : Nat → Int32) (w : Int32) : List va_E := [.inr (3, [.ref (ad κ (b + 1)), .ref (ad κ (b + 2)), .ref (ad κ (b + 3)), .ref (ad κ (b + 4)), .ref (ad κ (b + 5)), .ref (ad κ (b + 6)), .int w]), .inl (kI κ, 4, .inl f1), .inl (kI κ, 8, .inl f2), .inl (kI κ, 8, .inl f3), .inl (kI κ, 8, .inl f4), .inl (kC κ, 240, .inl f5), .inl (kI κ, 24, .inl f6)]
def bLy (κ : Kt) (b : Nat) (p l r : Nat → Int32) (wn me sp lo : Int32) (s : Nat → Int32) (ln : Int32) (lf nx : Nat → Int32) : List va_E := [.inr (1, [.ref (ad κ (b + 1)), .ref (ad κ (b + 2)), .ref (ad κ (b + 3)), .int wn, .int me, .int sp, .int lo, .ref (ad κ (b + 4)), .int ln, .ref (ad κ (b + 5)), .ref (ad κ (b + 6))]), .inl (kI κ, 25, .inl p), .inl (kI κ, 24, .inl l), .inl (kI κ, 24, .inl r), .inl (kI κ, 25, .inl s), .inl (kI κ, 25, .inl lf), .inl (kI κ, 24, .inl nx)]
def bPd (κ : Kt) (b : Nat) (t : Nat → Int32) (ln : Int32) : List va_E := [.inr (2, [.ref (ad κ (b + 1)), .int ln]), .inl (kC κ, 60, .inl t)]
def bHs (κ : Kt) (b : Nat) (g : Nat → Option Nat) (nx sz : Int32) : List va_E := [.inr (0, [.ref (ad κ (b + 1)), .int nx, .int sz]), .inl (kS κ, 6, .inr (.inr (.inr (.inr g))))]
def bXo (κ : Kt) : List va_E := [.inr (4, [.ref (ad κ 1), .ref (ad κ 8), .ref (ad κ 15), .ref (ad κ 22), .ref (ad κ 29), .ref (ad κ 31), .ref (ad κ 75), .ref (ad κ 90)])]
def bA (κ : Kt) (N : Nat) (f : Nat → Int32) : List va_E := [.inl (kI κ, N, .inl f)]
def bZ (κ : Kt) (N : Nat) (f : Nat → Int32) : List va_E := [.inl (kZ κ, N, .inl f)]
def bQ (κ : Kt) (N : Nat) (g : Nat → Option Nat) : List va_E := [.inl (kS κ, N, .inr (.inr (.inr (.inr g))))]
/-- the reference's own object: its arrays stand behind it, 92 to 105 -/
def bMo (κ : Kt) (hl ln tl rd : Int32) : List va_E := [.inr (5, [.ref (ad κ 92), .ref (ad κ 93), .ref (ad κ 94), .int hl, .ref (ad κ 95), .ref (ad κ 96), .ref (ad κ 97), .ref (ad κ 98), .ref (ad κ 99), .ref (ad κ 100), .int ln, .ref (ad κ 101), .ref (ad κ 102), .ref (ad κ 103), .int tl, .ref (ad κ 104), .ref (ad κ 105), .int rd])]
/-- a sheet says the text μ -/
def Rp (μ : Mu) (f1 f2 f3 f4 f5 f6 : Nat → Int32) : Prop := Ok μ ∧ True ∧ (∀ k, k < 4 → f1 k = mv μ 0 k) ∧ (∀ k, k < 8 → f2 k = mv μ 1 k) ∧ (∀ k, k < 8 → f3 k = mv μ 2 k) ∧ (∀ k, k < 8 → f4 k = mv μ 3 k) ∧ (∀ k, fits .char (.int (f5 k)) = true) ∧ (∀ i, i < mn μ → f6 i = nI (ml μ i)) ∧ (∀ i, i < mn μ → ∀ j, j < ml μ i → f5 (i * 10 + j) = mg μ i j)
/-- a row of the reference's numbers says the text μ -/
def Rm (μ : Mu) (a : Nat → Int32) : Prop := Ok μ ∧ a 4 = nI (mn μ) ∧ (∀ k, k < 4 → a k = mv μ 0 k) ∧ (∀ k, k < 8 → a (5 + k) = mv μ 1 k) ∧ (∀ k, k < 8 → a (13 + k) = mv μ 2 k) ∧ (∀ k, k < 8 → a (21 + k) = mv μ 3 k) ∧ (∀ i, i < mn μ → a (29 + 11 * i) = nI (ml μ i)) ∧ (∀ i, i < mn μ → ∀ j, j < ml μ i → a (29 + 11 * i + 1 + j) = mg μ i j)
section RP
variable {μ : Mu} {f1 f2 f3 f4 f5 f6 : Nat → Int32}
theorem Rp.ok (h : Rp μ f1 f2 f3 f4 f5 f6) : Ok μ := h.1
theorem Rp.le (h : Rp μ f1 f2 f3 f4 f5 f6) : mn μ ≤ 24 := h.1.1
theorem Rp.set (h : Rp μ f1 f2 f3 f4 f5 f6) {k : Nat} (hk : k < 4) : f1 k = mv μ 0 k := h.2.2.1 k hk
theorem Rp.wid (h : Rp μ f1 f2 f3 f4 f5 f6) {k : Nat} (hk : k < 8) : f2 k = mv μ 1 k := h.2.2.2.1 k hk
theorem Rp.lef (h : Rp μ f1 f2 f3 f4 f5 f6) {k : Nat} (hk : k < 8) : f3 k = mv μ 2 k := h.2.2.2.2.1 k hk
theorem Rp.rig (h : Rp μ f1 f2 f3 f4 f5 f6) {k : Nat} (hk : k < 8) : f4 k = mv μ 3 k := h.2.2.2.2.2.1 k hk
theorem Rp.fit (h : Rp μ f1 f2 f3 f4 f5 f6) (k : Nat) : fits .char (.int (f5 k)) = true := h.2.2.2.2.2.2.1 k
theorem Rp.len (h : Rp μ f1 f2 f3 f4 f5 f6) {i : Nat} (hi : i < mn μ) : f6 i = nI (ml μ i) := h.2.2.2.2.2.2.2.1 i hi
theorem Rp.sig (h : Rp μ f1 f2 f3 f4 f5 f6) {i j : Nat} (hi : i < mn μ) (hj : j < ml μ i) : f5 (i * 10 + j) = mg μ i j := h.2.2.2.2.2.2.2.2 i hi j hj
theorem Ok.len (h : Ok μ) {i : Nat} (hi : i < mn μ) : 1 ≤ ml μ i ∧ ml μ i ≤ 10 := ⟨(h.2 i hi).1, (h.2 i hi).2.1⟩
theorem Ok.so (h : Ok μ) {i j : Nat} (hi : i < mn μ) (hj : j < ml μ i) : so μ i j < 8 := (h.2 i hi).2.2 j hj
end RP
/-- the sheet at b says the text μ -/
def ShP (κ : Kt) (z : Nat) (st : St) (b : Nat) (μ : Mu) : Prop := ∃ f1 f2 f3 f4 f5 f6 : Nat → Int32, Ob z st b (bSh κ b f1 f2 f3 f4 f5 f6 (nI (mn μ))) ∧ Rp μ f1 f2 f3 f4 f5 f6
theorem ShP.fr {κ : Kt} {z : Nat} {st st' : St} {b : Nat} {μ : Mu} {A : Nat → Prop} (h : ShP κ z st b μ) (hF : Fr A st st') (hA : ∀ q, b ≤ q → q < b + 7 → ¬ A q) : ShP κ z st' b μ := by
  obtain ⟨f1, f2, f3, f4, f5, f6, h1, h2⟩ := h
  exact ⟨f1, f2, f3, f4, f5, f6, hF.ob h1 hA, h2⟩
/-- the text without a word; with two words exchanged -/
def muDrop (μ : Mu) (i : Nat) : Mu := (μ.1, mn μ - 1, fun w => if w < i then ml μ w else ml μ (w + 1), fun w j => if w < i then mg μ w j else mg μ (w + 1) j)
def muSwap (μ : Mu) (a b : Nat) : Mu := (μ.1, mn μ, fun w => if w = a then ml μ b else if w = b then ml μ a else ml μ w, fun w j => if w = a then mg μ b j else if w = b then mg μ a j else mg μ w j)
theorem muDrop_ok {μ : Mu} {i : Nat} (h : Ok μ) (hi : i < mn μ) : Ok (muDrop μ i) := by
  refine ⟨by show mn μ - 1 ≤ 24; have := h.1; omega, fun w hw => ?_⟩
  have hw : w < mn μ - 1 := hw
  by_cases hc : w < i
  · have := h.2 w (by omega)
    simpa [muDrop, ml, mg, so, hc] using this
  · have := h.2 (w + 1) (by omega)
    simpa [muDrop, ml, mg, so, hc] using this
theorem muSwap_ok {μ : Mu} {a b : Nat} (h : Ok μ) (ha : a < mn μ) (hb : b < mn μ) : Ok (muSwap μ a b) := by
  refine ⟨h.1, fun w hw => ?_⟩
  have hw : w < mn μ := hw
  by_cases hc : w = a
  · have := h.2 b hb
    simpa [muSwap, ml, mg, so, hc] using this
  · by_cases hc2 : w = b
    · have := h.2 a ha
      subst hc2
      simpa [muSwap, ml, mg, so, hc] using this
    · have := h.2 w hw
      simpa [muSwap, ml, mg, so, hc, hc2] using this
end
section
/-! small facts for the walks -/
theorem ws_lv {p : Program} {l : Launch} {e : Env} {R : Room} {s : State} {m : MethodId} {args : Array Value} {below : List Frame} {meth : Method} {c : Code} {κ : Kt} {n k sl : Nat} {Q : State → Prop} {st : St} {pc : Nat} {lv lv2 : List (Option Value)} {stk : List Value} (h : lv = lv2) (kk : WS p l e R s m args below meth c κ n k sl Q st pc lv2 stk) : WS p l e R s m args below meth c κ n k sl Q st pc lv stk := h ▸ kk
/-- locals of which less is said -/
def lw_le : List (Option Value) → List (Option Value) → Prop
  | [], [] => True
  | none :: a, _ :: b => lw_le a b
  | some v :: a, some w :: b => v = w ∧ lw_le a b
  | _, _ => False
theorem lw_le_sub : ∀ {a b : List (Option Value)}, lw_le a b → a.length = b.length ∧ ∀ (i : Nat) (v : Value), a[i]? = some (some v) → b[i]? = some (some v)
  | [], [], _ => ⟨rfl, fun _ _ h => h⟩
  | none :: a, x :: b, h => by
    obtain ⟨h1, h2⟩ := lw_le_sub (a := a) (b := b) h
    refine ⟨congrArg (· + 1) h1, fun i v hi => ?_⟩
    cases i with
    | zero => cases hi
    | succ i => exact h2 i v hi
  | some v :: a, some w :: b, h => by
    obtain ⟨h0, h⟩ := h
    subst h0
    obtain ⟨h1, h2⟩ := lw_le_sub (a := a) (b := b) h
    refine ⟨congrArg (· + 1) h1, fun i x hi => ?_⟩
    cases i with
    | zero => exact hi
    | succ i => exact h2 i x hi
  | [], _ :: _, h => h.elim
  | some _ :: _, [], h => h.elim
  | none :: _, [], h => h.elim
  | some _ :: _, none :: _, h => h.elim
theorem ws_wk {p : Program} {l : Launch} {e : Env} {R : Room} {s : State} {m : MethodId} {args : Array Value} {below : List Frame} {meth : Method} {c : Code} {κ : Kt} {n k sl : Nat} {Q : State → Prop} {st : St} {pc : Nat} {lv lv2 : List (Option Value)} {stk : List Value} (h : lw_le lv2 lv) (kk : WS p l e R s m args below meth c κ n k sl Q st pc lv2 stk) : WS p l e R s m args below meth c κ n k sl Q st pc lv stk := fun hz H locs ls hW hS hl => kk hz H locs ls hW hS ⟨hl.1.trans (lw_le_sub h).1.symm, hl.2.1, fun i v hi => hl.2.2 i v ((lw_le_sub h).2 i v hi)⟩
/-- the sort's number, or another number where there is none -/
def scv (no x : Int32) : Int32 := if sc x < 8 then nI (sc x) else no
theorem scv_k {no x : Int32} (h : sc x < 8) : scv no x = nI (sc x) := if_pos h
theorem scv_0 {no x : Int32} (h1 : nI 97 ≤ x) (h2 : x ≤ nI 122) : scv no x = nI 0 := by
  have : sc x = 0 := by unfold sc; rw [if_pos ⟨h1, h2⟩]
  unfold scv
  rw [this]
  rfl
theorem sc_8 {x : Int32} (h0 : ¬ (nI 97 ≤ x ∧ x ≤ nI 122)) (h1 : ¬ x = nI 46) (h2 : ¬ x = nI 44) (h3 : ¬ x = nI 59) (h4 : ¬ x = nI 58) (h5 : ¬ x = nI 45) (h6 : ¬ x = nI 39) (h7 : ¬ x = nI 33) : sc x = 8 := by
  unfold sc
  rw [if_neg h0, if_neg h1, if_neg h2, if_neg h3, if_neg h4, if_neg h5, if_neg h6, if_neg h7]
theorem scv_8 {no x : Int32} (h0 : ¬ (nI 97 ≤ x ∧ x ≤ nI 122)) (h1 : ¬ x = nI 46) (h2 : ¬ x = nI 44) (h3 : ¬ x = nI 59) (h4 : ¬ x = nI 58) (h5 : ¬ x = nI 45) (h6 : ¬ x = nI 39) (h7 : ¬ x = nI 33) : scv no x = no := by
  unfold scv
  rw [sc_8 h0 h1 h2 h3 h4 h5 h6 h7]
  rfl
theorem fit_nat {x : Int32} (h : fits .char (.int x) = true) : ∃ q : Nat, q < 65536 ∧ x = nI q := by
  have h1 : (decide (0 ≤ x) && decide (x ≤ 65535)) = true := h
  simp only [Bool.and_eq_true, decide_eq_true_eq] at h1
  obtain ⟨q, hq, e⟩ := nI_of2 (n := 65535) (by decide) (fun z => absurd h1.1 (Int32.not_le.mpr z)) h1.2
  exact ⟨q, by omega, e⟩
theorem fit_char {x : Int32} (h : fits .char (.int x) = true) : narrow .char (.int x) = .int x := by
  obtain ⟨q, hq, rfl⟩ := fit_nat h
  exact (pk_charN hq).1
theorem fit_of {q : Nat} (h : q < 65536) : fits .char (.int (nI q)) = true := (pk_charN h).2
theorem fit_nar {x : Int32} (h : fits .char (.int x) = true) : vp_nar .char x = x := by
  have := fit_char h
  unfold vp_nar
  rw [this]
theorem max0 {a : Nat} (h : a < 2 ^ 31) : (if nI a < nI 0 then nI 0 else nI a) = nI a := if_neg (nI_nlt (Nat.zero_le _) h)
theorem upd_fit {f : Nat → Int32} {k : Nat} {x : Int32} (h : ∀ j, fits .char (.int (f j)) = true) (hx : fits .char (.int x) = true) : ∀ j, fits .char (.int (upd f k x j)) = true := fun j => by
  unfold upd
  split
  · exact hx
  · exact h j
theorem cpy_fit {f g : Nat → Int32} {a b n : Nat} (h : ∀ j, fits .char (.int (f j)) = true) (h2 : ∀ j, fits .char (.int (g j)) = true) : ∀ j, fits .char (.int (va_cpy f g a b n j)) = true := fun j => by
  unfold va_cpy
  split
  · exact h _
  · exact h2 j
theorem smN_succ (f : Nat → Nat) (k : Nat) : smN f (k + 1) = smN f k + f k := rfl
/-- signs of a sort in a word, in the text -/
def cnW (μ : Mu) (s w : Nat) : Nat → Nat := fun k => smN (fun j => if so μ w j = s then 1 else 0) k
def cnT (μ : Mu) (s : Nat) : Nat → Nat := fun k => smN (fun w => cnW μ s w (ml μ w)) k
theorem cnW_le (μ : Mu) (s w k : Nat) : cnW μ s w k ≤ k := by
  have := smN_le (f := fun j => if so μ w j = s then 1 else 0) (c := 1) k (fun j _ => by
    show (if so μ w j = s then 1 else 0) ≤ 1
    split <;> omega)
  unfold cnW
  omega
theorem cnT_le {μ : Mu} (h : Ok μ) (s : Nat) : ∀ k, k ≤ mn μ → cnT μ s k ≤ 10 * k := by
  intro k hk
  have := smN_le (f := fun w => cnW μ s w (ml μ w)) (c := 10) k (fun w hw => Nat.le_trans (cnW_le μ s w _) (h.len (by omega)).2)
  unfold cnT
  omega
theorem sgn_le {μ : Mu} (h : Ok μ) : ∀ k, k ≤ mn μ → smN (ml μ) k ≤ 10 * k := by
  intro k hk
  have := smN_le (f := ml μ) (c := 10) k (fun w hw => (h.len (by omega)).2)
  omega
theorem cnW_1 {μ : Mu} {s w k : Nat} (h : so μ w k = s) : cnW μ s w (k + 1) = cnW μ s w k + 1 := by
  show smN _ k + (if so μ w k = s then 1 else 0) = _
  rw [if_pos h]
  rfl
theorem cnW_0 {μ : Mu} {s w k : Nat} (h : ¬ so μ w k = s) : cnW μ s w (k + 1) = cnW μ s w k := by
  show smN _ k + (if so μ w k = s then 1 else 0) = _
  rw [if_neg h]
  rfl
theorem cnT_s (μ : Mu) (s k : Nat) : cnT μ s (k + 1) = cnT μ s k + cnW μ s k (ml μ k) := rfl
theorem cpy0 {f g : Nat → Int32} {n k : Nat} (h : k < n) : va_cpy f g 0 0 n k = f k := by
  rw [pk_cpy_in (Nat.zero_le _) (by omega)]
  congr 1
  omega
theorem Rp_copy {μ : Mu} {f1 f2 f3 f4 f5 f6 g1 g2 g3 g4 g5 g6 : Nat → Int32} (hR : Rp μ f1 f2 f3 f4 f5 f6) (hg : ∀ k, fits .char (.int (g5 k)) = true) : Rp μ (va_cpy f1 g1 0 0 4) (va_cpy f2 g2 0 0 8) (va_cpy f3 g3 0 0 8) (va_cpy f4 g4 0 0 8) (va_cpy f5 g5 0 0 (mn μ * 10)) (va_cpy f6 g6 0 0 (mn μ)) := by
  refine ⟨hR.ok, trivial, fun k hk => (cpy0 hk).trans (hR.set hk), fun k hk => (cpy0 hk).trans (hR.wid hk), fun k hk => (cpy0 hk).trans (hR.lef hk), fun k hk => (cpy0 hk).trans (hR.rig hk), cpy_fit hR.fit hg, fun i hi => (cpy0 hi).trans (hR.len hi), fun i hi j hj => ?_⟩
  have := (hR.ok.len hi).2
  rw [cpy0 (by omega)]
  exact hR.sig hi hj
theorem drop6 {μ : Mu} {g6 : Nat → Int32} {i k : Nat} (h : ∀ w, w < mn μ → g6 w = if i ≤ w ∧ w < i + k then nI (ml μ (w + 1)) else nI (ml μ w)) (hk : i + 1 + k < mn μ) : ∀ w, w < mn μ → upd g6 (i + k) (g6 (i + 1 + k)) w = if i ≤ w ∧ w < i + (k + 1) then nI (ml μ (w + 1)) else nI (ml μ w) := by
  intro w hw
  by_cases hc : w = i + k
  · subst hc
    rw [pk_us, if_pos (by omega), h _ hk, if_neg (by omega), show i + 1 + k = i + k + 1 from by omega]
  · rw [pk_un hc, h w hw]
    by_cases h2 : i ≤ w ∧ w < i + k
    · rw [if_pos h2, if_pos (by omega)]
    · rw [if_neg h2, if_neg (by omega)]
theorem drop5 {μ : Mu} {f5 g5 : Nat → Int32} {i k : Nat} (h : ∀ w j, w < mn μ → j < 10 → g5 (w * 10 + j) = f5 ((if i ≤ w ∧ w < i + k then w + 1 else w) * 10 + j)) (hk : i + 1 + k < mn μ) : ∀ w j, w < mn μ → j < 10 → va_cpy g5 g5 ((i + 1 + k) * 10) ((i + k) * 10) 10 (w * 10 + j) = f5 ((if i ≤ w ∧ w < i + (k + 1) then w + 1 else w) * 10 + j) := by
  intro w j hw hj
  by_cases hc : w = i + k
  · subst hc
    rw [pk_cpy_in (by omega) (by omega), show (i + 1 + k) * 10 + ((i + k) * 10 + j - (i + k) * 10) = (i + 1 + k) * 10 + j from by omega, h _ j hk hj, if_neg (by omega), if_pos (by omega), show i + 1 + k = i + k + 1 from by omega]
  · rw [pk_cpy_out (by omega), h w j hw hj]
    by_cases h2 : i ≤ w ∧ w < i + k
    · rw [if_pos h2, if_pos (by omega)]
    · rw [if_neg h2, if_neg (by omega)]
theorem Rp_drop {μ : Mu} {f1 f2 f3 f4 f5 f6 g5 g6 : Nat → Int32} {i k : Nat} (hR : Rp μ f1 f2 f3 f4 f5 f6) (hi : i < mn μ) (hk : mn μ - 1 ≤ i + k) (h6 : ∀ w, w < mn μ → g6 w = if i ≤ w ∧ w < i + k then nI (ml μ (w + 1)) else nI (ml μ w)) (h5 : ∀ w j, w < mn μ → j < 10 → g5 (w * 10 + j) = f5 ((if i ≤ w ∧ w < i + k then w + 1 else w) * 10 + j)) (hf : ∀ j, fits .char (.int (g5 j)) = true) : Rp (muDrop μ i) f1 f2 f3 f4 g5 g6 := by
  refine ⟨muDrop_ok hR.ok hi, trivial, fun k hk => hR.set hk, fun k hk => hR.wid hk, fun k hk => hR.lef hk, fun k hk => hR.rig hk, hf, fun w hw => ?_, fun w hw j hj => ?_⟩
  · have hw : w < mn μ - 1 := hw
    rw [h6 w (by omega)]
    show _ = nI (if w < i then ml μ w else ml μ (w + 1))
    by_cases hc : w < i
    · rw [if_pos hc, if_neg (by omega)]
    · rw [if_neg hc, if_pos (by omega)]
  · have hw : w < mn μ - 1 := hw
    have hj : j < if w < i then ml μ w else ml μ (w + 1) := hj
    show _ = if w < i then mg μ w j else mg μ (w + 1) j
    by_cases hc : w < i
    · rw [if_pos hc] at hj ⊢
      have := (hR.ok.len (show w < mn μ from by omega)).2
      rw [h5 w j (by omega) (by omega), if_neg (by omega)]
      exact hR.sig (by omega) hj
    · rw [if_neg hc] at hj ⊢
      have := (hR.ok.len (show w + 1 < mn μ from by omega)).2
      rw [h5 w j (by omega) (by omega), if_pos (by omega)]
      exact hR.sig (by omega) hj
theorem swap5 {f5 g5 : Nat → Int32} {i j k : Nat} (h : ∀ w q, w < 24 → q < 10 → g5 (w * 10 + q) = f5 ((if q < k then (if w = i then j else if w = j then i else w) else w) * 10 + q)) (hi : i < 24) (hj : j < 24) (hij : i ≠ j) (hk : k < 10) : ∀ w q, w < 24 → q < 10 → upd (upd g5 (i * 10 + k) (g5 (j * 10 + k))) (j * 10 + k) (g5 (i * 10 + k)) (w * 10 + q) = f5 ((if q < k + 1 then (if w = i then j else if w = j then i else w) else w) * 10 + q) := by
  intro w q hw hq
  by_cases hqk : q = k
  · subst hqk
    rw [if_pos (by omega)]
    by_cases h1 : w = j
    · subst h1
      rw [pk_us, h i q hi hq, if_neg (by omega), if_neg (Ne.symm hij), if_pos rfl]
    · rw [pk_un (by omega)]
      by_cases h2 : w = i
      · subst h2
        rw [pk_us, h j q hj hq, if_neg (by omega), if_pos rfl]
      · rw [pk_un (by omega), h w q hw hq, if_neg (by omega), if_neg h2, if_neg h1]
  · rw [pk_un (by omega), pk_un (by omega), h w q hw hq]
    by_cases h3 : q < k
    · rw [if_pos h3, if_pos (show q < k + 1 by omega)]
    · rw [if_neg h3, if_neg (show ¬ q < k + 1 by omega)]
theorem Rp_swap {μ : Mu} {f1 f2 f3 f4 f5 f6 g5 : Nat → Int32} {i j k : Nat} (hR : Rp μ f1 f2 f3 f4 f5 f6) (hi : i < mn μ) (hj : j < mn μ) (hij : i ≠ j) (hk : 10 ≤ k) (h5 : ∀ w q, w < 24 → q < 10 → g5 (w * 10 + q) = f5 ((if q < k then (if w = i then j else if w = j then i else w) else w) * 10 + q)) (hf : ∀ q, fits .char (.int (g5 q)) = true) : Rp (muSwap μ i j) f1 f2 f3 f4 g5 (upd (upd f6 i (nI (ml μ j))) j (nI (ml μ i))) := by
  have h24 := hR.le
  refine ⟨muSwap_ok hR.ok hi hj, trivial, fun k hk => hR.set hk, fun k hk => hR.wid hk, fun k hk => hR.lef hk, fun k hk => hR.rig hk, hf, fun w hw => ?_, fun w hw q hq => ?_⟩
  · have hw : w < mn μ := hw
    show _ = nI (if w = i then ml μ j else if w = j then ml μ i else ml μ w)
    by_cases h1 : w = i
    · subst h1
      rw [pk_un hij, pk_us, if_pos rfl]
    · by_cases h2 : w = j
      · subst h2
        rw [pk_us, if_neg h1, if_pos rfl]
      · rw [pk_un h2, pk_un h1, if_neg h1, if_neg h2]
        exact hR.len hw
  · have hw : w < mn μ := hw
    have hq : q < if w = i then ml μ j else if w = j then ml μ i else ml μ w := hq
    show _ = if w = i then mg μ j q else if w = j then mg μ i q else mg μ w q
    have l1 := (hR.ok.len hi).2
    have l2 := (hR.ok.len hj).2
    have l3 := (hR.ok.len hw).2
    by_cases h1 : w = i
    · rw [if_pos h1] at hq ⊢
      rw [h5 w q (by omega) (by omega), if_pos (by omega), if_pos h1]
      exact hR.sig hj hq
    · by_cases h2 : w = j
      · rw [if_neg h1, if_pos h2] at hq ⊢
        rw [h5 w q (by omega) (by omega), if_pos (by omega), if_neg h1, if_pos h2]
        exact hR.sig hi hq
      · rw [if_neg h1, if_neg h2] at hq ⊢
        rw [h5 w q (by omega) (by omega), if_pos (by omega), if_neg h1, if_neg h2]
        exact hR.sig hw hq
end
section
/-! ===== lN n to 2^64: shifts, and, or, masks, one bit ===== -/
theorem wb_tb (n : Nat) : (lN n).toBitVec = BitVec.ofNat 64 n := rfl
theorem wb_inj {a b : Int64} (h : a.toBitVec = b.toBitVec) : a = b := Int64.toBitVec_inj.mp h
theorem wb_tn {n : Nat} (h : n < 2 ^ 64) : (lN n).toBitVec.toNat = n := by rw [wb_tb, BitVec.toNat_ofNat, Nat.mod_eq_of_lt h]
theorem wb_of (x : Int64) : ∃ n, n < 2 ^ 64 ∧ x = lN n := ⟨x.toBitVec.toNat, x.toBitVec.isLt, wb_inj (by rw [wb_tb]; simp)⟩
theorem wb_of32 (x : Int32) : ∃ n, n < 2 ^ 32 ∧ x = nI n := ⟨x.toBitVec.toNat, x.toBitVec.isLt, Int32.toBitVec_inj.mp (by show _ = BitVec.ofNat 32 _; simp)⟩
theorem wb_c : ∀ k, k < 64 → ((nI k).toInt64 &&& 63) = lN k := by decide +kernel
theorem wb_cu : ∀ k, k < 64 → ((nI k).toInt64.toUInt64 &&& Int64.toUInt64 63) = UInt64.ofNat k := by decide +kernel
theorem wb_sm : ∀ k, k < 64 → (BitVec.ofNat 64 k).smod 64 = BitVec.ofNat 64 k := by decide +kernel
theorem wb_pw {a b : Nat} (h : a ≤ b) : 2 ^ b = 2 ^ a * 2 ^ (b - a) := by rw [← Nat.pow_add]; congr 1; omega
theorem wb_lt2 {a b : Nat} (h : a < b) : 2 ^ a < 2 ^ b := Nat.pow_lt_pow_right (by decide) h
theorem wb_mod (n : Nat) : lN n = lN (n % 2 ^ 64) := wb_inj (by rw [wb_tb, wb_tb]; apply BitVec.eq_of_toNat_eq; rw [BitVec.toNat_ofNat, BitVec.toNat_ofNat, Nat.mod_mod])
theorem wb_shr {n k : Nat} (hn : n < 2 ^ 64) (hk : k < 64) : ((lN n).toUInt64 >>> ((nI k).toInt64.toUInt64 &&& Int64.toUInt64 63)).toInt64 = lN (n / 2 ^ k) := by
  rw [wb_cu k hk]
  apply wb_inj
  apply BitVec.eq_of_toNat_eq
  show ((lN n).toUInt64 >>> UInt64.ofNat k).toNat = (BitVec.ofNat 64 _).toNat
  have h1 : (UInt64.ofNat k).toNat = k := by
    show (BitVec.ofNat 64 k).toNat = k
    rw [BitVec.toNat_ofNat, Nat.mod_eq_of_lt (by omega)]
  have h2 : (lN n).toUInt64.toNat = n := wb_tn hn
  rw [UInt64.toNat_shiftRight, h1, h2, Nat.mod_eq_of_lt hk, Nat.shiftRight_eq_div_pow, BitVec.toNat_ofNat, Nat.mod_eq_of_lt (Nat.lt_of_le_of_lt (Nat.div_le_self _ _) hn)]
theorem wb_shl (n : Nat) {k : Nat} (hk : k < 64) : lN n <<< ((nI k).toInt64 &&& 63) = lN (n * 2 ^ k) := by
  rw [wb_c k hk]
  apply wb_inj
  rw [Int64.toBitVec_shiftLeft, wb_tb, wb_tb, wb_tb, wb_sm k hk]
  apply BitVec.eq_of_toNat_eq
  rw [BitVec.shiftLeft_eq', BitVec.toNat_shiftLeft, BitVec.toNat_ofNat, BitVec.toNat_ofNat, BitVec.toNat_ofNat, Nat.mod_eq_of_lt (show k < 2 ^ 64 by omega), Nat.shiftLeft_eq, Nat.mul_mod, Nat.mod_mod, ← Nat.mul_mod]
theorem wb_and {a b : Nat} (ha : a < 2 ^ 64) (hb : b < 2 ^ 64) : lN a &&& lN b = lN (a &&& b) := by
  apply wb_inj
  rw [Int64.toBitVec_and, wb_tb, wb_tb, wb_tb]
  apply BitVec.eq_of_toNat_eq
  rw [BitVec.toNat_and, BitVec.toNat_ofNat, BitVec.toNat_ofNat, BitVec.toNat_ofNat, Nat.mod_eq_of_lt ha, Nat.mod_eq_of_lt hb, Nat.mod_eq_of_lt (Nat.and_lt_two_pow _ hb)]
theorem wb_or {a b : Nat} (ha : a < 2 ^ 64) (hb : b < 2 ^ 64) : lN a ||| lN b = lN (a ||| b) := by
  apply wb_inj
  rw [Int64.toBitVec_or, wb_tb, wb_tb, wb_tb]
  apply BitVec.eq_of_toNat_eq
  rw [BitVec.toNat_or, BitVec.toNat_ofNat, BitVec.toNat_ofNat, BitVec.toNat_ofNat, Nat.mod_eq_of_lt ha, Nat.mod_eq_of_lt hb, Nat.mod_eq_of_lt (Nat.or_lt_two_pow ha hb)]
theorem wb_mask {n k : Nat} (hn : n < 2 ^ 64) (hk : k < 64) : lN n &&& lN (2 ^ k - 1) = lN (n % 2 ^ k) := by
  rw [wb_and hn (by have := wb_lt2 hk; omega), Nat.and_two_pow_sub_one_eq_mod]
theorem wb_a1 {n : Nat} (hn : n < 2 ^ 64) : lN n &&& 1 = lN (n % 2) := wb_mask (k := 1) hn (by decide)
theorem wb_bit {n k : Nat} (hn : n < 2 ^ 64) (hk : k < 64) : ((lN n).toUInt64 >>> ((nI k).toInt64.toUInt64 &&& Int64.toUInt64 63)).toInt64 &&& 1 = lN (n / 2 ^ k % 2) := by
  rw [wb_shr hn hk, wb_a1 (Nat.lt_of_le_of_lt (Nat.div_le_self _ _) hn)]
theorem wb_xor {q k : Nat} (hk : k < 63) (h : 2 ^ k ≤ q) (h2 : q < 2 ^ (k + 1)) : lN q ^^^ lN (2 ^ k) = lN (q - 2 ^ k) := by
  obtain ⟨r, rfl⟩ : ∃ r, q = 2 ^ k + r := ⟨q - 2 ^ k, by omega⟩
  have hr : r < 2 ^ k := by rw [Nat.pow_succ] at h2; omega
  have hx : (2 ^ k + r) ^^^ 2 ^ k = r := by
    apply Nat.eq_of_testBit_eq
    intro i
    rw [Nat.testBit_xor, Nat.testBit_two_pow]
    rcases Nat.lt_trichotomy i k with h | h | h
    · rw [Nat.testBit_two_pow_add_gt h]
      simp [show ¬ k = i by omega]
    · subst h
      rw [Nat.testBit_two_pow_add_eq]
      simp
    · have a1 : 2 ^ (k + 1) ≤ 2 ^ i := Nat.pow_le_pow_right (by decide) h
      rw [Nat.testBit_lt_two_pow (show 2 ^ k + r < 2 ^ i by omega), Nat.testBit_lt_two_pow (show r < 2 ^ i by omega)]
      simp [show ¬ k = i by omega]
  have b1 := wb_lt2 (show k + 1 < 64 by omega)
  have b2 := wb_lt2 (show k < 64 by omega)
  apply wb_inj
  rw [Int64.toBitVec_xor, wb_tb, wb_tb, wb_tb]
  apply BitVec.eq_of_toNat_eq
  rw [BitVec.toNat_xor, BitVec.toNat_ofNat, BitVec.toNat_ofNat, BitVec.toNat_ofNat, Nat.mod_eq_of_lt (by omega : 2 ^ k + r < 2 ^ 64), Nat.mod_eq_of_lt b2, hx, Nat.add_sub_cancel_left, Nat.mod_eq_of_lt (by omega)]
end
section
section
variable {zl : Launch} {κ : Kt} {z : Nat} {st0 : St}
set_option maxRecDepth 100000 in
set_option maxHeartbeats 4000000 in
theorem c_X4_sortWith {x : Int32} : CT zl κ yX4_sortWith cX4_sortWith 1 (some .int) (r0 0 0) z [.int (x)] st0 (PRi (scv (-1) x) st0) := by
  obtain ⟨P, hP⟩ : ∃ P : Option Value → St → Prop, P = (PRi (scv (-1) x) st0) := ⟨_, rfl⟩
  rw [← hP]
  refine CT.of (by decide +kernel) (Nat.le_of_ble_eq_true rfl) (fun zp ze zs zm zar zbe zme zc C _ => ?_)
  have C : Cx zp zs zm zar zme zc κ cX4_sortWith 1 RX4 (some .int) := C
  refine ws_lv (lv2 := [some (.int (x))]) rfl ?_
  refine ws_iload_n 0 C dX4_sortWith_0 rfl ?_
  refine ws_bipush 1 C dX4_sortWith_1 (nI 97) (by decide) ?_
  refine ws_icmp_lt 3 C 14 dX4_sortWith_3 (by decide)  (fun c3 => ?_) (fun c3 => ?_)
  · skip
    have h0 : ¬ (nI 97 ≤ x ∧ x ≤ nI 122) := fun q => Int32.not_lt.mpr q.1 c3
    refine ws_iload_n 14 C dX4_sortWith_14 rfl ?_
    by_cases h33 : x = nI 33
    · skip
      refine ws_lsw 15 C dX4_sortWith_15 (78) 93 (by decide) (by rw [h33]; rfl) (by decide) ?_
      refine ws_bipush 93 C dX4_sortWith_93 (nI 7) (by decide) ?_
      exact ws_iret 95 C  dX4_sortWith_95 rfl (Nat.le_refl _) (Nat.le_refl _) (by rw [hP]; exact ⟨congrArg (fun z => some (Value.int z)) (by rw [h33]; decide), rfl⟩)
    by_cases h39 : x = nI 39
    · skip
      refine ws_lsw 15 C dX4_sortWith_15 (75) 90 (by decide) (by rw [h39]; rfl) (by decide) ?_
      refine ws_bipush 90 C dX4_sortWith_90 (nI 6) (by decide) ?_
      exact ws_iret 92 C  dX4_sortWith_92 rfl (Nat.le_refl _) (Nat.le_refl _) (by rw [hP]; exact ⟨congrArg (fun z => some (Value.int z)) (by rw [h39]; decide), rfl⟩)
    by_cases h44 : x = nI 44
    · skip
      refine ws_lsw 15 C dX4_sortWith_15 (67) 82 (by decide) (by rw [h44]; rfl) (by decide) ?_
      refine ws_iconst 82 C dX4_sortWith_82 (nI 2) (by decide) ?_
      exact ws_iret 83 C  dX4_sortWith_83 rfl (Nat.le_refl _) (Nat.le_refl _) (by rw [hP]; exact ⟨congrArg (fun z => some (Value.int z)) (by rw [h44]; decide), rfl⟩)
    by_cases h45 : x = nI 45
    · skip
      refine ws_lsw 15 C dX4_sortWith_15 (73) 88 (by decide) (by rw [h45]; rfl) (by decide) ?_
      refine ws_iconst 88 C dX4_sortWith_88 (nI 5) (by decide) ?_
      exact ws_iret 89 C  dX4_sortWith_89 rfl (Nat.le_refl _) (Nat.le_refl _) (by rw [hP]; exact ⟨congrArg (fun z => some (Value.int z)) (by rw [h45]; decide), rfl⟩)
    by_cases h46 : x = nI 46
    · skip
      refine ws_lsw 15 C dX4_sortWith_15 (65) 80 (by decide) (by rw [h46]; rfl) (by decide) ?_
      refine ws_iconst 80 C dX4_sortWith_80 (nI 1) (by decide) ?_
      exact ws_iret 81 C  dX4_sortWith_81 rfl (Nat.le_refl _) (Nat.le_refl _) (by rw [hP]; exact ⟨congrArg (fun z => some (Value.int z)) (by rw [h46]; decide), rfl⟩)
    by_cases h58 : x = nI 58
    · skip
      refine ws_lsw 15 C dX4_sortWith_15 (71) 86 (by decide) (by rw [h58]; rfl) (by decide) ?_
      refine ws_iconst 86 C dX4_sortWith_86 (nI 4) (by decide) ?_
      exact ws_iret 87 C  dX4_sortWith_87 rfl (Nat.le_refl _) (Nat.le_refl _) (by rw [hP]; exact ⟨congrArg (fun z => some (Value.int z)) (by rw [h58]; decide), rfl⟩)
    by_cases h59 : x = nI 59
    · skip
      refine ws_lsw 15 C dX4_sortWith_15 (69) 84 (by decide) (by rw [h59]; rfl) (by decide) ?_
      refine ws_iconst 84 C dX4_sortWith_84 (nI 3) (by decide) ?_
      exact ws_iret 85 C  dX4_sortWith_85 rfl (Nat.le_refl _) (Nat.le_refl _) (by rw [hP]; exact ⟨congrArg (fun z => some (Value.int z)) (by rw [h59]; decide), rfl⟩)
    refine ws_lsw 15 C dX4_sortWith_15 (81) 96 (by decide) (show Op.lookupswitch.offset [(33, 78), (39, 75), (44, 67), (45, 73), (46, 65), (58, 71), (59, 69)] (81) x.toInt = 81 from by rw [lv_osw (a := 33) h33 rfl, lv_osw (a := 39) h39 rfl, lv_osw (a := 44) h44 rfl, lv_osw (a := 45) h45 rfl, lv_osw (a := 46) h46 rfl, lv_osw (a := 58) h58 rfl, lv_osw (a := 59) h59 rfl]; rfl) (by decide) ?_
    refine ws_iconst 96 C dX4_sortWith_96 ((-1)) (by decide) ?_
    exact ws_iret 97 C  dX4_sortWith_97 rfl (Nat.le_refl _) (Nat.le_refl _) (by rw [hP]; exact ⟨congrArg (fun z => some (Value.int z)) ((scv_8 h0 h46 h44 h59 h58 h45 h39 h33).symm), rfl⟩)
  · skip
    refine ws_iload_n 6 C dX4_sortWith_6 rfl ?_
    refine ws_bipush 7 C dX4_sortWith_7 (nI 122) (by decide) ?_
    refine ws_icmp_gt 9 C 14 dX4_sortWith_9 (by decide)  (fun c9 => ?_) (fun c9 => ?_)
    · skip
      have h0 : ¬ (nI 97 ≤ x ∧ x ≤ nI 122) := fun q => Int32.not_lt.mpr q.2 c9
      refine ws_iload_n 14 C dX4_sortWith_14 rfl ?_
      by_cases h33 : x = nI 33
      · skip
        refine ws_lsw 15 C dX4_sortWith_15 (78) 93 (by decide) (by rw [h33]; rfl) (by decide) ?_
        refine ws_bipush 93 C dX4_sortWith_93 (nI 7) (by decide) ?_
        exact ws_iret 95 C  dX4_sortWith_95 rfl (Nat.le_refl _) (Nat.le_refl _) (by rw [hP]; exact ⟨congrArg (fun z => some (Value.int z)) (by rw [h33]; decide), rfl⟩)
      by_cases h39 : x = nI 39
      · skip
        refine ws_lsw 15 C dX4_sortWith_15 (75) 90 (by decide) (by rw [h39]; rfl) (by decide) ?_
        refine ws_bipush 90 C dX4_sortWith_90 (nI 6) (by decide) ?_
        exact ws_iret 92 C  dX4_sortWith_92 rfl (Nat.le_refl _) (Nat.le_refl _) (by rw [hP]; exact ⟨congrArg (fun z => some (Value.int z)) (by rw [h39]; decide), rfl⟩)
      by_cases h44 : x = nI 44
      · skip
        refine ws_lsw 15 C dX4_sortWith_15 (67) 82 (by decide) (by rw [h44]; rfl) (by decide) ?_
        refine ws_iconst 82 C dX4_sortWith_82 (nI 2) (by decide) ?_
        exact ws_iret 83 C  dX4_sortWith_83 rfl (Nat.le_refl _) (Nat.le_refl _) (by rw [hP]; exact ⟨congrArg (fun z => some (Value.int z)) (by rw [h44]; decide), rfl⟩)
      by_cases h45 : x = nI 45
      · skip
        refine ws_lsw 15 C dX4_sortWith_15 (73) 88 (by decide) (by rw [h45]; rfl) (by decide) ?_
        refine ws_iconst 88 C dX4_sortWith_88 (nI 5) (by decide) ?_
        exact ws_iret 89 C  dX4_sortWith_89 rfl (Nat.le_refl _) (Nat.le_refl _) (by rw [hP]; exact ⟨congrArg (fun z => some (Value.int z)) (by rw [h45]; decide), rfl⟩)
      by_cases h46 : x = nI 46
      · skip
        refine ws_lsw 15 C dX4_sortWith_15 (65) 80 (by decide) (by rw [h46]; rfl) (by decide) ?_
        refine ws_iconst 80 C dX4_sortWith_80 (nI 1) (by decide) ?_
        exact ws_iret 81 C  dX4_sortWith_81 rfl (Nat.le_refl _) (Nat.le_refl _) (by rw [hP]; exact ⟨congrArg (fun z => some (Value.int z)) (by rw [h46]; decide), rfl⟩)
      by_cases h58 : x = nI 58
      · skip
        refine ws_lsw 15 C dX4_sortWith_15 (71) 86 (by decide) (by rw [h58]; rfl) (by decide) ?_
        refine ws_iconst 86 C dX4_sortWith_86 (nI 4) (by decide) ?_
        exact ws_iret 87 C  dX4_sortWith_87 rfl (Nat.le_refl _) (Nat.le_refl _) (by rw [hP]; exact ⟨congrArg (fun z => some (Value.int z)) (by rw [h58]; decide), rfl⟩)
      by_cases h59 : x = nI 59
      · skip
        refine ws_lsw 15 C dX4_sortWith_15 (69) 84 (by decide) (by rw [h59]; rfl) (by decide) ?_
        refine ws_iconst 84 C dX4_sortWith_84 (nI 3) (by decide) ?_
        exact ws_iret 85 C  dX4_sortWith_85 rfl (Nat.le_refl _) (Nat.le_refl _) (by rw [hP]; exact ⟨congrArg (fun z => some (Value.int z)) (by rw [h59]; decide), rfl⟩)
      refine ws_lsw 15 C dX4_sortWith_15 (81) 96 (by decide) (show Op.lookupswitch.offset [(33, 78), (39, 75), (44, 67), (45, 73), (46, 65), (58, 71), (59, 69)] (81) x.toInt = 81 from by rw [lv_osw (a := 33) h33 rfl, lv_osw (a := 39) h39 rfl, lv_osw (a := 44) h44 rfl, lv_osw (a := 45) h45 rfl, lv_osw (a := 46) h46 rfl, lv_osw (a := 58) h58 rfl, lv_osw (a := 59) h59 rfl]; rfl) (by decide) ?_
      refine ws_iconst 96 C dX4_sortWith_96 ((-1)) (by decide) ?_
      exact ws_iret 97 C  dX4_sortWith_97 rfl (Nat.le_refl _) (Nat.le_refl _) (by rw [hP]; exact ⟨congrArg (fun z => some (Value.int z)) ((scv_8 h0 h46 h44 h59 h58 h45 h39 h33).symm), rfl⟩)
    · skip
      refine ws_iconst 12 C dX4_sortWith_12 (nI 0) (by decide) ?_
      exact ws_iret 13 C  dX4_sortWith_13 rfl (Nat.le_refl _) (Nat.le_refl _) (by rw [hP]; exact ⟨congrArg (fun z => some (Value.int z)) ((scv_0 (Int32.not_lt.mp c3) (Int32.not_lt.mp c9)).symm), rfl⟩)

set_option maxRecDepth 100000 in
set_option maxHeartbeats 4000000 in
theorem c_X3_signAt {b : Nat} {f1 f2 f3 f4 f5 f6 : Nat → Int32} {μ : Mu} (hB : Ob z st0 b (bSh κ b f1 f2 f3 f4 f5 f6 (nI (mn μ)))) (hR : Rp μ f1 f2 f3 f4 f5 f6) {i j : Nat} (hi : i < mn μ) (hj : j < ml μ i) : CT zl κ yX3_signAt cX3_signAt 3 (some .char) (r0 0 0) z [.ref (ad κ b), .int (nI i), .int (nI j)] st0 (PRi (mg μ i j) st0) := by
  obtain ⟨P, hP⟩ : ∃ P : Option Value → St → Prop, P = (PRi (mg μ i j) st0) := ⟨_, rfl⟩
  rw [← hP]
  refine CT.of (by decide +kernel) (Nat.le_of_ble_eq_true rfl) (fun zp ze zs zm zar zbe zme zc C _ => ?_)
  have C : Cx zp zs zm zar zme zc κ cX3_signAt 3 RX3 (some .char) := C
  refine ws_lv (lv2 := [some (.ref (ad κ b)), some (.int (nI i)), some (.int (nI j))]) rfl ?_
  have h24 := hR.le
  have h10 := (hR.ok.len hi).2
  refine ws_aload_n 0 C dX3_signAt_0 rfl ?_
  refine ws_get 1 C dX3_signAt_1 fX3_24 hB rfl rfl ?_
  refine ws_iload_n 4 C dX3_signAt_4 rfl ?_
  refine ws_bipush 5 C dX3_signAt_5 (nI 10) (by decide) ?_
  refine ws_imul 7 C dX3_signAt_7 (nI (i * 10)) (pk_mul _ _) ?_
  refine ws_iload_n 8 C dX3_signAt_8 rfl ?_
  refine ws_iadd 9 C dX3_signAt_9 (nI (i * 10 + j)) (nI_add _ _) ?_
  refine ws_cald 10 C dX3_signAt_10 hB 5 rfl (vp_in_nI (by omega) (by decide)) (mg μ i j) ((congrArg f5 (nI_clamp (by omega))).trans (hR.sig hi hj)) ?_
  exact ws_cret 11 C (fit_char (hR.sig hi hj ▸ hR.fit _)) dX3_signAt_11 rfl (Nat.le_refl _) (Nat.le_refl _) (by rw [hP]; exact ⟨rfl, rfl⟩)

set_option maxRecDepth 100000 in
set_option maxHeartbeats 4000000 in
theorem c_X3_sortAt {b : Nat} {f1 f2 f3 f4 f5 f6 : Nat → Int32} {μ : Mu} (hB : Ob z st0 b (bSh κ b f1 f2 f3 f4 f5 f6 (nI (mn μ)))) (hR : Rp μ f1 f2 f3 f4 f5 f6) {i j : Nat} (hi : i < mn μ) (hj : j < ml μ i) : CT zl κ yX3_sortAt cX3_sortAt 3 (some .int) (r0 1 22) z [.ref (ad κ b), .int (nI i), .int (nI j)] st0 (PRi (nI (so μ i j)) st0) := by
  obtain ⟨P, hP⟩ : ∃ P : Option Value → St → Prop, P = (PRi (nI (so μ i j)) st0) := ⟨_, rfl⟩
  rw [← hP]
  refine CT.of (by decide +kernel) (Nat.le_of_ble_eq_true rfl) (fun zp ze zs zm zar zbe zme zc C _ => ?_)
  have C : Cx zp zs zm zar zme zc κ cX3_sortAt 3 RX3 (some .int) := C
  refine ws_lv (lv2 := [some (.ref (ad κ b)), some (.int (nI i)), some (.int (nI j))]) rfl ?_
  have h8 := hR.ok.so hi hj
  refine ws_aload_n 0 C dX3_sortAt_0 rfl ?_
  refine ws_iload_n 1 C dX3_sortAt_1 rfl ?_
  refine ws_iload_n 2 C dX3_sortAt_2 rfl ?_
  refine ws_callV0 3 C dX3_sortAt_3 vX3_41 (c_X3_signAt hB hR hi hj) rfl hB rfl rfl ⟨by decide, by decide⟩ ⟨Nat.zero_le _, Nat.zero_le _⟩ rfl rfl rfl (kR ?_)
  refine ws_callSN0 6 C dX3_sortAt_6 vX3_45 ((scv_k h8 ▸ c_X4_sortWith : CT zl κ yX4_sortWith cX4_sortWith 1 (some .int) (r0 0 0) z [.int (mg μ i j)] st0 (PRi (nI (so μ i j)) st0))) rfl ⟨by decide, by decide⟩ ⟨Nat.zero_le _, Nat.zero_le _⟩ rfl rfl rfl (kR ?_)
  refine ws_iconst 9 C dX3_sortAt_9 (nI 0) (by decide) ?_
  refine ws_mmax 10 C dX3_sortAt_10 k201 k202 k43 k203 rfl (by decide) (Nat.le_of_ble_eq_true rfl) (Nat.zero_le _) (Nat.zero_le _) (nI (so μ i j)) (max0 (a := so μ i j) (by omega)) ?_
  exact ws_iret 13 C  dX3_sortAt_13 rfl (Nat.le_refl _) (Nat.le_refl _) (by rw [hP]; exact ⟨rfl, rfl⟩)

set_option maxRecDepth 100000 in
set_option maxHeartbeats 4000000 in
theorem c_X3_widthOf {b : Nat} {f1 f2 f3 f4 f5 f6 : Nat → Int32} {μ : Mu} (hB : Ob z st0 b (bSh κ b f1 f2 f3 f4 f5 f6 (nI (mn μ)))) (hR : Rp μ f1 f2 f3 f4 f5 f6) {i : Nat} (hi : i < mn μ) : CT zl κ yX3_widthOf cX3_widthOf 4 (some .int) (r0 2 44) z [.ref (ad κ b), .int (nI i)] st0 (PRi (wd μ i) st0) := by
  obtain ⟨P, hP⟩ : ∃ P : Option Value → St → Prop, P = (PRi (wd μ i) st0) := ⟨_, rfl⟩
  rw [← hP]
  refine CT.of (by decide +kernel) (Nat.le_of_ble_eq_true rfl) (fun zp ze zs zm zar zbe zme zc C _ => ?_)
  have C : Cx zp zs zm zar zme zc κ cX3_widthOf 4 RX3 (some .int) := C
  refine ws_lv (lv2 := [some (.ref (ad κ b)), some (.int (nI i)), none, none]) rfl ?_
  have h24 := hR.le
  have h10 := (hR.ok.len hi).2
  refine ws_iconst 0 C dX3_widthOf_0 (nI 0) (by decide) ?_
  refine ws_istore_n 1 C dX3_widthOf_1 rfl [some (.ref (ad κ b)), some (.int (nI i)), some (.int (nI 0)), none] rfl ?_
  refine ws_iconst 2 C dX3_widthOf_2 (nI 0) (by decide) ?_
  refine ws_istore_n 3 C dX3_widthOf_3 rfl [some (.ref (ad κ b)), some (.int (nI i)), some (.int (nI 0)), some (.int (nI 0))] rfl ?_
  have L4 : ∀ k : Nat, k ≤ ml μ i → ∀ (a : Int32), ∀ (ha : a = wdS μ i k), WS zp zl ze (r0 2 44) zs zm zar zbe zme zc κ z 0 0 (QM zbe zar zs κ z (r0 2 44) P) st0 4 [some (.ref (ad κ b)), some (.int (nI i)), some (.int (a)), some (.int (nI k))] [] := by
    refine dnw ?_
    intro k hk ih4 a ha
    refine ws_iload_n 4 C dX3_widthOf_4 rfl ?_
    refine ws_aload_n 5 C dX3_widthOf_5 rfl ?_
    refine ws_get 6 C dX3_widthOf_6 fX3_28 hB rfl rfl ?_
    refine ws_iload_n 9 C dX3_widthOf_9 rfl ?_
    refine ws_iald 10 C dX3_widthOf_10 hB 6 rfl (vp_in_nI (by omega) (by decide)) (nI (ml μ i)) ((congrArg f6 (nI_clamp (by omega))).trans (hR.len hi)) ?_
    refine ws_nicmp_ge 11 C 34 dX3_widthOf_11 (by decide) (by omega) (by omega) (fun c11 => ?_) (fun c11 => ?_)
    · skip
      refine ws_iload_n 34 C dX3_widthOf_34 rfl ?_
      exact ws_iret 35 C  dX3_widthOf_35 rfl (Nat.le_refl _) (Nat.le_refl _) (by rw [hP]; exact ⟨congrArg (fun z => some (Value.int z)) ((ha.trans (by rw [show k = ml μ i from by omega]; rfl))), rfl⟩)
    · skip
      refine ws_iload_n 14 C dX3_widthOf_14 rfl ?_
      refine ws_aload_n 15 C dX3_widthOf_15 rfl ?_
      refine ws_get 16 C dX3_widthOf_16 fX3_15 hB rfl rfl ?_
      refine ws_aload_n 19 C dX3_widthOf_19 rfl ?_
      refine ws_iload_n 20 C dX3_widthOf_20 rfl ?_
      refine ws_iload_n 21 C dX3_widthOf_21 rfl ?_
      have h8 := hR.ok.so hi c11
      refine ws_callV0 22 C dX3_widthOf_22 vX3_55 (c_X3_sortAt hB hR hi c11) rfl hB rfl rfl ⟨by decide, by decide⟩ ⟨Nat.zero_le _, Nat.zero_le _⟩ rfl rfl rfl (kR ?_)
      refine ws_iald 25 C dX3_widthOf_25 hB 2 rfl (vp_in_nI (by omega) (by decide)) (mv μ 1 (so μ i k)) ((congrArg f2 (nI_clamp (by omega))).trans (hR.wid h8)) ?_
      refine ws_iadd 26 C dX3_widthOf_26 (a + (mv μ 1 (so μ i k))) rfl ?_
      refine ws_istore_n 27 C dX3_widthOf_27 rfl [some (.ref (ad κ b)), some (.int (nI i)), some (.int (a + (mv μ 1 (so μ i k)))), some (.int (nI k))] rfl ?_
      refine ws_iinc 28 C dX3_widthOf_28 rfl (nI (k + 1)) (nI_1 _) rfl [some (.ref (ad κ b)), some (.int (nI i)), some (.int (a + (mv μ 1 (so μ i k)))), some (.int (nI (k + 1)))] rfl ?_
      refine ws_goto 31 C 4 dX3_widthOf_31 (by decide) ?_
      exact ih4 c11 (a + mv μ 1 (so μ i k)) (ha ▸ rfl)
  exact L4 0 (Nat.zero_le _) (nI 0) rfl

set_option maxRecDepth 100000 in
set_option maxHeartbeats 4000000 in
theorem c_X3_countSigns {b : Nat} {f1 f2 f3 f4 f5 f6 : Nat → Int32} {μ : Mu} (hB : Ob z st0 b (bSh κ b f1 f2 f3 f4 f5 f6 (nI (mn μ)))) (hR : Rp μ f1 f2 f3 f4 f5 f6) : CT zl κ yX3_countSigns cX3_countSigns 3 (some .int) (r0 0 0) z [.ref (ad κ b)] st0 (PRi (nI (smN (ml μ) (mn μ))) st0) := by
  obtain ⟨P, hP⟩ : ∃ P : Option Value → St → Prop, P = (PRi (nI (smN (ml μ) (mn μ))) st0) := ⟨_, rfl⟩
  rw [← hP]
  refine CT.of (by decide +kernel) (Nat.le_of_ble_eq_true rfl) (fun zp ze zs zm zar zbe zme zc C _ => ?_)
  have C : Cx zp zs zm zar zme zc κ cX3_countSigns 3 RX3 (some .int) := C
  refine ws_lv (lv2 := [some (.ref (ad κ b)), none, none]) rfl ?_
  have h24 := hR.le
  refine ws_iconst 0 C dX3_countSigns_0 (nI 0) (by decide) ?_
  refine ws_istore_n 1 C dX3_countSigns_1 rfl [some (.ref (ad κ b)), some (.int (nI 0)), none] rfl ?_
  refine ws_iconst 2 C dX3_countSigns_2 (nI 0) (by decide) ?_
  refine ws_istore_n 3 C dX3_countSigns_3 rfl [some (.ref (ad κ b)), some (.int (nI 0)), some (.int (nI 0))] rfl ?_
  have L4 : ∀ k : Nat, k ≤ mn μ → WS zp zl ze (r0 0 0) zs zm zar zbe zme zc κ z 0 0 (QM zbe zar zs κ z (r0 0 0) P) st0 4 [some (.ref (ad κ b)), some (.int (nI (smN (ml μ) k))), some (.int (nI k))] [] := by
    refine dnw ?_
    intro k hk ih4 
    refine ws_iload_n 4 C dX3_countSigns_4 rfl ?_
    refine ws_aload_n 5 C dX3_countSigns_5 rfl ?_
    refine ws_get 6 C dX3_countSigns_6 fX3_31 hB rfl rfl ?_
    refine ws_nicmp_ge 9 C 27 dX3_countSigns_9 (by decide) (by omega) (by omega) (fun c9 => ?_) (fun c9 => ?_)
    · skip
      refine ws_iload_n 27 C dX3_countSigns_27 rfl ?_
      exact ws_iret 28 C  dX3_countSigns_28 rfl (Nat.le_refl _) (Nat.le_refl _) (by rw [hP]; exact ⟨congrArg (fun z => some (Value.int z)) ((by rw [show k = mn μ from by omega])), rfl⟩)
    · skip
      refine ws_iload_n 12 C dX3_countSigns_12 rfl ?_
      refine ws_aload_n 13 C dX3_countSigns_13 rfl ?_
      refine ws_get 14 C dX3_countSigns_14 fX3_28 hB rfl rfl ?_
      refine ws_iload_n 17 C dX3_countSigns_17 rfl ?_
      refine ws_iald 18 C dX3_countSigns_18 hB 6 rfl (vp_in_nI (by omega) (by decide)) (nI (ml μ k)) ((congrArg f6 (nI_clamp (by omega))).trans (hR.len c9)) ?_
      refine ws_iadd 19 C dX3_countSigns_19 (nI (smN (ml μ) (k + 1))) (nI_add _ _) ?_
      refine ws_istore_n 20 C dX3_countSigns_20 rfl [some (.ref (ad κ b)), some (.int (nI (smN (ml μ) (k + 1)))), some (.int (nI k))] rfl ?_
      refine ws_iinc 21 C dX3_countSigns_21 rfl (nI (k + 1)) (nI_1 _) rfl [some (.ref (ad κ b)), some (.int (nI (smN (ml μ) (k + 1)))), some (.int (nI (k + 1)))] rfl ?_
      refine ws_goto 24 C 4 dX3_countSigns_24 (by decide) ?_
      exact ih4 c9
  exact L4 0 (Nat.zero_le _)

set_option maxRecDepth 100000 in
set_option maxHeartbeats 4000000 in
theorem c_X3_countOf {b : Nat} {f1 f2 f3 f4 f5 f6 : Nat → Int32} {μ : Mu} (hB : Ob z st0 b (bSh κ b f1 f2 f3 f4 f5 f6 (nI (mn μ)))) (hR : Rp μ f1 f2 f3 f4 f5 f6) {q : Nat} (hq : q < 8) : CT zl κ yX3_countOf cX3_countOf 5 (some .int) (r0 2 44) z [.ref (ad κ b), .int (nI q)] st0 (PRi (nI (cnT μ q (mn μ))) st0) := by
  obtain ⟨P, hP⟩ : ∃ P : Option Value → St → Prop, P = (PRi (nI (cnT μ q (mn μ))) st0) := ⟨_, rfl⟩
  rw [← hP]
  refine CT.of (by decide +kernel) (Nat.le_of_ble_eq_true rfl) (fun zp ze zs zm zar zbe zme zc C _ => ?_)
  have C : Cx zp zs zm zar zme zc κ cX3_countOf 5 RX3 (some .int) := C
  refine ws_lv (lv2 := [some (.ref (ad κ b)), some (.int (nI q)), none, none, none]) rfl ?_
  have h24 := hR.le
  refine ws_iconst 0 C dX3_countOf_0 (nI 0) (by decide) ?_
  refine ws_istore_n 1 C dX3_countOf_1 rfl [some (.ref (ad κ b)), some (.int (nI q)), some (.int (nI 0)), none, none] rfl ?_
  refine ws_iconst 2 C dX3_countOf_2 (nI 0) (by decide) ?_
  refine ws_istore_n 3 C dX3_countOf_3 rfl [some (.ref (ad κ b)), some (.int (nI q)), some (.int (nI 0)), some (.int (nI 0)), none] rfl ?_
  have L4 : ∀ k : Nat, k ≤ mn μ → WS zp zl ze (r0 2 44) zs zm zar zbe zme zc κ z 0 0 (QM zbe zar zs κ z (r0 2 44) P) st0 4 [some (.ref (ad κ b)), some (.int (nI q)), some (.int (nI (cnT μ q k))), some (.int (nI k)), none] [] := by
    refine dnw ?_
    intro k hk ih4 
    refine ws_iload_n 4 C dX3_countOf_4 rfl ?_
    refine ws_aload_n 5 C dX3_countOf_5 rfl ?_
    refine ws_get 6 C dX3_countOf_6 fX3_31 hB rfl rfl ?_
    refine ws_nicmp_ge 9 C 52 dX3_countOf_9 (by decide) (by omega) (by omega) (fun c9 => ?_) (fun c9 => ?_)
    · skip
      refine ws_iload_n 52 C dX3_countOf_52 rfl ?_
      exact ws_iret 53 C  dX3_countOf_53 rfl (Nat.le_refl _) (Nat.le_refl _) (by rw [hP]; exact ⟨congrArg (fun z => some (Value.int z)) ((by rw [show k = mn μ from by omega])), rfl⟩)
    · skip
      have h10 := (hR.ok.len c9).2
      refine ws_iconst 12 C dX3_countOf_12 (nI 0) (by decide) ?_
      refine ws_istore 13 C dX3_countOf_13 rfl [some (.ref (ad κ b)), some (.int (nI q)), some (.int (nI (cnT μ q k))), some (.int (nI k)), some (.int (nI 0))] rfl ?_
      have L15 : ∀ j : Nat, j ≤ ml μ k → WS zp zl ze (r0 2 44) zs zm zar zbe zme zc κ z 0 0 (QM zbe zar zs κ z (r0 2 44) P) st0 15 [some (.ref (ad κ b)), some (.int (nI q)), some (.int (nI (cnT μ q k + cnW μ q k j))), some (.int (nI k)), some (.int (nI j))] [] := by
        refine dnw ?_
        intro j hj ih15 
        refine ws_iload 15 C dX3_countOf_15 rfl ?_
        refine ws_aload_n 17 C dX3_countOf_17 rfl ?_
        refine ws_get 18 C dX3_countOf_18 fX3_28 hB rfl rfl ?_
        refine ws_iload_n 21 C dX3_countOf_21 rfl ?_
        refine ws_iald 22 C dX3_countOf_22 hB 6 rfl (vp_in_nI (by omega) (by decide)) (nI (ml μ k)) ((congrArg f6 (nI_clamp (by omega))).trans (hR.len c9)) ?_
        refine ws_nicmp_ge 23 C 46 dX3_countOf_23 (by decide) (by omega) (by omega) (fun c23 => ?_) (fun c23 => ?_)
        · skip
          refine ws_wk (lv2 := [some (.ref (ad κ b)), some (.int (nI q)), some (.int (nI (cnT μ q (k + 1)))), some (.int (nI k)), some (.int (nI j))]) ⟨rfl, rfl, congrArg (fun x => Value.int (nI x)) ((cnT_s μ q k).trans (by rw [show j = ml μ k from by omega])), rfl, rfl, trivial⟩ ?_
          refine ws_iinc 46 C dX3_countOf_46 rfl (nI (k + 1)) (nI_1 _) rfl [some (.ref (ad κ b)), some (.int (nI q)), some (.int (nI (cnT μ q (k + 1)))), some (.int (nI (k + 1))), some (.int (nI j))] rfl ?_
          refine ws_goto 49 C 4 dX3_countOf_49 (by decide) ?_
          refine ws_wk (lv2 := [some (.ref (ad κ b)), some (.int (nI q)), some (.int (nI (cnT μ q (k + 1)))), some (.int (nI (k + 1))), none]) ⟨rfl, rfl, rfl, rfl, trivial⟩ ?_
          exact ih4 c9
        · skip
          refine ws_aload_n 26 C dX3_countOf_26 rfl ?_
          refine ws_iload_n 27 C dX3_countOf_27 rfl ?_
          refine ws_iload 28 C dX3_countOf_28 rfl ?_
          have h8 := hR.ok.so c9 c23
          refine ws_callV0 30 C dX3_countOf_30 vX3_55 (c_X3_sortAt hB hR c9 c23) rfl hB rfl rfl ⟨by decide, by decide⟩ ⟨Nat.zero_le _, Nat.zero_le _⟩ rfl rfl rfl (kR ?_)
          refine ws_iload_n 33 C dX3_countOf_33 rfl ?_
          refine ws_nicmp_ne 34 C 40 dX3_countOf_34 (by decide) (by omega) (by omega) (fun c34 => ?_) (fun c34 => ?_)
          · skip
            refine ws_wk (lv2 := [some (.ref (ad κ b)), some (.int (nI q)), some (.int (nI (cnT μ q k + cnW μ q k (j + 1)))), some (.int (nI k)), some (.int (nI j))]) ⟨rfl, rfl, congrArg (fun x => Value.int (nI (cnT μ q k + x))) (cnW_0 c34), rfl, rfl, trivial⟩ ?_
            refine ws_iinc 40 C dX3_countOf_40 rfl (nI (j + 1)) (nI_1 _) rfl [some (.ref (ad κ b)), some (.int (nI q)), some (.int (nI (cnT μ q k + cnW μ q k (j + 1)))), some (.int (nI k)), some (.int (nI (j + 1)))] rfl ?_
            refine ws_goto 43 C 15 dX3_countOf_43 (by decide) ?_
            exact ih15 c23
          · skip
            refine ws_iinc 37 C dX3_countOf_37 rfl (nI (cnT μ q k + cnW μ q k (j + 1))) ((nI_1 _).trans (congrArg nI (by rw [cnW_1 c34]; omega))) rfl [some (.ref (ad κ b)), some (.int (nI q)), some (.int (nI (cnT μ q k + cnW μ q k (j + 1)))), some (.int (nI k)), some (.int (nI j))] rfl ?_
            refine ws_iinc 40 C dX3_countOf_40 rfl (nI (j + 1)) (nI_1 _) rfl [some (.ref (ad κ b)), some (.int (nI q)), some (.int (nI (cnT μ q k + cnW μ q k (j + 1)))), some (.int (nI k)), some (.int (nI (j + 1)))] rfl ?_
            refine ws_goto 43 C 15 dX3_countOf_43 (by decide) ?_
            exact ih15 c23
      exact L15 0 (Nat.zero_le _)
  exact L4 0 (Nat.zero_le _)

set_option maxRecDepth 100000 in
set_option maxHeartbeats 4000000 in
theorem c_X3_hangAtLeft {b : Nat} {f1 f2 f3 f4 f5 f6 : Nat → Int32} {μ : Mu} (hB : Ob z st0 b (bSh κ b f1 f2 f3 f4 f5 f6 (nI (mn μ)))) (hR : Rp μ f1 f2 f3 f4 f5 f6) {q : Nat} (hq : q < 8) : CT zl κ yX3_hangAtLeft cX3_hangAtLeft 2 (some .int) (r0 0 0) z [.ref (ad κ b), .int (nI q)] st0 (PRi (hg μ 2 q) st0) := by
  obtain ⟨P, hP⟩ : ∃ P : Option Value → St → Prop, P = (PRi (hg μ 2 q) st0) := ⟨_, rfl⟩
  rw [← hP]
  refine CT.of (by decide +kernel) (Nat.le_of_ble_eq_true rfl) (fun zp ze zs zm zar zbe zme zc C _ => ?_)
  have C : Cx zp zs zm zar zme zc κ cX3_hangAtLeft 2 RX3 (some .int) := C
  refine ws_lv (lv2 := [some (.ref (ad κ b)), some (.int (nI q))]) rfl ?_
  refine ws_aload_n 0 C dX3_hangAtLeft_0 rfl ?_
  refine ws_get 1 C dX3_hangAtLeft_1 fX3_9 hB rfl rfl ?_
  refine ws_iconst 4 C dX3_hangAtLeft_4 (nI 3) (by decide) ?_
  refine ws_iald 5 C dX3_hangAtLeft_5 hB 1 rfl (vp_in_nI (by omega) (by decide)) (mv μ 0 3) ((congrArg f1 (nI_clamp (by omega))).trans (hR.set (by omega))) ?_
  refine ws_if_ne 6 C 13 dX3_hangAtLeft_6 (by decide)  (fun c6 => ?_) (fun c6 => ?_)
  · skip
    refine ws_aload_n 13 C dX3_hangAtLeft_13 rfl ?_
    refine ws_get 14 C dX3_hangAtLeft_14 fX3_15 hB rfl rfl ?_
    refine ws_iload_n 17 C dX3_hangAtLeft_17 rfl ?_
    refine ws_iald 18 C dX3_hangAtLeft_18 hB 2 rfl (vp_in_nI (by omega) (by decide)) (mv μ 1 q) ((congrArg f2 (nI_clamp (by omega))).trans (hR.wid hq)) ?_
    refine ws_aload_n 19 C dX3_hangAtLeft_19 rfl ?_
    refine ws_get 20 C dX3_hangAtLeft_20 fX3_18 hB rfl rfl ?_
    refine ws_iload_n 23 C dX3_hangAtLeft_23 rfl ?_
    refine ws_iald 24 C dX3_hangAtLeft_24 hB 3 rfl (vp_in_nI (by omega) (by decide)) (mv μ 2 q) ((congrArg f3 (nI_clamp (by omega))).trans (hR.lef hq)) ?_
    refine ws_imul 25 C dX3_hangAtLeft_25 ((mv μ 1 q) * (mv μ 2 q)) rfl ?_
    refine ws_bipush 26 C dX3_hangAtLeft_26 (nI 100) (by decide) ?_
    refine ws_idiv 28 C dX3_hangAtLeft_28 (by decide) (((mv μ 1 q) * (mv μ 2 q)) / (nI 100)) rfl ?_
    exact ws_iret 29 C  dX3_hangAtLeft_29 rfl (Nat.le_refl _) (Nat.le_refl _) (by rw [hP]; exact ⟨congrArg (fun z => some (Value.int z)) ((if_neg c6).symm), rfl⟩)
  · skip
    refine ws_wk (lv2 := [some (.ref (ad κ b)), some (.int (nI q))]) ⟨rfl, rfl, trivial⟩ ?_
    refine ws_iconst 9 C dX3_hangAtLeft_9 (nI 0) (by decide) ?_
    refine ws_goto 10 C 29 dX3_hangAtLeft_10 (by decide) ?_
    exact ws_iret 29 C dX3_hangAtLeft_29 rfl (Nat.le_refl _) (Nat.le_refl _) (by rw [hP]; exact ⟨congrArg (fun z => some (Value.int z)) (if_pos c6).symm, rfl⟩)

set_option maxRecDepth 100000 in
set_option maxHeartbeats 4000000 in
theorem c_X3_hangAtRight {b : Nat} {f1 f2 f3 f4 f5 f6 : Nat → Int32} {μ : Mu} (hB : Ob z st0 b (bSh κ b f1 f2 f3 f4 f5 f6 (nI (mn μ)))) (hR : Rp μ f1 f2 f3 f4 f5 f6) {q : Nat} (hq : q < 8) : CT zl κ yX3_hangAtRight cX3_hangAtRight 2 (some .int) (r0 0 0) z [.ref (ad κ b), .int (nI q)] st0 (PRi (hg μ 3 q) st0) := by
  obtain ⟨P, hP⟩ : ∃ P : Option Value → St → Prop, P = (PRi (hg μ 3 q) st0) := ⟨_, rfl⟩
  rw [← hP]
  refine CT.of (by decide +kernel) (Nat.le_of_ble_eq_true rfl) (fun zp ze zs zm zar zbe zme zc C _ => ?_)
  have C : Cx zp zs zm zar zme zc κ cX3_hangAtRight 2 RX3 (some .int) := C
  refine ws_lv (lv2 := [some (.ref (ad κ b)), some (.int (nI q))]) rfl ?_
  refine ws_aload_n 0 C dX3_hangAtRight_0 rfl ?_
  refine ws_get 1 C dX3_hangAtRight_1 fX3_9 hB rfl rfl ?_
  refine ws_iconst 4 C dX3_hangAtRight_4 (nI 3) (by decide) ?_
  refine ws_iald 5 C dX3_hangAtRight_5 hB 1 rfl (vp_in_nI (by omega) (by decide)) (mv μ 0 3) ((congrArg f1 (nI_clamp (by omega))).trans (hR.set (by omega))) ?_
  refine ws_if_ne 6 C 13 dX3_hangAtRight_6 (by decide)  (fun c6 => ?_) (fun c6 => ?_)
  · skip
    refine ws_aload_n 13 C dX3_hangAtRight_13 rfl ?_
    refine ws_get 14 C dX3_hangAtRight_14 fX3_15 hB rfl rfl ?_
    refine ws_iload_n 17 C dX3_hangAtRight_17 rfl ?_
    refine ws_iald 18 C dX3_hangAtRight_18 hB 2 rfl (vp_in_nI (by omega) (by decide)) (mv μ 1 q) ((congrArg f2 (nI_clamp (by omega))).trans (hR.wid hq)) ?_
    refine ws_aload_n 19 C dX3_hangAtRight_19 rfl ?_
    refine ws_get 20 C dX3_hangAtRight_20 fX3_21 hB rfl rfl ?_
    refine ws_iload_n 23 C dX3_hangAtRight_23 rfl ?_
    refine ws_iald 24 C dX3_hangAtRight_24 hB 4 rfl (vp_in_nI (by omega) (by decide)) (mv μ 3 q) ((congrArg f4 (nI_clamp (by omega))).trans (hR.rig hq)) ?_
    refine ws_imul 25 C dX3_hangAtRight_25 ((mv μ 1 q) * (mv μ 3 q)) rfl ?_
    refine ws_bipush 26 C dX3_hangAtRight_26 (nI 100) (by decide) ?_
    refine ws_idiv 28 C dX3_hangAtRight_28 (by decide) (((mv μ 1 q) * (mv μ 3 q)) / (nI 100)) rfl ?_
    exact ws_iret 29 C  dX3_hangAtRight_29 rfl (Nat.le_refl _) (Nat.le_refl _) (by rw [hP]; exact ⟨congrArg (fun z => some (Value.int z)) ((if_neg c6).symm), rfl⟩)
  · skip
    refine ws_wk (lv2 := [some (.ref (ad κ b)), some (.int (nI q))]) ⟨rfl, rfl, trivial⟩ ?_
    refine ws_iconst 9 C dX3_hangAtRight_9 (nI 0) (by decide) ?_
    refine ws_goto 10 C 29 dX3_hangAtRight_10 (by decide) ?_
    exact ws_iret 29 C dX3_hangAtRight_29 rfl (Nat.le_refl _) (Nat.le_refl _) (by rw [hP]; exact ⟨congrArg (fun z => some (Value.int z)) (if_pos c6).symm, rfl⟩)

set_option maxRecDepth 100000 in
set_option maxHeartbeats 4000000 in
theorem c_X3_leftHangOf {b : Nat} {f1 f2 f3 f4 f5 f6 : Nat → Int32} {μ : Mu} (hB : Ob z st0 b (bSh κ b f1 f2 f3 f4 f5 f6 (nI (mn μ)))) (hR : Rp μ f1 f2 f3 f4 f5 f6) {i : Nat} (hi : i < mn μ) : CT zl κ yX3_leftHangOf cX3_leftHangOf 2 (some .int) (r0 2 44) z [.ref (ad κ b), .int (nI i)] st0 (PRi (lh μ i) st0) := by
  obtain ⟨P, hP⟩ : ∃ P : Option Value → St → Prop, P = (PRi (lh μ i) st0) := ⟨_, rfl⟩
  rw [← hP]
  refine CT.of (by decide +kernel) (Nat.le_of_ble_eq_true rfl) (fun zp ze zs zm zar zbe zme zc C _ => ?_)
  have C : Cx zp zs zm zar zme zc κ cX3_leftHangOf 2 RX3 (some .int) := C
  refine ws_lv (lv2 := [some (.ref (ad κ b)), some (.int (nI i))]) rfl ?_
  have h1 := (hR.ok.len hi).1
  refine ws_aload_n 0 C dX3_leftHangOf_0 rfl ?_
  refine ws_aload_n 1 C dX3_leftHangOf_1 rfl ?_
  refine ws_iload_n 2 C dX3_leftHangOf_2 rfl ?_
  refine ws_iconst 3 C dX3_leftHangOf_3 (nI 0) (by decide) ?_
  have h8 := hR.ok.so hi h1
  refine ws_callV0 4 C dX3_leftHangOf_4 vX3_55 (c_X3_sortAt hB hR hi h1) rfl hB rfl rfl ⟨by decide, by decide⟩ ⟨Nat.zero_le _, Nat.zero_le _⟩ rfl rfl rfl (kR ?_)
  refine ws_callV0 7 C dX3_leftHangOf_7 vX3_58 (c_X3_hangAtLeft hB hR h8) rfl hB rfl rfl ⟨by decide, by decide⟩ ⟨Nat.zero_le _, Nat.zero_le _⟩ rfl rfl rfl (kR ?_)
  exact ws_iret 10 C  dX3_leftHangOf_10 rfl (Nat.le_refl _) (Nat.le_refl _) (by rw [hP]; exact ⟨rfl, rfl⟩)

set_option maxRecDepth 100000 in
set_option maxHeartbeats 4000000 in
theorem c_X3_rightHangOf {b : Nat} {f1 f2 f3 f4 f5 f6 : Nat → Int32} {μ : Mu} (hB : Ob z st0 b (bSh κ b f1 f2 f3 f4 f5 f6 (nI (mn μ)))) (hR : Rp μ f1 f2 f3 f4 f5 f6) {i : Nat} (hi : i < mn μ) : CT zl κ yX3_rightHangOf cX3_rightHangOf 2 (some .int) (r0 2 44) z [.ref (ad κ b), .int (nI i)] st0 (PRi (rh μ i) st0) := by
  obtain ⟨P, hP⟩ : ∃ P : Option Value → St → Prop, P = (PRi (rh μ i) st0) := ⟨_, rfl⟩
  rw [← hP]
  refine CT.of (by decide +kernel) (Nat.le_of_ble_eq_true rfl) (fun zp ze zs zm zar zbe zme zc C _ => ?_)
  have C : Cx zp zs zm zar zme zc κ cX3_rightHangOf 2 RX3 (some .int) := C
  refine ws_lv (lv2 := [some (.ref (ad κ b)), some (.int (nI i))]) rfl ?_
  have h24 := hR.le
  have h1 := (hR.ok.len hi).1
  have h10 := (hR.ok.len hi).2
  refine ws_aload_n 0 C dX3_rightHangOf_0 rfl ?_
  refine ws_aload_n 1 C dX3_rightHangOf_1 rfl ?_
  refine ws_iload_n 2 C dX3_rightHangOf_2 rfl ?_
  refine ws_aload_n 3 C dX3_rightHangOf_3 rfl ?_
  refine ws_get 4 C dX3_rightHangOf_4 fX3_28 hB rfl rfl ?_
  refine ws_iload_n 7 C dX3_rightHangOf_7 rfl ?_
  refine ws_iald 8 C dX3_rightHangOf_8 hB 6 rfl (vp_in_nI (by omega) (by decide)) (nI (ml μ i)) ((congrArg f6 (nI_clamp (by omega))).trans (hR.len hi)) ?_
  refine ws_iconst 9 C dX3_rightHangOf_9 (nI 1) (by decide) ?_
  refine ws_isub 10 C dX3_rightHangOf_10 (nI (ml μ i - 1)) (pk_sub h1) ?_
  refine ws_iconst 11 C dX3_rightHangOf_11 (nI 0) (by decide) ?_
  refine ws_mmax 12 C dX3_rightHangOf_12 k201 k202 k43 k203 rfl (by decide) (Nat.le_of_ble_eq_true rfl) (Nat.zero_le _) (Nat.zero_le _) (nI (ml μ i - 1)) (max0 (a := ml μ i - 1) (by omega)) ?_
  have h8 := hR.ok.so hi (show ml μ i - 1 < ml μ i from by omega)
  refine ws_callV0 15 C dX3_rightHangOf_15 vX3_55 (c_X3_sortAt (j := ml μ i - 1) hB hR hi (by omega)) rfl hB rfl rfl ⟨by decide, by decide⟩ ⟨Nat.zero_le _, Nat.zero_le _⟩ rfl rfl rfl (kR ?_)
  refine ws_callV0 18 C dX3_rightHangOf_18 vX3_61 (c_X3_hangAtRight hB hR h8) rfl hB rfl rfl ⟨by decide, by decide⟩ ⟨Nat.zero_le _, Nat.zero_le _⟩ rfl rfl rfl (kR ?_)
  exact ws_iret 21 C  dX3_rightHangOf_21 rfl (Nat.le_refl _) (Nat.le_refl _) (by rw [hP]; exact ⟨rfl, rfl⟩)

set_option maxRecDepth 100000 in
set_option maxHeartbeats 4000000 in
theorem c_X3_copyFrom {b b2 : Nat} {f1 f2 f3 f4 f5 f6 : Nat → Int32} {μ ν : Mu} (hT : ShP κ z st0 b ν) (hB2 : Ob z st0 b2 (bSh κ b2 f1 f2 f3 f4 f5 f6 (nI (mn μ)))) (hR : Rp μ f1 f2 f3 f4 f5 f6) (hd : b + 7 ≤ b2 ∨ b2 + 7 ≤ b) : CT zl κ yX3_copyFrom cX3_copyFrom 2 none (r0 1 18) z [.ref (ad κ b), .ref (ad κ b2)] st0 (PV (fun u => ShP κ z u b μ ∧ Fr (fun q : Nat => b ≤ q ∧ q < b + 7) st0 u)) := by
  obtain ⟨P, hP⟩ : ∃ P : Option Value → St → Prop, P = (PV (fun u => ShP κ z u b μ ∧ Fr (fun q : Nat => b ≤ q ∧ q < b + 7) st0 u)) := ⟨_, rfl⟩
  rw [← hP]
  refine CT.of (by decide +kernel) (Nat.le_of_ble_eq_true rfl) (fun zp ze zs zm zar zbe zme zc C _ => ?_)
  have C : Cx zp zs zm zar zme zc κ cX3_copyFrom 2 RX3 none := C
  refine ws_lv (lv2 := [some (.ref (ad κ b)), some (.ref (ad κ b2))]) rfl ?_
  have h24 := hR.le
  obtain ⟨g1, g2, g3, g4, g5, g6, hB, hRT⟩ := hT
  have hF : Fr (fun q : Nat => b ≤ q ∧ q < b + 7) st0 st0 := Fr.rf
  refine ws_aload_n 0 C dX3_copyFrom_0 rfl ?_
  refine ws_get 1 C dX3_copyFrom_1 fX3_9 hB2 rfl rfl ?_
  refine ws_iconst 4 C dX3_copyFrom_4 (nI 0) (by decide) ?_
  refine ws_aload_n 5 C dX3_copyFrom_5 rfl ?_
  refine ws_get 6 C dX3_copyFrom_6 fX3_9 hB rfl rfl ?_
  refine ws_iconst 9 C dX3_copyFrom_9 (nI 0) (by decide) ?_
  refine ws_iconst 10 C dX3_copyFrom_10 (nI 4) (by decide) ?_
  refine ws_copyI 11 C dX3_copyFrom_11 k141 k143 k142 k42 rfl hB2 1 rfl hB 1 rfl 0 0 4 (by omega) (by omega) (by decide) (by decide) (by decide) (by decide) (fun st1 est1 => ?_)
  have hB : Ob z st1 b (bSh κ b (va_cpy f1 g1 0 0 4) g2 g3 g4 g5 g6 (nI (mn ν))) := Ob.put' (j := 1) hB est1 rfl
  have hB2 := hB2.ne' (L := 7) est1 rfl (by omega)
  have hF := hF.put' est1 (show b ≤ (b + 1) ∧ (b + 1) < b + 7 from by omega)
  refine ws_aload_n 14 C dX3_copyFrom_14 rfl ?_
  refine ws_get 15 C dX3_copyFrom_15 fX3_15 hB2 rfl rfl ?_
  refine ws_iconst 18 C dX3_copyFrom_18 (nI 0) (by decide) ?_
  refine ws_aload_n 19 C dX3_copyFrom_19 rfl ?_
  refine ws_get 20 C dX3_copyFrom_20 fX3_15 hB rfl rfl ?_
  refine ws_iconst 23 C dX3_copyFrom_23 (nI 0) (by decide) ?_
  refine ws_bipush 24 C dX3_copyFrom_24 (nI 8) (by decide) ?_
  refine ws_copyI 26 C dX3_copyFrom_26 k141 k143 k142 k42 rfl hB2 2 rfl hB 2 rfl 0 0 8 (by omega) (by omega) (by decide) (by decide) (by decide) (by decide) (fun st2 est2 => ?_)
  have hB : Ob z st2 b (bSh κ b (va_cpy f1 g1 0 0 4) (va_cpy f2 g2 0 0 8) g3 g4 g5 g6 (nI (mn ν))) := Ob.put' (j := 2) hB est2 rfl
  have hB2 := hB2.ne' (L := 7) est2 rfl (by omega)
  have hF := hF.put' est2 (show b ≤ (b + 2) ∧ (b + 2) < b + 7 from by omega)
  refine ws_aload_n 29 C dX3_copyFrom_29 rfl ?_
  refine ws_get 30 C dX3_copyFrom_30 fX3_18 hB2 rfl rfl ?_
  refine ws_iconst 33 C dX3_copyFrom_33 (nI 0) (by decide) ?_
  refine ws_aload_n 34 C dX3_copyFrom_34 rfl ?_
  refine ws_get 35 C dX3_copyFrom_35 fX3_18 hB rfl rfl ?_
  refine ws_iconst 38 C dX3_copyFrom_38 (nI 0) (by decide) ?_
  refine ws_bipush 39 C dX3_copyFrom_39 (nI 8) (by decide) ?_
  refine ws_copyI 41 C dX3_copyFrom_41 k141 k143 k142 k42 rfl hB2 3 rfl hB 3 rfl 0 0 8 (by omega) (by omega) (by decide) (by decide) (by decide) (by decide) (fun st3 est3 => ?_)
  have hB : Ob z st3 b (bSh κ b (va_cpy f1 g1 0 0 4) (va_cpy f2 g2 0 0 8) (va_cpy f3 g3 0 0 8) g4 g5 g6 (nI (mn ν))) := Ob.put' (j := 3) hB est3 rfl
  have hB2 := hB2.ne' (L := 7) est3 rfl (by omega)
  have hF := hF.put' est3 (show b ≤ (b + 3) ∧ (b + 3) < b + 7 from by omega)
  refine ws_aload_n 44 C dX3_copyFrom_44 rfl ?_
  refine ws_get 45 C dX3_copyFrom_45 fX3_21 hB2 rfl rfl ?_
  refine ws_iconst 48 C dX3_copyFrom_48 (nI 0) (by decide) ?_
  refine ws_aload_n 49 C dX3_copyFrom_49 rfl ?_
  refine ws_get 50 C dX3_copyFrom_50 fX3_21 hB rfl rfl ?_
  refine ws_iconst 53 C dX3_copyFrom_53 (nI 0) (by decide) ?_
  refine ws_bipush 54 C dX3_copyFrom_54 (nI 8) (by decide) ?_
  refine ws_copyI 56 C dX3_copyFrom_56 k141 k143 k142 k42 rfl hB2 4 rfl hB 4 rfl 0 0 8 (by omega) (by omega) (by decide) (by decide) (by decide) (by decide) (fun st4 est4 => ?_)
  have hB : Ob z st4 b (bSh κ b (va_cpy f1 g1 0 0 4) (va_cpy f2 g2 0 0 8) (va_cpy f3 g3 0 0 8) (va_cpy f4 g4 0 0 8) g5 g6 (nI (mn ν))) := Ob.put' (j := 4) hB est4 rfl
  have hB2 := hB2.ne' (L := 7) est4 rfl (by omega)
  have hF := hF.put' est4 (show b ≤ (b + 4) ∧ (b + 4) < b + 7 from by omega)
  refine ws_aload_n 59 C dX3_copyFrom_59 rfl ?_
  refine ws_get 60 C dX3_copyFrom_60 fX3_24 hB2 rfl rfl ?_
  refine ws_iconst 63 C dX3_copyFrom_63 (nI 0) (by decide) ?_
  refine ws_aload_n 64 C dX3_copyFrom_64 rfl ?_
  refine ws_get 65 C dX3_copyFrom_65 fX3_24 hB rfl rfl ?_
  refine ws_iconst 68 C dX3_copyFrom_68 (nI 0) (by decide) ?_
  refine ws_aload_n 69 C dX3_copyFrom_69 rfl ?_
  refine ws_get 70 C dX3_copyFrom_70 fX3_31 hB2 rfl rfl ?_
  refine ws_bipush 73 C dX3_copyFrom_73 (nI 10) (by decide) ?_
  refine ws_imul 75 C dX3_copyFrom_75 (nI ((mn μ) * 10)) (pk_mul _ _) ?_
  refine ws_copyC 76 C dX3_copyFrom_76 k141 k143 k142 k42 rfl hB2 5 rfl hB 5 rfl 0 0 ((mn μ) * 10) (by omega) (by omega) (by decide) (by decide) (fun q _ => hR.fit _) (by decide) (by decide) (fun st5 est5 => ?_)
  have hB : Ob z st5 b (bSh κ b (va_cpy f1 g1 0 0 4) (va_cpy f2 g2 0 0 8) (va_cpy f3 g3 0 0 8) (va_cpy f4 g4 0 0 8) (va_cpy f5 g5 0 0 ((mn μ) * 10)) g6 (nI (mn ν))) := Ob.put' (j := 5) hB est5 rfl
  have hB2 := hB2.ne' (L := 7) est5 rfl (by omega)
  have hF := hF.put' est5 (show b ≤ (b + 5) ∧ (b + 5) < b + 7 from by omega)
  refine ws_aload_n 79 C dX3_copyFrom_79 rfl ?_
  refine ws_get 80 C dX3_copyFrom_80 fX3_28 hB2 rfl rfl ?_
  refine ws_iconst 83 C dX3_copyFrom_83 (nI 0) (by decide) ?_
  refine ws_aload_n 84 C dX3_copyFrom_84 rfl ?_
  refine ws_get 85 C dX3_copyFrom_85 fX3_28 hB rfl rfl ?_
  refine ws_iconst 88 C dX3_copyFrom_88 (nI 0) (by decide) ?_
  refine ws_aload_n 89 C dX3_copyFrom_89 rfl ?_
  refine ws_get 90 C dX3_copyFrom_90 fX3_31 hB2 rfl rfl ?_
  refine ws_copyI 93 C dX3_copyFrom_93 k141 k143 k142 k42 rfl hB2 6 rfl hB 6 rfl 0 0 (mn μ) (by omega) (by omega) (by decide) (by decide) (by decide) (by decide) (fun st6 est6 => ?_)
  have hB : Ob z st6 b (bSh κ b (va_cpy f1 g1 0 0 4) (va_cpy f2 g2 0 0 8) (va_cpy f3 g3 0 0 8) (va_cpy f4 g4 0 0 8) (va_cpy f5 g5 0 0 ((mn μ) * 10)) (va_cpy f6 g6 0 0 (mn μ)) (nI (mn ν))) := Ob.put' (j := 6) hB est6 rfl
  have hB2 := hB2.ne' (L := 7) est6 rfl (by omega)
  have hF := hF.put' est6 (show b ≤ (b + 6) ∧ (b + 6) < b + 7 from by omega)
  refine ws_aload_n 96 C dX3_copyFrom_96 rfl ?_
  refine ws_aload_n 97 C dX3_copyFrom_97 rfl ?_
  refine ws_get 98 C dX3_copyFrom_98 fX3_31 hB2 rfl rfl ?_
  refine ws_put 101 C dX3_copyFrom_101 fX3_31 q3_6 hB rfl (Nat.le_of_ble_eq_true rfl) rfl rfl (fun st7 est7 => ?_)
  have hB : Ob z st7 b (bSh κ b (va_cpy f1 g1 0 0 4) (va_cpy f2 g2 0 0 8) (va_cpy f3 g3 0 0 8) (va_cpy f4 g4 0 0 8) (va_cpy f5 g5 0 0 ((mn μ) * 10)) (va_cpy f6 g6 0 0 (mn μ)) (nI (mn μ))) := Ob.put' (j := 0) hB est7 rfl
  have hB2 := hB2.ne' (L := 7) est7 rfl (by omega)
  have hF := hF.put' est7 (show b ≤ (b) ∧ (b) < b + 7 from by omega)
  exact ws_vret 104 C dX3_copyFrom_104 rfl (Nat.le_refl _) (Nat.le_refl _) (by rw [hP]; exact ⟨rfl, ⟨⟨_, _, _, _, _, _, hB, Rp_copy hR hRT.fit⟩, hF⟩⟩)

set_option maxRecDepth 100000 in
set_option maxHeartbeats 4000000 in
theorem c_X3_beginWord {b n : Nat} {f1 f2 f3 f4 f5 f6 : Nat → Int32} (hB : Ob z st0 b (bSh κ b f1 f2 f3 f4 f5 f6 (nI n))) (hn : n < 24) : CT zl κ yX3_beginWord cX3_beginWord 1 none (r0 0 0) z [.ref (ad κ b)] st0 (PV (fun u => Ob z u b (bSh κ b f1 f2 f3 f4 f5 (upd f6 n (nI 0)) (nI (n + 1))) ∧ Fr (fun q : Nat => b ≤ q ∧ q < b + 7) st0 u)) := by
  obtain ⟨P, hP⟩ : ∃ P : Option Value → St → Prop, P = (PV (fun u => Ob z u b (bSh κ b f1 f2 f3 f4 f5 (upd f6 n (nI 0)) (nI (n + 1))) ∧ Fr (fun q : Nat => b ≤ q ∧ q < b + 7) st0 u)) := ⟨_, rfl⟩
  rw [← hP]
  refine CT.of (by decide +kernel) (Nat.le_of_ble_eq_true rfl) (fun zp ze zs zm zar zbe zme zc C _ => ?_)
  have C : Cx zp zs zm zar zme zc κ cX3_beginWord 1 RX3 none := C
  refine ws_lv (lv2 := [some (.ref (ad κ b))]) rfl ?_
  have hF : Fr (fun q : Nat => b ≤ q ∧ q < b + 7) st0 st0 := Fr.rf
  refine ws_aload_n 0 C dX3_beginWord_0 rfl ?_
  refine ws_get 1 C dX3_beginWord_1 fX3_31 hB rfl rfl ?_
  refine ws_bipush 4 C dX3_beginWord_4 (nI 24) (by decide) ?_
  refine ws_nicmp_lt 6 C 10 dX3_beginWord_6 (by decide) (by omega) (by omega) (fun c6 => ?_) (fun c6 => ?_)
  · skip
    refine ws_aload_n 10 C dX3_beginWord_10 rfl ?_
    refine ws_get 11 C dX3_beginWord_11 fX3_28 hB rfl rfl ?_
    refine ws_aload_n 14 C dX3_beginWord_14 rfl ?_
    refine ws_get 15 C dX3_beginWord_15 fX3_31 hB rfl rfl ?_
    refine ws_iconst 18 C dX3_beginWord_18 (nI 0) (by decide) ?_
    refine ws_iast 19 C dX3_beginWord_19 hB 6 rfl (vp_in_nI (by omega) (by decide)) n (nI_clamp (by omega)) (nI 0) rfl (fun st1 est1 => ?_)
    have hB : Ob z st1 b (bSh κ b f1 f2 f3 f4 f5 (upd f6 n (nI 0)) (nI n)) := Ob.put' (j := 6) hB est1 rfl
    have hF := hF.put' est1 (show b ≤ (b + 6) ∧ (b + 6) < b + 7 from by omega)
    refine ws_aload_n 20 C dX3_beginWord_20 rfl ?_
    refine ws_dup 21 C dX3_beginWord_21 rfl ?_
    refine ws_get 22 C dX3_beginWord_22 fX3_31 hB rfl rfl ?_
    refine ws_iconst 25 C dX3_beginWord_25 (nI 1) (by decide) ?_
    refine ws_iadd 26 C dX3_beginWord_26 (nI (n + 1)) (nI_add _ _) ?_
    refine ws_put 27 C dX3_beginWord_27 fX3_31 q3_6 hB rfl (Nat.le_of_ble_eq_true rfl) rfl rfl (fun st2 est2 => ?_)
    have hB : Ob z st2 b (bSh κ b f1 f2 f3 f4 f5 (upd f6 n (nI 0)) (nI (n + 1))) := Ob.put' (j := 0) hB est2 rfl
    have hF := hF.put' est2 (show b ≤ (b) ∧ (b) < b + 7 from by omega)
    exact ws_vret 30 C dX3_beginWord_30 rfl (Nat.le_refl _) (Nat.le_refl _) (by rw [hP]; exact ⟨rfl, ⟨hB, hF⟩⟩)
  · skip
    (exfalso; omega)

set_option maxRecDepth 100000 in
set_option maxHeartbeats 4000000 in
theorem c_X3_addSign {b n L : Nat} {x : Int32} {f1 f2 f3 f4 f5 f6 : Nat → Int32} (hB : Ob z st0 b (bSh κ b f1 f2 f3 f4 f5 f6 (nI n))) (hn : n ≤ 24) (hn1 : 1 ≤ n) (hl : f6 (n - 1) = nI L) (hL : L < 10) (hx : fits .char (.int x) = true) : CT zl κ yX3_addSign cX3_addSign 3 none (r0 0 0) z [.ref (ad κ b), .int (x)] st0 (PV (fun u => Ob z u b (bSh κ b f1 f2 f3 f4 (upd f5 ((n - 1) * 10 + L) x) (upd f6 (n - 1) (nI (L + 1))) (nI n)) ∧ Fr (fun q : Nat => b ≤ q ∧ q < b + 7) st0 u)) := by
  obtain ⟨P, hP⟩ : ∃ P : Option Value → St → Prop, P = (PV (fun u => Ob z u b (bSh κ b f1 f2 f3 f4 (upd f5 ((n - 1) * 10 + L) x) (upd f6 (n - 1) (nI (L + 1))) (nI n)) ∧ Fr (fun q : Nat => b ≤ q ∧ q < b + 7) st0 u)) := ⟨_, rfl⟩
  rw [← hP]
  refine CT.of (by decide +kernel) (Nat.le_of_ble_eq_true rfl) (fun zp ze zs zm zar zbe zme zc C _ => ?_)
  have C : Cx zp zs zm zar zme zc κ cX3_addSign 3 RX3 none := C
  refine ws_lv (lv2 := [some (.ref (ad κ b)), some (.int (x)), none]) rfl ?_
  have hF : Fr (fun q : Nat => b ≤ q ∧ q < b + 7) st0 st0 := Fr.rf
  refine ws_aload_n 0 C dX3_addSign_0 rfl ?_
  refine ws_get 1 C dX3_addSign_1 fX3_31 hB rfl rfl ?_
  refine ws_iconst 4 C dX3_addSign_4 (nI 1) (by decide) ?_
  refine ws_isub 5 C dX3_addSign_5 (nI (n - 1)) (pk_sub hn1) ?_
  refine ws_istore_n 6 C dX3_addSign_6 rfl [some (.ref (ad κ b)), some (.int (x)), some (.int (nI (n - 1)))] rfl ?_
  refine ws_iload_n 7 C dX3_addSign_7 rfl ?_
  refine ws_nif_lt 8 C 22 dX3_addSign_8 (by decide) (by omega) ?_
  refine ws_aload_n 11 C dX3_addSign_11 rfl ?_
  refine ws_get 12 C dX3_addSign_12 fX3_28 hB rfl rfl ?_
  refine ws_iload_n 15 C dX3_addSign_15 rfl ?_
  refine ws_iald 16 C dX3_addSign_16 hB 6 rfl (vp_in_nI (by omega) (by decide)) (nI L) ((congrArg f6 (nI_clamp (by omega))).trans (hl)) ?_
  refine ws_bipush 17 C dX3_addSign_17 (nI 10) (by decide) ?_
  refine ws_nicmp_lt 19 C 23 dX3_addSign_19 (by decide) (by omega) (by omega) (fun c19 => ?_) (fun c19 => ?_)
  · skip
    refine ws_aload_n 23 C dX3_addSign_23 rfl ?_
    refine ws_get 24 C dX3_addSign_24 fX3_24 hB rfl rfl ?_
    refine ws_iload_n 27 C dX3_addSign_27 rfl ?_
    refine ws_bipush 28 C dX3_addSign_28 (nI 10) (by decide) ?_
    refine ws_imul 30 C dX3_addSign_30 (nI ((n - 1) * 10)) (pk_mul _ _) ?_
    refine ws_aload_n 31 C dX3_addSign_31 rfl ?_
    refine ws_get 32 C dX3_addSign_32 fX3_28 hB rfl rfl ?_
    refine ws_iload_n 35 C dX3_addSign_35 rfl ?_
    refine ws_iald 36 C dX3_addSign_36 hB 6 rfl (vp_in_nI (by omega) (by decide)) (nI L) ((congrArg f6 (nI_clamp (by omega))).trans (hl)) ?_
    refine ws_iadd 37 C dX3_addSign_37 (nI ((n - 1) * 10 + L)) (nI_add _ _) ?_
    refine ws_iload_n 38 C dX3_addSign_38 rfl ?_
    refine ws_cast 39 C dX3_addSign_39 hB 5 rfl (vp_in_nI (by omega) (by decide)) ((n - 1) * 10 + L) (nI_clamp (by omega)) (x) (fit_nar hx) (fun st1 est1 => ?_)
    have hB : Ob z st1 b (bSh κ b f1 f2 f3 f4 (upd f5 ((n - 1) * 10 + L) (x)) f6 (nI n)) := Ob.put' (j := 5) hB est1 rfl
    have hF := hF.put' est1 (show b ≤ (b + 5) ∧ (b + 5) < b + 7 from by omega)
    refine ws_aload_n 40 C dX3_addSign_40 rfl ?_
    refine ws_get 41 C dX3_addSign_41 fX3_28 hB rfl rfl ?_
    refine ws_iload_n 44 C dX3_addSign_44 rfl ?_
    refine ws_dup2 45 C dX3_addSign_45 rfl rfl ?_
    refine ws_iald 46 C dX3_addSign_46 hB 6 rfl (vp_in_nI (by omega) (by decide)) (nI L) ((congrArg f6 (nI_clamp (by omega))).trans (hl)) ?_
    refine ws_iconst 47 C dX3_addSign_47 (nI 1) (by decide) ?_
    refine ws_iadd 48 C dX3_addSign_48 (nI (L + 1)) (nI_add _ _) ?_
    refine ws_iast 49 C dX3_addSign_49 hB 6 rfl (vp_in_nI (by omega) (by decide)) (n - 1) (nI_clamp (by omega)) (nI (L + 1)) rfl (fun st2 est2 => ?_)
    have hB : Ob z st2 b (bSh κ b f1 f2 f3 f4 (upd f5 ((n - 1) * 10 + L) (x)) (upd f6 (n - 1) (nI (L + 1))) (nI n)) := Ob.put' (j := 6) hB est2 rfl
    have hF := hF.put' est2 (show b ≤ (b + 6) ∧ (b + 6) < b + 7 from by omega)
    exact ws_vret 50 C dX3_addSign_50 rfl (Nat.le_refl _) (Nat.le_refl _) (by rw [hP]; exact ⟨rfl, ⟨hB, hF⟩⟩)
  · skip
    (exfalso; omega)

set_option maxRecDepth 100000 in
set_option maxHeartbeats 4000000 in
theorem c_X3_takeOut {b : Nat} {μ : Mu} (hT : ShP κ z st0 b μ) {i : Nat} (hi : i < mn μ) : CT zl κ yX3_takeOut cX3_takeOut 3 none (r0 1 18) z [.ref (ad κ b), .int (nI i)] st0 (PV (fun u => ShP κ z u b (muDrop μ i) ∧ Fr (fun q : Nat => b ≤ q ∧ q < b + 7) st0 u)) := by
  obtain ⟨P, hP⟩ : ∃ P : Option Value → St → Prop, P = (PV (fun u => ShP κ z u b (muDrop μ i) ∧ Fr (fun q : Nat => b ≤ q ∧ q < b + 7) st0 u)) := ⟨_, rfl⟩
  rw [← hP]
  refine CT.of (by decide +kernel) (Nat.le_of_ble_eq_true rfl) (fun zp ze zs zm zar zbe zme zc C _ => ?_)
  have C : Cx zp zs zm zar zme zc κ cX3_takeOut 3 RX3 none := C
  refine ws_lv (lv2 := [some (.ref (ad κ b)), some (.int (nI i)), none]) rfl ?_
  obtain ⟨f1, f2, f3, f4, f5, f6, hB, hR⟩ := hT
  have h24 := hR.le
  have hF : Fr (fun q : Nat => b ≤ q ∧ q < b + 7) st0 st0 := Fr.rf
  refine ws_iload_n 0 C dX3_takeOut_0 rfl ?_
  refine ws_iconst 1 C dX3_takeOut_1 (nI 1) (by decide) ?_
  refine ws_iadd 2 C dX3_takeOut_2 (nI (i + 1)) (nI_add _ _) ?_
  refine ws_istore_n 3 C dX3_takeOut_3 rfl [some (.ref (ad κ b)), some (.int (nI i)), some (.int (nI (i + 1)))] rfl ?_
  have L4 : ∀ k : Nat, k ≤ mn μ - 1 - i → ∀ (g5 : Nat → Int32), ∀ (g6 : Nat → Int32), ∀ (h6 : ∀ w, w < mn μ → g6 w = if i ≤ w ∧ w < i + k then nI (ml μ (w + 1)) else nI (ml μ w)), ∀ (h5 : ∀ w j, w < mn μ → j < 10 → g5 (w * 10 + j) = f5 ((if i ≤ w ∧ w < i + k then w + 1 else w) * 10 + j)), ∀ (hf : ∀ j, fits .char (.int (g5 j)) = true), ∀ (st1 : St), ∀ (hB : Ob z st1 b (bSh κ b f1 f2 f3 f4 g5 g6 (nI (mn μ)))), ∀ (hF : Fr (fun q : Nat => b ≤ q ∧ q < b + 7) st0 st1), WS zp zl ze (r0 1 18) zs zm zar zbe zme zc κ z 0 0 (QM zbe zar zs κ z (r0 1 18) P) st1 4 [some (.ref (ad κ b)), some (.int (nI i)), some (.int (nI (i + 1 + k)))] [] := by
    refine dnw ?_
    intro k hk ih4 g5 g6 h6 h5 hf st1 hB hF
    refine ws_iload_n 4 C dX3_takeOut_4 rfl ?_
    refine ws_aload_n 5 C dX3_takeOut_5 rfl ?_
    refine ws_get 6 C dX3_takeOut_6 fX3_31 hB rfl rfl ?_
    refine ws_nicmp_ge 9 C 55 dX3_takeOut_9 (by decide) (by omega) (by omega) (fun c9 => ?_) (fun c9 => ?_)
    · skip
      refine ws_aload_n 55 C dX3_takeOut_55 rfl ?_
      refine ws_dup 56 C dX3_takeOut_56 rfl ?_
      refine ws_get 57 C dX3_takeOut_57 fX3_31 hB rfl rfl ?_
      refine ws_iconst 60 C dX3_takeOut_60 (nI 1) (by decide) ?_
      refine ws_isub 61 C dX3_takeOut_61 (nI (mn μ - 1)) (pk_sub (by omega)) ?_
      refine ws_put 62 C dX3_takeOut_62 fX3_31 q3_6 hB rfl (Nat.le_of_ble_eq_true rfl) rfl rfl (fun st2 est2 => ?_)
      have hB : Ob z st2 b (bSh κ b f1 f2 f3 f4 g5 g6 (nI (mn μ - 1))) := Ob.put' (j := 0) hB est2 rfl
      have hF := hF.put' est2 (show b ≤ (b) ∧ (b) < b + 7 from by omega)
      exact ws_vret 65 C dX3_takeOut_65 rfl (Nat.le_refl _) (Nat.le_refl _) (by rw [hP]; exact ⟨rfl, ⟨⟨f1, f2, f3, f4, g5, g6, hB, Rp_drop hR hi (show mn μ - 1 ≤ i + k from by omega) h6 h5 hf⟩, hF⟩⟩)
    · skip
      refine ws_aload_n 12 C dX3_takeOut_12 rfl ?_
      refine ws_get 13 C dX3_takeOut_13 fX3_24 hB rfl rfl ?_
      refine ws_iload_n 16 C dX3_takeOut_16 rfl ?_
      refine ws_bipush 17 C dX3_takeOut_17 (nI 10) (by decide) ?_
      refine ws_imul 19 C dX3_takeOut_19 (nI ((i + 1 + k) * 10)) (pk_mul _ _) ?_
      refine ws_aload_n 20 C dX3_takeOut_20 rfl ?_
      refine ws_get 21 C dX3_takeOut_21 fX3_24 hB rfl rfl ?_
      refine ws_iload_n 24 C dX3_takeOut_24 rfl ?_
      refine ws_iconst 25 C dX3_takeOut_25 (nI 1) (by decide) ?_
      refine ws_isub 26 C dX3_takeOut_26 (nI (i + k)) ((pk_sub (by omega)).trans (congrArg nI (by omega))) ?_
      refine ws_bipush 27 C dX3_takeOut_27 (nI 10) (by decide) ?_
      refine ws_imul 29 C dX3_takeOut_29 (nI ((i + k) * 10)) (pk_mul _ _) ?_
      refine ws_bipush 30 C dX3_takeOut_30 (nI 10) (by decide) ?_
      refine ws_copyC 32 C dX3_takeOut_32 k141 k143 k142 k42 rfl hB 5 rfl hB 5 rfl ((i + 1 + k) * 10) ((i + k) * 10) 10 (by omega) (by omega) (by decide) (by decide) (fun q _ => hf _) (by decide) (by decide) (fun st3 est3 => ?_)
      have hB : Ob z st3 b (bSh κ b f1 f2 f3 f4 (va_cpy g5 g5 ((i + 1 + k) * 10) ((i + k) * 10) 10) g6 (nI (mn μ))) := Ob.put' (j := 5) hB est3 rfl
      have hF := hF.put' est3 (show b ≤ (b + 5) ∧ (b + 5) < b + 7 from by omega)
      refine ws_aload_n 35 C dX3_takeOut_35 rfl ?_
      refine ws_get 36 C dX3_takeOut_36 fX3_28 hB rfl rfl ?_
      refine ws_iload_n 39 C dX3_takeOut_39 rfl ?_
      refine ws_iconst 40 C dX3_takeOut_40 (nI 1) (by decide) ?_
      refine ws_isub 41 C dX3_takeOut_41 (nI (i + k)) ((pk_sub (by omega)).trans (congrArg nI (by omega))) ?_
      refine ws_aload_n 42 C dX3_takeOut_42 rfl ?_
      refine ws_get 43 C dX3_takeOut_43 fX3_28 hB rfl rfl ?_
      refine ws_iload_n 46 C dX3_takeOut_46 rfl ?_
      refine ws_iald 47 C dX3_takeOut_47 hB 6 rfl (vp_in_nI (by omega) (by decide)) (g6 (i + 1 + k)) (congrArg g6 (nI_clamp (by omega))) ?_
      refine ws_iast 48 C dX3_takeOut_48 hB 6 rfl (vp_in_nI (by omega) (by decide)) (i + k) (nI_clamp (by omega)) (g6 (i + 1 + k)) rfl (fun st4 est4 => ?_)
      have hB : Ob z st4 b (bSh κ b f1 f2 f3 f4 (va_cpy g5 g5 ((i + 1 + k) * 10) ((i + k) * 10) 10) (upd g6 (i + k) (g6 (i + 1 + k))) (nI (mn μ))) := Ob.put' (j := 6) hB est4 rfl
      have hF := hF.put' est4 (show b ≤ (b + 6) ∧ (b + 6) < b + 7 from by omega)
      refine ws_iinc 49 C dX3_takeOut_49 rfl (nI (i + 1 + k + 1)) (nI_1 _) rfl [some (.ref (ad κ b)), some (.int (nI i)), some (.int (nI (i + 1 + k + 1)))] rfl ?_
      refine ws_goto 52 C 4 dX3_takeOut_52 (by decide) ?_
      exact ih4 (by omega) (va_cpy g5 g5 ((i + 1 + k) * 10) ((i + k) * 10) 10) (upd g6 (i + k) (g6 (i + 1 + k))) (drop6 h6 (by omega)) (drop5 h5 (by omega)) (cpy_fit hf hf) st4 hB hF
  exact L4 0 (Nat.zero_le _) f5 f6 (fun w hw => (by rw [hR.len hw, if_neg (by omega)])) (fun w j hw hj => (by rw [if_neg (by omega)])) hR.fit st0 hB hF

set_option maxRecDepth 100000 in
set_option maxHeartbeats 4000000 in
theorem c_X3_exchange {b : Nat} {μ : Mu} (hT : ShP κ z st0 b μ) {i j : Nat} (hi : i < mn μ) (hj : j < mn μ) (hij : i ≠ j) : CT zl κ yX3_exchange cX3_exchange 5 none (r0 0 0) z [.ref (ad κ b), .int (nI i), .int (nI j)] st0 (PV (fun u => ShP κ z u b (muSwap μ i j) ∧ Fr (fun q : Nat => b ≤ q ∧ q < b + 7) st0 u)) := by
  obtain ⟨P, hP⟩ : ∃ P : Option Value → St → Prop, P = (PV (fun u => ShP κ z u b (muSwap μ i j) ∧ Fr (fun q : Nat => b ≤ q ∧ q < b + 7) st0 u)) := ⟨_, rfl⟩
  rw [← hP]
  refine CT.of (by decide +kernel) (Nat.le_of_ble_eq_true rfl) (fun zp ze zs zm zar zbe zme zc C _ => ?_)
  have C : Cx zp zs zm zar zme zc κ cX3_exchange 5 RX3 none := C
  refine ws_lv (lv2 := [some (.ref (ad κ b)), some (.int (nI i)), some (.int (nI j)), none, none]) rfl ?_
  obtain ⟨f1, f2, f3, f4, f5, f6, hB, hR⟩ := hT
  have h24 := hR.le
  have hF : Fr (fun q : Nat => b ≤ q ∧ q < b + 7) st0 st0 := Fr.rf
  refine ws_iconst 0 C dX3_exchange_0 (nI 0) (by decide) ?_
  refine ws_istore_n 1 C dX3_exchange_1 rfl [some (.ref (ad κ b)), some (.int (nI i)), some (.int (nI j)), some (.int (nI 0)), none] rfl ?_
  have L2 : ∀ k : Nat, k ≤ 10 → ∀ (g5 : Nat → Int32), ∀ (h5 : ∀ w q, w < 24 → q < 10 → g5 (w * 10 + q) = f5 ((if q < k then (if w = i then j else if w = j then i else w) else w) * 10 + q)), ∀ (hf : ∀ q, fits .char (.int (g5 q)) = true), ∀ (st1 : St), ∀ (hB : Ob z st1 b (bSh κ b f1 f2 f3 f4 g5 f6 (nI (mn μ)))), ∀ (hF : Fr (fun q : Nat => b ≤ q ∧ q < b + 7) st0 st1), WS zp zl ze (r0 0 0) zs zm zar zbe zme zc κ z 0 0 (QM zbe zar zs κ z (r0 0 0) P) st1 2 [some (.ref (ad κ b)), some (.int (nI i)), some (.int (nI j)), some (.int (nI k)), none] [] := by
    refine dnw ?_
    intro k hk ih2 g5 h5 hf st1 hB hF
    refine ws_iload_n 2 C dX3_exchange_2 rfl ?_
    refine ws_bipush 3 C dX3_exchange_3 (nI 10) (by decide) ?_
    refine ws_nicmp_ge 5 C 62 dX3_exchange_5 (by decide) (by omega) (by omega) (fun c5 => ?_) (fun c5 => ?_)
    · skip
      refine ws_aload_n 62 C dX3_exchange_62 rfl ?_
      refine ws_get 63 C dX3_exchange_63 fX3_28 hB rfl rfl ?_
      refine ws_iload_n 66 C dX3_exchange_66 rfl ?_
      refine ws_iald 67 C dX3_exchange_67 hB 6 rfl (vp_in_nI (by omega) (by decide)) (nI (ml μ i)) ((congrArg f6 (nI_clamp (by omega))).trans (hR.len hi)) ?_
      refine ws_istore_n 68 C dX3_exchange_68 rfl [some (.ref (ad κ b)), some (.int (nI i)), some (.int (nI j)), some (.int (nI (ml μ i))), none] rfl ?_
      refine ws_aload_n 69 C dX3_exchange_69 rfl ?_
      refine ws_get 70 C dX3_exchange_70 fX3_28 hB rfl rfl ?_
      refine ws_iload_n 73 C dX3_exchange_73 rfl ?_
      refine ws_aload_n 74 C dX3_exchange_74 rfl ?_
      refine ws_get 75 C dX3_exchange_75 fX3_28 hB rfl rfl ?_
      refine ws_iload_n 78 C dX3_exchange_78 rfl ?_
      refine ws_iald 79 C dX3_exchange_79 hB 6 rfl (vp_in_nI (by omega) (by decide)) (nI (ml μ j)) ((congrArg f6 (nI_clamp (by omega))).trans (hR.len hj)) ?_
      refine ws_iast 80 C dX3_exchange_80 hB 6 rfl (vp_in_nI (by omega) (by decide)) i (nI_clamp (by omega)) (nI (ml μ j)) rfl (fun st2 est2 => ?_)
      have hB : Ob z st2 b (bSh κ b f1 f2 f3 f4 g5 (upd f6 i (nI (ml μ j))) (nI (mn μ))) := Ob.put' (j := 6) hB est2 rfl
      have hF := hF.put' est2 (show b ≤ (b + 6) ∧ (b + 6) < b + 7 from by omega)
      refine ws_aload_n 81 C dX3_exchange_81 rfl ?_
      refine ws_get 82 C dX3_exchange_82 fX3_28 hB rfl rfl ?_
      refine ws_iload_n 85 C dX3_exchange_85 rfl ?_
      refine ws_iload_n 86 C dX3_exchange_86 rfl ?_
      refine ws_iast 87 C dX3_exchange_87 hB 6 rfl (vp_in_nI (by omega) (by decide)) j (nI_clamp (by omega)) (nI (ml μ i)) rfl (fun st3 est3 => ?_)
      have hB : Ob z st3 b (bSh κ b f1 f2 f3 f4 g5 (upd (upd f6 i (nI (ml μ j))) j (nI (ml μ i))) (nI (mn μ))) := Ob.put' (j := 6) hB est3 rfl
      have hF := hF.put' est3 (show b ≤ (b + 6) ∧ (b + 6) < b + 7 from by omega)
      exact ws_vret 88 C dX3_exchange_88 rfl (Nat.le_refl _) (Nat.le_refl _) (by rw [hP]; exact ⟨rfl, ⟨⟨f1, f2, f3, f4, g5, _, hB, Rp_swap hR hi hj hij (show 10 ≤ k from by omega) h5 hf⟩, hF⟩⟩)
    · skip
      refine ws_aload_n 8 C dX3_exchange_8 rfl ?_
      refine ws_get 9 C dX3_exchange_9 fX3_24 hB rfl rfl ?_
      refine ws_iload_n 12 C dX3_exchange_12 rfl ?_
      refine ws_bipush 13 C dX3_exchange_13 (nI 10) (by decide) ?_
      refine ws_imul 15 C dX3_exchange_15 (nI (i * 10)) (pk_mul _ _) ?_
      refine ws_iload_n 16 C dX3_exchange_16 rfl ?_
      refine ws_iadd 17 C dX3_exchange_17 (nI (i * 10 + k)) (nI_add _ _) ?_
      refine ws_cald 18 C dX3_exchange_18 hB 5 rfl (vp_in_nI (by omega) (by decide)) (g5 (i * 10 + k)) (congrArg g5 (nI_clamp (by omega))) ?_
      refine ws_istore 19 C dX3_exchange_19 rfl [some (.ref (ad κ b)), some (.int (nI i)), some (.int (nI j)), some (.int (nI k)), some (.int (g5 (i * 10 + k)))] rfl ?_
      refine ws_aload_n 21 C dX3_exchange_21 rfl ?_
      refine ws_get 22 C dX3_exchange_22 fX3_24 hB rfl rfl ?_
      refine ws_iload_n 25 C dX3_exchange_25 rfl ?_
      refine ws_bipush 26 C dX3_exchange_26 (nI 10) (by decide) ?_
      refine ws_imul 28 C dX3_exchange_28 (nI (i * 10)) (pk_mul _ _) ?_
      refine ws_iload_n 29 C dX3_exchange_29 rfl ?_
      refine ws_iadd 30 C dX3_exchange_30 (nI (i * 10 + k)) (nI_add _ _) ?_
      refine ws_aload_n 31 C dX3_exchange_31 rfl ?_
      refine ws_get 32 C dX3_exchange_32 fX3_24 hB rfl rfl ?_
      refine ws_iload_n 35 C dX3_exchange_35 rfl ?_
      refine ws_bipush 36 C dX3_exchange_36 (nI 10) (by decide) ?_
      refine ws_imul 38 C dX3_exchange_38 (nI (j * 10)) (pk_mul _ _) ?_
      refine ws_iload_n 39 C dX3_exchange_39 rfl ?_
      refine ws_iadd 40 C dX3_exchange_40 (nI (j * 10 + k)) (nI_add _ _) ?_
      refine ws_cald 41 C dX3_exchange_41 hB 5 rfl (vp_in_nI (by omega) (by decide)) (g5 (j * 10 + k)) (congrArg g5 (nI_clamp (by omega))) ?_
      refine ws_cast 42 C dX3_exchange_42 hB 5 rfl (vp_in_nI (by omega) (by decide)) (i * 10 + k) (nI_clamp (by omega)) (g5 (j * 10 + k)) (fit_nar (hf _)) (fun st4 est4 => ?_)
      have hB : Ob z st4 b (bSh κ b f1 f2 f3 f4 (upd g5 (i * 10 + k) (g5 (j * 10 + k))) f6 (nI (mn μ))) := Ob.put' (j := 5) hB est4 rfl
      have hF := hF.put' est4 (show b ≤ (b + 5) ∧ (b + 5) < b + 7 from by omega)
      refine ws_aload_n 43 C dX3_exchange_43 rfl ?_
      refine ws_get 44 C dX3_exchange_44 fX3_24 hB rfl rfl ?_
      refine ws_iload_n 47 C dX3_exchange_47 rfl ?_
      refine ws_bipush 48 C dX3_exchange_48 (nI 10) (by decide) ?_
      refine ws_imul 50 C dX3_exchange_50 (nI (j * 10)) (pk_mul _ _) ?_
      refine ws_iload_n 51 C dX3_exchange_51 rfl ?_
      refine ws_iadd 52 C dX3_exchange_52 (nI (j * 10 + k)) (nI_add _ _) ?_
      refine ws_iload 53 C dX3_exchange_53 rfl ?_
      refine ws_cast 55 C dX3_exchange_55 hB 5 rfl (vp_in_nI (by omega) (by decide)) (j * 10 + k) (nI_clamp (by omega)) (g5 (i * 10 + k)) (fit_nar (hf _)) (fun st5 est5 => ?_)
      have hB : Ob z st5 b (bSh κ b f1 f2 f3 f4 (upd (upd g5 (i * 10 + k) (g5 (j * 10 + k))) (j * 10 + k) (g5 (i * 10 + k))) f6 (nI (mn μ))) := Ob.put' (j := 5) hB est5 rfl
      have hF := hF.put' est5 (show b ≤ (b + 5) ∧ (b + 5) < b + 7 from by omega)
      refine ws_iinc 56 C dX3_exchange_56 rfl (nI (k + 1)) (nI_1 _) rfl [some (.ref (ad κ b)), some (.int (nI i)), some (.int (nI j)), some (.int (nI (k + 1))), some (.int (g5 (i * 10 + k)))] rfl ?_
      refine ws_goto 59 C 2 dX3_exchange_59 (by decide) ?_
      refine ws_wk (lv2 := [some (.ref (ad κ b)), some (.int (nI i)), some (.int (nI j)), some (.int (nI (k + 1))), none]) ⟨rfl, rfl, rfl, rfl, trivial⟩ ?_
      exact ih2 c5 (upd (upd g5 (i * 10 + k) (g5 (j * 10 + k))) (j * 10 + k) (g5 (i * 10 + k))) (swap5 h5 (by omega) (by omega) hij c5) (upd_fit (upd_fit hf (hf _)) (hf _)) st5 hB hF
  exact L2 0 (Nat.zero_le _) f5 (fun w q hw hq => (by rw [if_neg (by omega)])) hR.fit st0 hB hF
end
end
section
/-! what a weighed and a broken layout says -/
def LyW (μ : Mu) (p l r : Nat → Int32) : Prop := (∀ j, j ≤ mn μ → p j = pl μ j) ∧ (∀ w, w < mn μ → l w = lh μ w) ∧ ∀ w, w < mn μ → r w = rh μ w
def LyB (nx : Nat → Nat) (n L : Nat) (s : Nat → Int32) : Prop := Adv nx n ∧ Br nx n L ∧ ∀ i, i ≤ L → s i = nI (stt nx i)
theorem LyB.at {nx : Nat → Nat} {n L i : Nat} {s : Nat → Int32} (h : LyB nx n L s) (hi : i ≤ L) : s i = nI (stt nx i) := h.2.2 i hi
theorem LyB.lt {nx : Nat → Nat} {n L i : Nat} {s : Nat → Int32} (h : LyB nx n L s) (hi : i < L) : stt nx i < n := h.2.1.2 i hi
theorem LyB.le {nx : Nat → Nat} {n L i : Nat} {s : Nat → Int32} (h : LyB nx n L s) (hi : i ≤ L) : stt nx i ≤ n := by
  rcases Nat.lt_or_ge i L with q | q
  · exact Nat.le_of_lt (h.lt q)
  · have e : i = L := by omega
    subst e
    exact Nat.le_of_eq h.2.1.1
theorem LyB.next {nx : Nat → Nat} {n L i : Nat} {s : Nat → Int32} (h : LyB nx n L s) (hi : i < L) : stt nx i < stt nx (i + 1) ∧ stt nx (i + 1) ≤ n := ⟨stt_mono h.1 h.2.1 i (i + 1) (by omega) hi, h.le hi⟩
theorem LyB.L_le {nx : Nat → Nat} {n L : Nat} {s : Nat → Int32} (h : LyB nx n L s) : L ≤ n := h.2.1.le h.1
theorem upd_le {f F : Nat → Int32} {k : Nat} {v : Int32} (h : ∀ j, j ≤ k → f j = F j) (hv : v = F (k + 1)) : ∀ j, j ≤ k + 1 → upd f (k + 1) v j = F j := by
  intro j hj
  by_cases hc : j = k + 1
  · subst hc; rw [pk_us]; exact hv
  · rw [pk_un hc]; exact h j (by omega)
theorem upd_lt {f F : Nat → Int32} {k : Nat} {v : Int32} (h : ∀ j, j < k → f j = F j) (hv : v = F k) : ∀ j, j < k + 1 → upd f k v j = F j := by
  intro j hj
  by_cases hc : j = k
  · subst hc; rw [pk_us]; exact hv
  · rw [pk_un hc]; exact h j (by omega)
/-- the body of a line; whether it looks indented; the line of a word -/
def bol (μ : Mu) (nx : Nat → Nat) (i : Nat) : Int32 := bo μ (stt nx i) (stt nx (i + 1) - 1)
def ind (μ : Mu) (nx : Nat → Nat) (m lo : Int32) (L i : Nat) : Prop := bol μ nx i ≤ m ∧ i < L - 1 ∧ lo < m - bol μ nx i
def lof (nx : Nat → Nat) (w : Nat) : Nat → Nat
  | 0 => 0
  | k + 1 => if stt nx k ≤ w then k else lof nx w k
theorem lof_le (nx : Nat → Nat) (w : Nat) : ∀ k, lof nx w k ≤ k := by
  intro k
  induction k with
  | zero => exact Nat.le_refl _
  | succ k ih =>
    unfold lof
    split <;> omega
def fitI (μ : Mu) (nx : Nat → Nat) (m : Int32) (i : Nat) : Int32 := if bol μ nx i ≤ m then nI 1 else nI 0
def indN (μ : Mu) (nx : Nat → Nat) (m lo : Int32) (L i : Nat) : Nat := if bol μ nx i ≤ m then (if i < L - 1 then (if lo < m - bol μ nx i then 1 else 0) else 0) else 0
def unfN (μ : Mu) (nx : Nat → Nat) (m : Int32) (i : Nat) : Nat := if bol μ nx i ≤ m then 0 else 1
def tell (μ : Mu) (nx : Nat → Nat) (m lo : Int32) (L i what : Nat) : Int32 := match what with
  | 0 => nI (stt nx i)
  | 1 => nI (stt nx (i + 1) - stt nx i)
  | 2 => wl μ (stt nx i) (stt nx (i + 1) - 1)
  | 3 => lh μ (stt nx i)
  | 4 => rh μ (stt nx (i + 1) - 1)
  | 5 => bol μ nx i
  | 6 => if bol μ nx i ≤ m then m - bol μ nx i else -1006
  | 7 => fitI μ nx m i
  | _ => nI (indN μ nx m lo L i)
def sumB (μ : Mu) (nx : Nat → Nat) (m : Int32) (k : Nat) : Int32 := smI (fun i => bad (bo μ) m (mn μ) (stt nx i) (stt nx (i + 1) - 1)) k
def greB (μ : Mu) (nx : Nat → Nat) (L : Nat) : Int32 := if L = 0 then -1006 else mxI (bol μ nx) (L - 1)
/-- greedily: the next word goes on, or begins a line -/
theorem fill_go {b : Nat → Nat → Int32} {m : Int32} {n i k : Nat} (hk : k < n) (hi : 0 < i) (h1 : stt (gx b m n) (i - 1) < k) (h2 : k ≤ gx b m n (stt (gx b m n) (i - 1))) (hc : b (stt (gx b m n) (i - 1)) k ≤ m) : k + 1 ≤ gx b m n (stt (gx b m n) (i - 1)) := by
  obtain ⟨a1, a2, a3, a4⟩ := gx_spec b m (n := n) (k := stt (gx b m n) (i - 1)) (by omega)
  rcases Nat.lt_or_ge k (gx b m n (stt (gx b m n) (i - 1))) with q | q
  · exact q
  · have e : k = gx b m n (stt (gx b m n) (i - 1)) := by omega
    rcases a4 with a | a
    · omega
    · rw [← e] at a
      exact absurd hc a
theorem fill_new {b : Nat → Nat → Int32} {m : Int32} {n i k : Nat} (hk : k < n) (hi : 0 < i) (h1 : stt (gx b m n) (i - 1) < k) (h2 : k ≤ gx b m n (stt (gx b m n) (i - 1))) (hc : ¬ b (stt (gx b m n) (i - 1)) k ≤ m) : stt (gx b m n) i = k := by
  obtain ⟨a1, a2, a3, a4⟩ := gx_spec b m (n := n) (k := stt (gx b m n) (i - 1)) (by omega)
  have e : stt (gx b m n) i = gx b m n (stt (gx b m n) (i - 1)) := by
    obtain ⟨j, rfl⟩ : ∃ j, i = j + 1 := ⟨i - 1, by omega⟩
    rfl
  rw [e]
  rcases Nat.lt_or_ge k (gx b m n (stt (gx b m n) (i - 1))) with q | q
  · exact absurd (a3 k h1 q) hc
  · omega
def FillI (nx : Nat → Nat) (n k i : Nat) : Prop := i ≤ k ∧ ((k = 0 ∧ i = 0) ∨ (0 < i ∧ stt nx (i - 1) < k ∧ k ≤ nx (stt nx (i - 1)) ∧ ∀ q, q < i → stt nx q < k))
theorem FillI.new {nx : Nat → Nat} {n k i : Nat} (ha : Adv nx n) (hk : k < n) (h : FillI nx n k i) (e : stt nx i = k) : FillI nx n (k + 1) (i + 1) := by
  obtain ⟨h0, h⟩ := h
  refine ⟨by omega, Or.inr ⟨by omega, by show stt nx i < k + 1; omega, ?_, fun q hq => ?_⟩⟩
  · show k + 1 ≤ nx (stt nx i)
    rw [e]
    exact (ha k hk).1
  · rcases Nat.lt_or_ge q i with g | g
    · rcases h with ⟨a, b⟩ | ⟨a, b, c, d⟩
      · omega
      · have := d q g
        omega
    · have : q = i := by omega
      subst this
      omega
theorem FillI.go {nx : Nat → Nat} {n k i : Nat} (h : FillI nx n k i) (hi : 0 < i) (h2 : k + 1 ≤ nx (stt nx (i - 1))) : FillI nx n (k + 1) i := by
  obtain ⟨h0, h⟩ := h
  rcases h with ⟨a, b⟩ | ⟨a, b, c, d⟩
  · omega
  · exact ⟨by omega, Or.inr ⟨hi, by omega, h2, fun q hq => by have := d q hq; omega⟩⟩
theorem FillI.end {nx : Nat → Nat} {n k i : Nat} (ha : Adv nx n) (h : FillI nx n k i) (hk : k = n) : Br nx n i := by
  subst hk
  obtain ⟨h0, h⟩ := h
  rcases h with ⟨a, b⟩ | ⟨a, b, c, d⟩
  · subst b
    exact ⟨a.symm, fun q hq => by omega⟩
  · have e : stt nx i = nx (stt nx (i - 1)) := by
      obtain ⟨j, rfl⟩ : ∃ j, i = j + 1 := ⟨i - 1, by omega⟩
      rfl
    have := (ha _ b).2
    exact ⟨by omega, fun q hq => d q hq⟩
theorem LyB.of {nx : Nat → Nat} {n i : Nat} {s : Nat → Int32} (ha : Adv nx n) (hb : Br nx n i) (hs : ∀ q, q < i → s q = nI (stt nx q)) : LyB nx n i (upd s i (nI n)) := by
  refine ⟨ha, hb, fun q hq => ?_⟩
  by_cases hc : q = i
  · subst hc
    rw [pk_us, hb.1]
  · rw [pk_un hc]
    exact hs q (by omega)
theorem down_lt {x : Int32} {n d : Nat} (hx : x = nI (n - d) - nI 1) (hn : n ≤ 24) (h : x < 0) (hd : d ≤ n) : d = n := by
  rcases Nat.lt_or_ge d n with q | q
  · exfalso
    rw [hx, pk_sub (by omega)] at h
    exact nI_pos (by omega) h
  · omega
theorem down_ge {x : Int32} {n d : Nat} (hx : x = nI (n - d) - nI 1) (hn : n ≤ 24) (h : ¬ x < 0) : d < n ∧ nI (n - 1 - d) = x := by
  rcases Nat.lt_or_ge d n with q | q
  · refine ⟨q, ?_⟩
    rw [hx, pk_sub (by omega)]
    congr 1
    omega
  · exfalso
    rw [hx, show n - d = 0 from by omega] at h
    exact h (by decide)
theorem dec1 (a : Nat) : nI a + Int32.ofInt (-1) = nI a - nI 1 := by
  rw [Int32.sub_eq_add_neg]
  rfl
theorem inn_yes {b : Nat → Nat → Int32} {m : Int32} {n k t : Nat} {T : Nat → Int32} (h : bad b m n k (k + t + 1) + T (k + t + 2) ≤ (inn b m n T k t).1) : inn b m n T k (t + 1) = (bad b m n k (k + t + 1) + T (k + t + 2), k + t + 2) := if_pos h
theorem inn_no {b : Nat → Nat → Int32} {m : Int32} {n k t : Nat} {T : Nat → Int32} (h : ¬ bad b m n k (k + t + 1) + T (k + t + 2) ≤ (inn b m n T k t).1) : inn b m n T k (t + 1) = inn b m n T k t := if_neg h
theorem best_1 {b : Nat → Nat → Int32} {m : Int32} {n d : Nat} {lf2 lf3 : Nat → Int32} (hd : d < n) (h1 : ∀ q, n - d ≤ q → q ≤ n → lf2 q = (bv b m n d).1 q) (g1 : lf3 (n - 1 - d) = (inn b m n (bv b m n d).1 (n - 1 - d) (gx b m n (n - 1 - d) - (n - 1 - d) - 1)).1) (g3 : ∀ q, q ≠ n - 1 - d → lf3 q = lf2 q) : ∀ q, n - (d + 1) ≤ q → q ≤ n → lf3 q = (bv b m n (d + 1)).1 q := by
  intro q h2 h3
  show _ = upd (bv b m n d).1 (n - 1 - d) _ q
  by_cases hc : q = n - 1 - d
  · subst hc
    rw [pk_us]
    exact g1
  · rw [pk_un hc, g3 q hc]
    exact h1 q (by omega) h3
theorem best_2 {b : Nat → Nat → Int32} {m : Int32} {n d : Nat} {nx2 nx3 : Nat → Int32} (hd : d < n) (h1 : ∀ q, n - d ≤ q → q < n → nx2 q = nI ((bv b m n d).2 q)) (g1 : nx3 (n - 1 - d) = nI (inn b m n (bv b m n d).1 (n - 1 - d) (gx b m n (n - 1 - d) - (n - 1 - d) - 1)).2) (g3 : ∀ q, q ≠ n - 1 - d → nx3 q = nx2 q) : ∀ q, n - (d + 1) ≤ q → q < n → nx3 q = nI ((bv b m n (d + 1)).2 q) := by
  intro q h2 h3
  show _ = nI (va_up (bv b m n d).2 (n - 1 - d) _ q)
  by_cases hc : q = n - 1 - d
  · subst hc
    rw [va_up_self]
    exact g1
  · rw [va_up_ne _ _ hc, g3 q hc]
    exact h1 q (by omega) h3
theorem fitI_n {μ : Mu} {nx : Nat → Nat} {m : Int32} {i : Nat} (h : fitI μ nx m i = 0) : ¬ bol μ nx i ≤ m := fun q => by
  unfold fitI at h
  rw [if_pos q] at h
  exact absurd h (by decide)
theorem fitI_y {μ : Mu} {nx : Nat → Nat} {m : Int32} {i : Nat} (h : ¬ fitI μ nx m i = 0) : bol μ nx i ≤ m := by
  rcases Classical.em (bol μ nx i ≤ m) with q | q
  · exact q
  · exact absurd (if_neg q) h
theorem indN_le (μ : Mu) (nx : Nat → Nat) (m lo : Int32) (L i : Nat) : indN μ nx m lo L i ≤ 1 := by
  unfold indN
  split
  · split
    · split <;> omega
    · omega
  · omega
theorem unfN_y {μ : Mu} {nx : Nat → Nat} {m : Int32} {i : Nat} (h : bol μ nx i ≤ m) : unfN μ nx m i = 0 := if_pos h
theorem unfN_n {μ : Mu} {nx : Nat → Nat} {m : Int32} {i : Nat} (h : ¬ bol μ nx i ≤ m) : unfN μ nx m i = 1 := if_neg h
theorem sm_0 {f : Nat → Nat} {k : Nat} (h : f k = 0) : smN f (k + 1) = smN f k := by
  show smN f k + f k = _
  rw [h]
  rfl
theorem sm_1 {f : Nat → Nat} {k : Nat} (h : f k = 1) : smN f (k + 1) = smN f k + 1 := by
  show smN f k + f k = _
  rw [h]
end
section
section
variable {zl : Launch} {κ : Kt} {z : Nat} {st0 : St}
set_option maxRecDepth 100000 in
set_option maxHeartbeats 4000000 in
theorem c_X1_weigh {b b2 : Nat} {p l r s lf nx f1 f2 f3 f4 f5 f6 : Nat → Int32} {wn m sp lo ln : Int32} {μ : Mu} (hL : Ob z st0 b (bLy κ b p l r wn m sp lo s ln lf nx)) (hB : Ob z st0 b2 (bSh κ b2 f1 f2 f3 f4 f5 f6 (nI (mn μ)))) (hR : Rp μ f1 f2 f3 f4 f5 f6) (hd : b + 7 ≤ b2 ∨ b2 + 7 ≤ b) : CT zl κ yX1_weigh cX1_weigh 3 none (r0 3 67) z [.ref (ad κ b), .ref (ad κ b2)] st0 (PV (fun u => (∃ p l r, Ob z u b (bLy κ b p l r (nI (mn μ)) (mv μ 0 0) (mv μ 0 1) (mv μ 0 2) s ln lf nx) ∧ LyW μ p l r) ∧ Fr (fun q : Nat => b ≤ q ∧ q < b + 7) st0 u)) := by
  obtain ⟨P, hP⟩ : ∃ P : Option Value → St → Prop, P = (PV (fun u => (∃ p l r, Ob z u b (bLy κ b p l r (nI (mn μ)) (mv μ 0 0) (mv μ 0 1) (mv μ 0 2) s ln lf nx) ∧ LyW μ p l r) ∧ Fr (fun q : Nat => b ≤ q ∧ q < b + 7) st0 u)) := ⟨_, rfl⟩
  rw [← hP]
  refine CT.of (by decide +kernel) (Nat.le_of_ble_eq_true rfl) (fun zp ze zs zm zar zbe zme zc C _ => ?_)
  have C : Cx zp zs zm zar zme zc κ cX1_weigh 3 RX1 none := C
  refine ws_lv (lv2 := [some (.ref (ad κ b)), some (.ref (ad κ b2)), none]) rfl ?_
  have h24 := hR.le
  have hF : Fr (fun q : Nat => b ≤ q ∧ q < b + 7) st0 st0 := Fr.rf
  refine ws_aload_n 0 C dX1_weigh_0 rfl ?_
  refine ws_aload_n 1 C dX1_weigh_1 rfl ?_
  refine ws_get 2 C dX1_weigh_2 fX1_46 hB rfl rfl ?_
  refine ws_put 5 C dX1_weigh_5 fX1_21 q1_3 hL rfl (Nat.le_of_ble_eq_true rfl) rfl rfl (fun st1 est1 => ?_)
  have hL : Ob z st1 b (bLy κ b p l r (nI (mn μ)) m sp lo s ln lf nx) := Ob.put' (j := 0) hL est1 rfl
  have hB := hB.ne' (L := 7) est1 rfl (by omega)
  have hF := hF.put' est1 (show b ≤ (b) ∧ (b) < b + 7 from by omega)
  refine ws_aload_n 8 C dX1_weigh_8 rfl ?_
  refine ws_aload_n 9 C dX1_weigh_9 rfl ?_
  refine ws_get 10 C dX1_weigh_10 fX1_49 hB rfl rfl ?_
  refine ws_iconst 13 C dX1_weigh_13 (nI 0) (by decide) ?_
  refine ws_iald 14 C dX1_weigh_14 hB 1 rfl (vp_in_nI (by omega) (by decide)) (mv μ 0 0) ((congrArg f1 (nI_clamp (by omega))).trans (hR.set (by omega))) ?_
  refine ws_put 15 C dX1_weigh_15 fX1_25 q1_4 hL rfl (Nat.le_of_ble_eq_true rfl) rfl rfl (fun st2 est2 => ?_)
  have hL : Ob z st2 b (bLy κ b p l r (nI (mn μ)) (mv μ 0 0) sp lo s ln lf nx) := Ob.put' (j := 0) hL est2 rfl
  have hB := hB.ne' (L := 7) est2 rfl (by omega)
  have hF := hF.put' est2 (show b ≤ (b) ∧ (b) < b + 7 from by omega)
  refine ws_aload_n 18 C dX1_weigh_18 rfl ?_
  refine ws_aload_n 19 C dX1_weigh_19 rfl ?_
  refine ws_get 20 C dX1_weigh_20 fX1_49 hB rfl rfl ?_
  refine ws_iconst 23 C dX1_weigh_23 (nI 1) (by decide) ?_
  refine ws_iald 24 C dX1_weigh_24 hB 1 rfl (vp_in_nI (by omega) (by decide)) (mv μ 0 1) ((congrArg f1 (nI_clamp (by omega))).trans (hR.set (by omega))) ?_
  refine ws_put 25 C dX1_weigh_25 fX1_28 q1_5 hL rfl (Nat.le_of_ble_eq_true rfl) rfl rfl (fun st3 est3 => ?_)
  have hL : Ob z st3 b (bLy κ b p l r (nI (mn μ)) (mv μ 0 0) (mv μ 0 1) lo s ln lf nx) := Ob.put' (j := 0) hL est3 rfl
  have hB := hB.ne' (L := 7) est3 rfl (by omega)
  have hF := hF.put' est3 (show b ≤ (b) ∧ (b) < b + 7 from by omega)
  refine ws_aload_n 28 C dX1_weigh_28 rfl ?_
  refine ws_aload_n 29 C dX1_weigh_29 rfl ?_
  refine ws_get 30 C dX1_weigh_30 fX1_49 hB rfl rfl ?_
  refine ws_iconst 33 C dX1_weigh_33 (nI 2) (by decide) ?_
  refine ws_iald 34 C dX1_weigh_34 hB 1 rfl (vp_in_nI (by omega) (by decide)) (mv μ 0 2) ((congrArg f1 (nI_clamp (by omega))).trans (hR.set (by omega))) ?_
  refine ws_put 35 C dX1_weigh_35 fX1_31 q1_6 hL rfl (Nat.le_of_ble_eq_true rfl) rfl rfl (fun st4 est4 => ?_)
  have hL : Ob z st4 b (bLy κ b p l r (nI (mn μ)) (mv μ 0 0) (mv μ 0 1) (mv μ 0 2) s ln lf nx) := Ob.put' (j := 0) hL est4 rfl
  have hB := hB.ne' (L := 7) est4 rfl (by omega)
  have hF := hF.put' est4 (show b ≤ (b) ∧ (b) < b + 7 from by omega)
  refine ws_aload_n 38 C dX1_weigh_38 rfl ?_
  refine ws_get 39 C dX1_weigh_39 fX1_9 hL rfl rfl ?_
  refine ws_iconst 42 C dX1_weigh_42 (nI 0) (by decide) ?_
  refine ws_iconst 43 C dX1_weigh_43 (nI 0) (by decide) ?_
  refine ws_iast 44 C dX1_weigh_44 hL 1 rfl (vp_in_nI (by omega) (by decide)) 0 (nI_clamp (by omega)) (nI 0) rfl (fun st5 est5 => ?_)
  have hL : Ob z st5 b (bLy κ b (upd p 0 (nI 0)) l r (nI (mn μ)) (mv μ 0 0) (mv μ 0 1) (mv μ 0 2) s ln lf nx) := Ob.put' (j := 1) hL est5 rfl
  have hB := hB.ne' (L := 7) est5 rfl (by omega)
  have hF := hF.put' est5 (show b ≤ (b + 1) ∧ (b + 1) < b + 7 from by omega)
  refine ws_iconst 45 C dX1_weigh_45 (nI 0) (by decide) ?_
  refine ws_istore_n 46 C dX1_weigh_46 rfl [some (.ref (ad κ b)), some (.ref (ad κ b2)), some (.int (nI 0))] rfl ?_
  have L47 : ∀ k : Nat, k ≤ mn μ → ∀ (p2 : Nat → Int32), ∀ (l2 : Nat → Int32), ∀ (r2 : Nat → Int32), ∀ (h1 : ∀ j, j ≤ k → p2 j = pl μ j), ∀ (h2 : ∀ j, j < k → l2 j = lh μ j), ∀ (h3 : ∀ j, j < k → r2 j = rh μ j), ∀ (st6 : St), ∀ (hL : Ob z st6 b (bLy κ b p2 l2 r2 (nI (mn μ)) (mv μ 0 0) (mv μ 0 1) (mv μ 0 2) s ln lf nx)), ∀ (hB : Ob z st6 b2 (bSh κ b2 f1 f2 f3 f4 f5 f6 (nI (mn μ)))), ∀ (hF : Fr (fun q : Nat => b ≤ q ∧ q < b + 7) st0 st6), WS zp zl ze (r0 3 67) zs zm zar zbe zme zc κ z 0 0 (QM zbe zar zs κ z (r0 3 67) P) st6 47 [some (.ref (ad κ b)), some (.ref (ad κ b2)), some (.int (nI k))] [] := by
    refine dnw ?_
    intro k hk ih47 p2 l2 r2 h1 h2 h3 st6 hL hB hF
    refine ws_iload_n 47 C dX1_weigh_47 rfl ?_
    refine ws_aload_n 48 C dX1_weigh_48 rfl ?_
    refine ws_get 49 C dX1_weigh_49 fX1_21 hL rfl rfl ?_
    refine ws_nicmp_ge 52 C 108 dX1_weigh_52 (by decide) (by omega) (by omega) (fun c52 => ?_) (fun c52 => ?_)
    · skip
      exact ws_vret 108 C dX1_weigh_108 rfl (Nat.le_refl _) (Nat.le_refl _) (by rw [hP]; exact ⟨rfl, ⟨⟨p2, l2, r2, hL, fun j hj => h1 j (by omega), fun j hj => h2 j (by omega), fun j hj => h3 j (by omega)⟩, hF⟩⟩)
    · skip
      refine ws_aload_n 55 C dX1_weigh_55 rfl ?_
      refine ws_get 56 C dX1_weigh_56 fX1_9 hL rfl rfl ?_
      refine ws_iload_n 59 C dX1_weigh_59 rfl ?_
      refine ws_iconst 60 C dX1_weigh_60 (nI 1) (by decide) ?_
      refine ws_iadd 61 C dX1_weigh_61 (nI (k + 1)) (nI_add _ _) ?_
      refine ws_aload_n 62 C dX1_weigh_62 rfl ?_
      refine ws_get 63 C dX1_weigh_63 fX1_9 hL rfl rfl ?_
      refine ws_iload_n 66 C dX1_weigh_66 rfl ?_
      refine ws_iald 67 C dX1_weigh_67 hL 1 rfl (vp_in_nI (by omega) (by decide)) (pl μ k) ((congrArg p2 (nI_clamp (by omega))).trans (h1 k (Nat.le_refl _))) ?_
      refine ws_aload_n 68 C dX1_weigh_68 rfl ?_
      refine ws_iload_n 69 C dX1_weigh_69 rfl ?_
      refine ws_callV0 70 C dX1_weigh_70 vX1_52 (c_X3_widthOf hB hR c52) rfl hB rfl rfl ⟨by decide, by decide⟩ ⟨Nat.zero_le _, Nat.zero_le _⟩ rfl rfl rfl (kR ?_)
      refine ws_iadd 73 C dX1_weigh_73 ((pl μ k) + (wd μ k)) rfl ?_
      refine ws_aload_n 74 C dX1_weigh_74 rfl ?_
      refine ws_get 75 C dX1_weigh_75 fX1_28 hL rfl rfl ?_
      refine ws_iadd 78 C dX1_weigh_78 (((pl μ k) + (wd μ k)) + (mv μ 0 1)) rfl ?_
      refine ws_iast 79 C dX1_weigh_79 hL 1 rfl (vp_in_nI (by omega) (by decide)) (k + 1) (nI_clamp (by omega)) (((pl μ k) + (wd μ k)) + (mv μ 0 1)) rfl (fun st7 est7 => ?_)
      have hL : Ob z st7 b (bLy κ b (upd p2 (k + 1) (((pl μ k) + (wd μ k)) + (mv μ 0 1))) l2 r2 (nI (mn μ)) (mv μ 0 0) (mv μ 0 1) (mv μ 0 2) s ln lf nx) := Ob.put' (j := 1) hL est7 rfl
      have hB := hB.ne' (L := 7) est7 rfl (by omega)
      have hF := hF.put' est7 (show b ≤ (b + 1) ∧ (b + 1) < b + 7 from by omega)
      refine ws_aload_n 80 C dX1_weigh_80 rfl ?_
      refine ws_get 81 C dX1_weigh_81 fX1_15 hL rfl rfl ?_
      refine ws_iload_n 84 C dX1_weigh_84 rfl ?_
      refine ws_aload_n 85 C dX1_weigh_85 rfl ?_
      refine ws_iload_n 86 C dX1_weigh_86 rfl ?_
      refine ws_callV0 87 C dX1_weigh_87 vX1_56 (c_X3_leftHangOf hB hR c52) rfl hB rfl rfl ⟨by decide, by decide⟩ ⟨Nat.zero_le _, Nat.zero_le _⟩ rfl rfl rfl (kR ?_)
      refine ws_iast 90 C dX1_weigh_90 hL 2 rfl (vp_in_nI (by omega) (by decide)) k (nI_clamp (by omega)) (lh μ k) rfl (fun st8 est8 => ?_)
      have hL : Ob z st8 b (bLy κ b (upd p2 (k + 1) (((pl μ k) + (wd μ k)) + (mv μ 0 1))) (upd l2 k (lh μ k)) r2 (nI (mn μ)) (mv μ 0 0) (mv μ 0 1) (mv μ 0 2) s ln lf nx) := Ob.put' (j := 2) hL est8 rfl
      have hB := hB.ne' (L := 7) est8 rfl (by omega)
      have hF := hF.put' est8 (show b ≤ (b + 2) ∧ (b + 2) < b + 7 from by omega)
      refine ws_aload_n 91 C dX1_weigh_91 rfl ?_
      refine ws_get 92 C dX1_weigh_92 fX1_18 hL rfl rfl ?_
      refine ws_iload_n 95 C dX1_weigh_95 rfl ?_
      refine ws_aload_n 96 C dX1_weigh_96 rfl ?_
      refine ws_iload_n 97 C dX1_weigh_97 rfl ?_
      refine ws_callV0 98 C dX1_weigh_98 vX1_59 (c_X3_rightHangOf hB hR c52) rfl hB rfl rfl ⟨by decide, by decide⟩ ⟨Nat.zero_le _, Nat.zero_le _⟩ rfl rfl rfl (kR ?_)
      refine ws_iast 101 C dX1_weigh_101 hL 3 rfl (vp_in_nI (by omega) (by decide)) k (nI_clamp (by omega)) (rh μ k) rfl (fun st9 est9 => ?_)
      have hL : Ob z st9 b (bLy κ b (upd p2 (k + 1) (((pl μ k) + (wd μ k)) + (mv μ 0 1))) (upd l2 k (lh μ k)) (upd r2 k (rh μ k)) (nI (mn μ)) (mv μ 0 0) (mv μ 0 1) (mv μ 0 2) s ln lf nx) := Ob.put' (j := 3) hL est9 rfl
      have hB := hB.ne' (L := 7) est9 rfl (by omega)
      have hF := hF.put' est9 (show b ≤ (b + 3) ∧ (b + 3) < b + 7 from by omega)
      refine ws_iinc 102 C dX1_weigh_102 rfl (nI (k + 1)) (nI_1 _) rfl [some (.ref (ad κ b)), some (.ref (ad κ b2)), some (.int (nI (k + 1)))] rfl ?_
      refine ws_goto 105 C 47 dX1_weigh_105 (by decide) ?_
      exact ih47 c52 (upd p2 (k + 1) (((pl μ k) + (wd μ k)) + (mv μ 0 1))) (upd l2 k (lh μ k)) (upd r2 k (rh μ k)) (upd_le h1 rfl) (upd_lt h2 rfl) (upd_lt h3 rfl) st9 hL hB hF
  exact L47 0 (Nat.zero_le _) (upd p 0 (nI 0)) l r (fun j hj => (by rw [show j = 0 from by omega]; exact pk_us)) (fun j hj => (by omega)) (fun j hj => (by omega)) st5 hL hB hF

set_option maxRecDepth 100000 in
set_option maxHeartbeats 4000000 in
theorem c_X1_widthFrom {b : Nat} {p l r s lf nx : Nat → Int32} {m lo ln : Int32} {μ : Mu} (hL : Ob z st0 b (bLy κ b p l r (nI (mn μ)) m (mv μ 0 1) lo s ln lf nx)) (hW : LyW μ p l r) (ho : Ok μ) {i j : Nat} (hij : i ≤ j) (hj : j < mn μ) : CT zl κ yX1_widthFrom cX1_widthFrom 3 (some .int) (r0 0 0) z [.ref (ad κ b), .int (nI i), .int (nI j)] st0 (PRi (wl μ i j) st0) := by
  obtain ⟨P, hP⟩ : ∃ P : Option Value → St → Prop, P = (PRi (wl μ i j) st0) := ⟨_, rfl⟩
  rw [← hP]
  refine CT.of (by decide +kernel) (Nat.le_of_ble_eq_true rfl) (fun zp ze zs zm zar zbe zme zc C _ => ?_)
  have C : Cx zp zs zm zar zme zc κ cX1_widthFrom 3 RX1 (some .int) := C
  refine ws_lv (lv2 := [some (.ref (ad κ b)), some (.int (nI i)), some (.int (nI j))]) rfl ?_
  have h24 := ho.1
  refine ws_aload_n 0 C dX1_widthFrom_0 rfl ?_
  refine ws_get 1 C dX1_widthFrom_1 fX1_9 hL rfl rfl ?_
  refine ws_iload_n 4 C dX1_widthFrom_4 rfl ?_
  refine ws_iconst 5 C dX1_widthFrom_5 (nI 1) (by decide) ?_
  refine ws_iadd 6 C dX1_widthFrom_6 (nI (j + 1)) (nI_add _ _) ?_
  refine ws_iald 7 C dX1_widthFrom_7 hL 1 rfl (vp_in_nI (by omega) (by decide)) (pl μ (j + 1)) ((congrArg p (nI_clamp (by omega))).trans (hW.1 _ (by omega))) ?_
  refine ws_aload_n 8 C dX1_widthFrom_8 rfl ?_
  refine ws_get 9 C dX1_widthFrom_9 fX1_9 hL rfl rfl ?_
  refine ws_iload_n 12 C dX1_widthFrom_12 rfl ?_
  refine ws_iald 13 C dX1_widthFrom_13 hL 1 rfl (vp_in_nI (by omega) (by decide)) (pl μ i) ((congrArg p (nI_clamp (by omega))).trans (hW.1 _ (by omega))) ?_
  refine ws_isub 14 C dX1_widthFrom_14 ((pl μ (j + 1)) - (pl μ i)) rfl ?_
  refine ws_aload_n 15 C dX1_widthFrom_15 rfl ?_
  refine ws_get 16 C dX1_widthFrom_16 fX1_28 hL rfl rfl ?_
  refine ws_isub 19 C dX1_widthFrom_19 (((pl μ (j + 1)) - (pl μ i)) - (mv μ 0 1)) rfl ?_
  exact ws_iret 20 C  dX1_widthFrom_20 rfl (Nat.le_refl _) (Nat.le_refl _) (by rw [hP]; exact ⟨rfl, rfl⟩)

set_option maxRecDepth 100000 in
set_option maxHeartbeats 4000000 in
theorem c_X1_bodyOf {b : Nat} {p l r s lf nx : Nat → Int32} {m lo ln : Int32} {μ : Mu} (hL : Ob z st0 b (bLy κ b p l r (nI (mn μ)) m (mv μ 0 1) lo s ln lf nx)) (hW : LyW μ p l r) (ho : Ok μ) {i j : Nat} (hij : i ≤ j) (hj : j < mn μ) : CT zl κ yX1_bodyOf cX1_bodyOf 3 (some .int) (r0 1 22) z [.ref (ad κ b), .int (nI i), .int (nI j)] st0 (PRi (bo μ i j) st0) := by
  obtain ⟨P, hP⟩ : ∃ P : Option Value → St → Prop, P = (PRi (bo μ i j) st0) := ⟨_, rfl⟩
  rw [← hP]
  refine CT.of (by decide +kernel) (Nat.le_of_ble_eq_true rfl) (fun zp ze zs zm zar zbe zme zc C _ => ?_)
  have C : Cx zp zs zm zar zme zc κ cX1_bodyOf 3 RX1 (some .int) := C
  refine ws_lv (lv2 := [some (.ref (ad κ b)), some (.int (nI i)), some (.int (nI j))]) rfl ?_
  have h24 := ho.1
  refine ws_aload_n 0 C dX1_bodyOf_0 rfl ?_
  refine ws_iload_n 1 C dX1_bodyOf_1 rfl ?_
  refine ws_iload_n 2 C dX1_bodyOf_2 rfl ?_
  refine ws_callV0 3 C dX1_bodyOf_3 vX1_62 (c_X1_widthFrom hL hW ho hij hj) rfl hL rfl rfl ⟨by decide, by decide⟩ ⟨Nat.zero_le _, Nat.zero_le _⟩ rfl rfl rfl (kR ?_)
  refine ws_aload_n 6 C dX1_bodyOf_6 rfl ?_
  refine ws_get 7 C dX1_bodyOf_7 fX1_15 hL rfl rfl ?_
  refine ws_iload_n 10 C dX1_bodyOf_10 rfl ?_
  refine ws_iald 11 C dX1_bodyOf_11 hL 2 rfl (vp_in_nI (by omega) (by decide)) (lh μ i) ((congrArg l (nI_clamp (by omega))).trans (hW.2.1 _ (by omega))) ?_
  refine ws_isub 12 C dX1_bodyOf_12 ((wl μ i j) - (lh μ i)) rfl ?_
  refine ws_aload_n 13 C dX1_bodyOf_13 rfl ?_
  refine ws_get 14 C dX1_bodyOf_14 fX1_18 hL rfl rfl ?_
  refine ws_iload_n 17 C dX1_bodyOf_17 rfl ?_
  refine ws_iald 18 C dX1_bodyOf_18 hL 3 rfl (vp_in_nI (by omega) (by decide)) (rh μ j) ((congrArg r (nI_clamp (by omega))).trans (hW.2.2 _ (by omega))) ?_
  refine ws_isub 19 C dX1_bodyOf_19 (((wl μ i j) - (lh μ i)) - (rh μ j)) rfl ?_
  exact ws_iret 20 C  dX1_bodyOf_20 rfl (Nat.le_refl _) (Nat.le_refl _) (by rw [hP]; exact ⟨rfl, rfl⟩)

set_option maxRecDepth 100000 in
set_option maxHeartbeats 4000000 in
theorem c_X1_badnessOf {b : Nat} {p l r s lf nx : Nat → Int32} {m lo ln : Int32} {μ : Mu} (hL : Ob z st0 b (bLy κ b p l r (nI (mn μ)) m (mv μ 0 1) lo s ln lf nx)) (hW : LyW μ p l r) (ho : Ok μ) {i j : Nat} (hij : i ≤ j) (hj : j < mn μ) : CT zl κ yX1_badnessOf cX1_badnessOf 4 (some .int) (r0 2 44) z [.ref (ad κ b), .int (nI i), .int (nI j)] st0 (PRi (bad (bo μ) m (mn μ) i j) st0) := by
  obtain ⟨P, hP⟩ : ∃ P : Option Value → St → Prop, P = (PRi (bad (bo μ) m (mn μ) i j) st0) := ⟨_, rfl⟩
  rw [← hP]
  refine CT.of (by decide +kernel) (Nat.le_of_ble_eq_true rfl) (fun zp ze zs zm zar zbe zme zc C _ => ?_)
  have C : Cx zp zs zm zar zme zc κ cX1_badnessOf 4 RX1 (some .int) := C
  refine ws_lv (lv2 := [some (.ref (ad κ b)), some (.int (nI i)), some (.int (nI j)), none]) rfl ?_
  have h24 := ho.1
  refine ws_aload_n 0 C dX1_badnessOf_0 rfl ?_
  refine ws_get 1 C dX1_badnessOf_1 fX1_25 hL rfl rfl ?_
  refine ws_aload_n 4 C dX1_badnessOf_4 rfl ?_
  refine ws_iload_n 5 C dX1_badnessOf_5 rfl ?_
  refine ws_iload_n 6 C dX1_badnessOf_6 rfl ?_
  refine ws_callV0 7 C dX1_badnessOf_7 vX1_66 (c_X1_bodyOf hL hW ho hij hj) rfl hL rfl rfl ⟨by decide, by decide⟩ ⟨Nat.zero_le _, Nat.zero_le _⟩ rfl rfl rfl (kR ?_)
  refine ws_isub 10 C dX1_badnessOf_10 (m - (bo μ i j)) rfl ?_
  refine ws_istore_n 11 C dX1_badnessOf_11 rfl [some (.ref (ad κ b)), some (.int (nI i)), some (.int (nI j)), some (.int (m - (bo μ i j)))] rfl ?_
  refine ws_iload_n 12 C dX1_badnessOf_12 rfl ?_
  refine ws_if_ge 13 C 20 dX1_badnessOf_13 (by decide)  (fun c13 => ?_) (fun c13 => ?_)
  · skip
    refine ws_iload_n 20 C dX1_badnessOf_20 rfl ?_
    refine ws_aload_n 21 C dX1_badnessOf_21 rfl ?_
    refine ws_get 22 C dX1_badnessOf_22 fX1_21 hL rfl rfl ?_
    refine ws_iconst 25 C dX1_badnessOf_25 (nI 1) (by decide) ?_
    refine ws_isub 26 C dX1_badnessOf_26 (nI (mn μ - 1)) (pk_sub (by omega)) ?_
    refine ws_nicmp_ne 27 C 34 dX1_badnessOf_27 (by decide) (by omega) (by omega) (fun c27 => ?_) (fun c27 => ?_)
    · skip
      have hv : (m - bo μ i j) * (m - bo μ i j) = bad (bo μ) m (mn μ) i j := ((if_neg (Int32.not_lt.mpr c13)).trans (if_neg c27)).symm
      refine ws_iload_n 34 C dX1_badnessOf_34 rfl ?_
      refine ws_iload_n 35 C dX1_badnessOf_35 rfl ?_
      refine ws_imul 36 C dX1_badnessOf_36 ((m - (bo μ i j)) * (m - (bo μ i j))) rfl ?_
      exact ws_iret 37 C  dX1_badnessOf_37 rfl (Nat.le_refl _) (Nat.le_refl _) (by rw [hP]; exact ⟨congrArg (fun z => some (Value.int z)) (hv), rfl⟩)
    · skip
      have hv : nI 0 = bad (bo μ) m (mn μ) i j := ((if_neg (Int32.not_lt.mpr c13)).trans (if_pos c27)).symm
      refine ws_iconst 30 C dX1_badnessOf_30 (nI 0) (by decide) ?_
      refine ws_goto 31 C 37 dX1_badnessOf_31 (by decide) ?_
      exact ws_iret 37 C  dX1_badnessOf_37 rfl (Nat.le_refl _) (Nat.le_refl _) (by rw [hP]; exact ⟨congrArg (fun z => some (Value.int z)) (hv), rfl⟩)
  · skip
    refine ws_sipush 16 C dX1_badnessOf_16 (nI 10000) (by decide) ?_
    exact ws_iret 19 C  dX1_badnessOf_19 rfl (Nat.le_refl _) (Nat.le_refl _) (by rw [hP]; exact ⟨congrArg (fun z => some (Value.int z)) ((if_pos (Int32.not_le.mp c13)).symm), rfl⟩)

set_option maxRecDepth 100000 in
set_option maxHeartbeats 4000000 in
theorem c_X1_fillGreedily {b : Nat} {p l r s lf nx : Nat → Int32} {m lo ln : Int32} {μ : Mu} (hL : Ob z st0 b (bLy κ b p l r (nI (mn μ)) m (mv μ 0 1) lo s ln lf nx)) (hW : LyW μ p l r) (ho : Ok μ) : CT zl κ yX1_fillGreedily cX1_fillGreedily 2 none (r0 2 44) z [.ref (ad κ b)] st0 (PV (fun u => (∃ s, Ob z u b (bLy κ b p l r (nI (mn μ)) m (mv μ 0 1) lo s (nI (lno (gx (bo μ) m (mn μ)) (mn μ))) lf nx) ∧ LyB (gx (bo μ) m (mn μ)) (mn μ) (lno (gx (bo μ) m (mn μ)) (mn μ)) s) ∧ Fr (fun q : Nat => b ≤ q ∧ q < b + 7) st0 u)) := by
  obtain ⟨P, hP⟩ : ∃ P : Option Value → St → Prop, P = (PV (fun u => (∃ s, Ob z u b (bLy κ b p l r (nI (mn μ)) m (mv μ 0 1) lo s (nI (lno (gx (bo μ) m (mn μ)) (mn μ))) lf nx) ∧ LyB (gx (bo μ) m (mn μ)) (mn μ) (lno (gx (bo μ) m (mn μ)) (mn μ)) s) ∧ Fr (fun q : Nat => b ≤ q ∧ q < b + 7) st0 u)) := ⟨_, rfl⟩
  rw [← hP]
  refine CT.of (by decide +kernel) (Nat.le_of_ble_eq_true rfl) (fun zp ze zs zm zar zbe zme zc C _ => ?_)
  have C : Cx zp zs zm zar zme zc κ cX1_fillGreedily 2 RX1 none := C
  refine ws_lv (lv2 := [some (.ref (ad κ b)), none]) rfl ?_
  have h24 := ho.1
  have ha := gx_adv (bo μ) m (mn μ)
  have hF : Fr (fun q : Nat => b ≤ q ∧ q < b + 7) st0 st0 := Fr.rf
  refine ws_aload_n 0 C dX1_fillGreedily_0 rfl ?_
  refine ws_iconst 1 C dX1_fillGreedily_1 (nI 0) (by decide) ?_
  refine ws_put 2 C dX1_fillGreedily_2 fX1_37 q1_8 hL rfl (Nat.le_of_ble_eq_true rfl) rfl rfl (fun st1 est1 => ?_)
  have hL : Ob z st1 b (bLy κ b p l r (nI (mn μ)) m (mv μ 0 1) lo s (nI 0) lf nx) := Ob.put' (j := 0) hL est1 rfl
  have hF := hF.put' est1 (show b ≤ (b) ∧ (b) < b + 7 from by omega)
  refine ws_iconst 5 C dX1_fillGreedily_5 (nI 0) (by decide) ?_
  refine ws_istore_n 6 C dX1_fillGreedily_6 rfl [some (.ref (ad κ b)), some (.int (nI 0))] rfl ?_
  have L7 : ∀ k : Nat, k ≤ mn μ → ∀ (i : Nat), ∀ (s2 : Nat → Int32), ∀ (hi : FillI (gx (bo μ) m (mn μ)) (mn μ) k i), ∀ (hs : ∀ q, q < i → s2 q = nI (stt (gx (bo μ) m (mn μ)) q)), ∀ (st2 : St), ∀ (hL : Ob z st2 b (bLy κ b p l r (nI (mn μ)) m (mv μ 0 1) lo s2 (nI i) lf nx)), ∀ (hF : Fr (fun q : Nat => b ≤ q ∧ q < b + 7) st0 st2), WS zp zl ze (r0 2 44) zs zm zar zbe zme zc κ z 0 0 (QM zbe zar zs κ z (r0 2 44) P) st2 7 [some (.ref (ad κ b)), some (.int (nI k))] [] := by
    refine dnw ?_
    intro k hk ih7 i s2 hi hs st2 hL hF
    have hik := hi.1
    refine ws_iload_n 7 C dX1_fillGreedily_7 rfl ?_
    refine ws_aload_n 8 C dX1_fillGreedily_8 rfl ?_
    refine ws_get 9 C dX1_fillGreedily_9 fX1_21 hL rfl rfl ?_
    refine ws_nicmp_ge 12 C 71 dX1_fillGreedily_12 (by decide) (by omega) (by omega) (fun c12 => ?_) (fun c12 => ?_)
    · skip
      have hk0 : k = mn μ := by omega
      have hbr := hi.end ha hk0
      have hlno := hbr.is ha
      refine ws_aload_n 71 C dX1_fillGreedily_71 rfl ?_
      refine ws_get 72 C dX1_fillGreedily_72 fX1_34 hL rfl rfl ?_
      refine ws_aload_n 75 C dX1_fillGreedily_75 rfl ?_
      refine ws_get 76 C dX1_fillGreedily_76 fX1_37 hL rfl rfl ?_
      refine ws_aload_n 79 C dX1_fillGreedily_79 rfl ?_
      refine ws_get 80 C dX1_fillGreedily_80 fX1_21 hL rfl rfl ?_
      refine ws_iast 83 C dX1_fillGreedily_83 hL 4 rfl (vp_in_nI (by omega) (by decide)) i (nI_clamp (by omega)) (nI (mn μ)) rfl (fun st3 est3 => ?_)
      have hL : Ob z st3 b (bLy κ b p l r (nI (mn μ)) m (mv μ 0 1) lo (upd s2 i (nI (mn μ))) (nI i) lf nx) := Ob.put' (j := 4) hL est3 rfl
      have hF := hF.put' est3 (show b ≤ (b + 4) ∧ (b + 4) < b + 7 from by omega)
      exact ws_vret 84 C dX1_fillGreedily_84 rfl (Nat.le_refl _) (Nat.le_refl _) (by rw [hP]; exact ⟨rfl, ⟨(by rw [← hlno]; exact ⟨_, hL, LyB.of ha hbr hs⟩), hF⟩⟩)
    · skip
      have J45 : ∀ (he : stt (gx (bo μ) m (mn μ)) i = k), WS zp zl ze (r0 2 44) zs zm zar zbe zme zc κ z 0 0 (QM zbe zar zs κ z (r0 2 44) P) st2 45 [some (.ref (ad κ b)), some (.int (nI k))] [] := by
        intro he
        refine ws_aload_n 45 C dX1_fillGreedily_45 rfl ?_
        refine ws_get 46 C dX1_fillGreedily_46 fX1_34 hL rfl rfl ?_
        refine ws_aload_n 49 C dX1_fillGreedily_49 rfl ?_
        refine ws_get 50 C dX1_fillGreedily_50 fX1_37 hL rfl rfl ?_
        refine ws_iload_n 53 C dX1_fillGreedily_53 rfl ?_
        refine ws_iast 54 C dX1_fillGreedily_54 hL 4 rfl (vp_in_nI (by omega) (by decide)) i (nI_clamp (by omega)) (nI k) rfl (fun st4 est4 => ?_)
        have hL : Ob z st4 b (bLy κ b p l r (nI (mn μ)) m (mv μ 0 1) lo (upd s2 i (nI k)) (nI i) lf nx) := Ob.put' (j := 4) hL est4 rfl
        have hF := hF.put' est4 (show b ≤ (b + 4) ∧ (b + 4) < b + 7 from by omega)
        refine ws_aload_n 55 C dX1_fillGreedily_55 rfl ?_
        refine ws_dup 56 C dX1_fillGreedily_56 rfl ?_
        refine ws_get 57 C dX1_fillGreedily_57 fX1_37 hL rfl rfl ?_
        refine ws_iconst 60 C dX1_fillGreedily_60 (nI 1) (by decide) ?_
        refine ws_iadd 61 C dX1_fillGreedily_61 (nI (i + 1)) (nI_add _ _) ?_
        refine ws_put 62 C dX1_fillGreedily_62 fX1_37 q1_8 hL rfl (Nat.le_of_ble_eq_true rfl) rfl rfl (fun st5 est5 => ?_)
        have hL : Ob z st5 b (bLy κ b p l r (nI (mn μ)) m (mv μ 0 1) lo (upd s2 i (nI k)) (nI (i + 1)) lf nx) := Ob.put' (j := 0) hL est5 rfl
        have hF := hF.put' est5 (show b ≤ (b) ∧ (b) < b + 7 from by omega)
        refine ws_iinc 65 C dX1_fillGreedily_65 rfl (nI (k + 1)) (nI_1 _) rfl [some (.ref (ad κ b)), some (.int (nI (k + 1)))] rfl ?_
        refine ws_goto 68 C 7 dX1_fillGreedily_68 (by decide) ?_
        exact ih7 c12 (i + 1) (upd s2 i (nI k)) (hi.new ha c12 he) (upd_lt hs (congrArg nI he.symm)) st5 hL hF
      refine ws_aload_n 15 C dX1_fillGreedily_15 rfl ?_
      refine ws_get 16 C dX1_fillGreedily_16 fX1_37 hL rfl rfl ?_
      refine ws_nif_eq 19 C 45 dX1_fillGreedily_19 (by decide) (by omega) (fun c19 => ?_) (fun c19 => ?_)
      · skip
        have he : stt (gx (bo μ) m (mn μ)) i = k := by rcases hi.2 with ⟨a, b⟩ | ⟨a, b⟩ <;> (subst c19; first | exact a.symm | omega)
        exact J45 he
      · skip
        obtain ⟨h0, h1, h2, h3⟩ : 0 < i ∧ stt (gx (bo μ) m (mn μ)) (i - 1) < k ∧ k ≤ (gx (bo μ) m (mn μ)) (stt (gx (bo μ) m (mn μ)) (i - 1)) ∧ ∀ q, q < i → stt (gx (bo μ) m (mn μ)) q < k := by rcases hi.2 with ⟨a, b⟩ | h; exact absurd b c19; exact h
        refine ws_aload_n 22 C dX1_fillGreedily_22 rfl ?_
        refine ws_aload_n 23 C dX1_fillGreedily_23 rfl ?_
        refine ws_get 24 C dX1_fillGreedily_24 fX1_34 hL rfl rfl ?_
        refine ws_aload_n 27 C dX1_fillGreedily_27 rfl ?_
        refine ws_get 28 C dX1_fillGreedily_28 fX1_37 hL rfl rfl ?_
        refine ws_iconst 31 C dX1_fillGreedily_31 (nI 1) (by decide) ?_
        refine ws_isub 32 C dX1_fillGreedily_32 (nI (i - 1)) (pk_sub (by omega)) ?_
        refine ws_iald 33 C dX1_fillGreedily_33 hL 4 rfl (vp_in_nI (by omega) (by decide)) (nI (stt (gx (bo μ) m (mn μ)) (i - 1))) ((congrArg s2 (nI_clamp (by omega))).trans (hs _ (by omega))) ?_
        refine ws_iload_n 34 C dX1_fillGreedily_34 rfl ?_
        refine ws_callV0 35 C dX1_fillGreedily_35 vX1_66 (c_X1_bodyOf hL hW ho (Nat.le_of_lt h1) c12) rfl hL rfl rfl ⟨by decide, by decide⟩ ⟨Nat.zero_le _, Nat.zero_le _⟩ rfl rfl rfl (kR ?_)
        refine ws_aload_n 38 C dX1_fillGreedily_38 rfl ?_
        refine ws_get 39 C dX1_fillGreedily_39 fX1_25 hL rfl rfl ?_
        refine ws_icmp_le 42 C 65 dX1_fillGreedily_42 (by decide)  (fun c42 => ?_) (fun c42 => ?_)
        · skip
          refine ws_iinc 65 C dX1_fillGreedily_65 rfl (nI (k + 1)) (nI_1 _) rfl [some (.ref (ad κ b)), some (.int (nI (k + 1)))] rfl ?_
          refine ws_goto 68 C 7 dX1_fillGreedily_68 (by decide) ?_
          exact ih7 c12 i s2 (hi.go h0 (fill_go c12 h0 h1 h2 c42)) hs st2 hL hF
        · skip
          have he := fill_new c12 h0 h1 h2 c42
          exact J45 he
  exact L7 0 (Nat.zero_le _) 0 s (⟨Nat.le_refl _, Or.inl ⟨rfl, rfl⟩⟩) (fun q hq => (by omega)) st1 hL hF

set_option maxRecDepth 100000 in
set_option maxHeartbeats 4000000 in
theorem c_X1_findFirstLine {b : Nat} {p l r s lf nx : Nat → Int32} {m lo ln : Int32} {μ : Mu} (hL : Ob z st0 b (bLy κ b p l r (nI (mn μ)) m (mv μ 0 1) lo s ln lf nx)) (hW : LyW μ p l r) (ho : Ok μ) {k : Nat} (hk : k < mn μ) (T : Nat → Int32) (hT : ∀ q, k < q → q ≤ mn μ → lf q = T q) : CT zl κ yX1_findFirstLine cX1_findFirstLine 4 none (r0 3 67) z [.ref (ad κ b), .int (nI k)] st0 (PV (fun u => (∃ lf2 nx2, Ob z u b (bLy κ b p l r (nI (mn μ)) m (mv μ 0 1) lo s ln lf2 nx2) ∧ lf2 k = (inn (bo μ) m (mn μ) T k (gx (bo μ) m (mn μ) k - k - 1)).1 ∧ nx2 k = nI (inn (bo μ) m (mn μ) T k (gx (bo μ) m (mn μ) k - k - 1)).2 ∧ ∀ q, q ≠ k → lf2 q = lf q ∧ nx2 q = nx q) ∧ Fr (fun q : Nat => b ≤ q ∧ q < b + 7) st0 u)) := by
  obtain ⟨P, hP⟩ : ∃ P : Option Value → St → Prop, P = (PV (fun u => (∃ lf2 nx2, Ob z u b (bLy κ b p l r (nI (mn μ)) m (mv μ 0 1) lo s ln lf2 nx2) ∧ lf2 k = (inn (bo μ) m (mn μ) T k (gx (bo μ) m (mn μ) k - k - 1)).1 ∧ nx2 k = nI (inn (bo μ) m (mn μ) T k (gx (bo μ) m (mn μ) k - k - 1)).2 ∧ ∀ q, q ≠ k → lf2 q = lf q ∧ nx2 q = nx q) ∧ Fr (fun q : Nat => b ≤ q ∧ q < b + 7) st0 u)) := ⟨_, rfl⟩
  rw [← hP]
  refine CT.of (by decide +kernel) (Nat.le_of_ble_eq_true rfl) (fun zp ze zs zm zar zbe zme zc C _ => ?_)
  have C : Cx zp zs zm zar zme zc κ cX1_findFirstLine 4 RX1 none := C
  refine ws_lv (lv2 := [some (.ref (ad κ b)), some (.int (nI k)), none, none]) rfl ?_
  have h24 := ho.1
  have hF : Fr (fun q : Nat => b ≤ q ∧ q < b + 7) st0 st0 := Fr.rf
  refine ws_aload_n 0 C dX1_findFirstLine_0 rfl ?_
  refine ws_get 1 C dX1_findFirstLine_1 fX1_40 hL rfl rfl ?_
  refine ws_iload_n 4 C dX1_findFirstLine_4 rfl ?_
  refine ws_aload_n 5 C dX1_findFirstLine_5 rfl ?_
  refine ws_iload_n 6 C dX1_findFirstLine_6 rfl ?_
  refine ws_iload_n 7 C dX1_findFirstLine_7 rfl ?_
  refine ws_callV0 8 C dX1_findFirstLine_8 vX1_77 (c_X1_badnessOf hL hW ho (Nat.le_refl k) hk) rfl hL rfl rfl ⟨by decide, by decide⟩ ⟨Nat.zero_le _, Nat.zero_le _⟩ rfl rfl rfl (kR ?_)
  refine ws_aload_n 11 C dX1_findFirstLine_11 rfl ?_
  refine ws_get 12 C dX1_findFirstLine_12 fX1_40 hL rfl rfl ?_
  refine ws_iload_n 15 C dX1_findFirstLine_15 rfl ?_
  refine ws_iconst 16 C dX1_findFirstLine_16 (nI 1) (by decide) ?_
  refine ws_iadd 17 C dX1_findFirstLine_17 (nI (k + 1)) (nI_add _ _) ?_
  refine ws_iald 18 C dX1_findFirstLine_18 hL 5 rfl (vp_in_nI (by omega) (by decide)) (T (k + 1)) ((congrArg lf (nI_clamp (by omega))).trans (hT _ (by omega) (by omega))) ?_
  refine ws_iadd 19 C dX1_findFirstLine_19 ((bad (bo μ) m (mn μ) k k) + (T (k + 1))) rfl ?_
  refine ws_iast 20 C dX1_findFirstLine_20 hL 5 rfl (vp_in_nI (by omega) (by decide)) k (nI_clamp (by omega)) ((bad (bo μ) m (mn μ) k k) + (T (k + 1))) rfl (fun st1 est1 => ?_)
  have hL : Ob z st1 b (bLy κ b p l r (nI (mn μ)) m (mv μ 0 1) lo s ln (upd lf k ((bad (bo μ) m (mn μ) k k) + (T (k + 1)))) nx) := Ob.put' (j := 5) hL est1 rfl
  have hF := hF.put' est1 (show b ≤ (b + 5) ∧ (b + 5) < b + 7 from by omega)
  refine ws_aload_n 21 C dX1_findFirstLine_21 rfl ?_
  refine ws_get 22 C dX1_findFirstLine_22 fX1_43 hL rfl rfl ?_
  refine ws_iload_n 25 C dX1_findFirstLine_25 rfl ?_
  refine ws_iload_n 26 C dX1_findFirstLine_26 rfl ?_
  refine ws_iconst 27 C dX1_findFirstLine_27 (nI 1) (by decide) ?_
  refine ws_iadd 28 C dX1_findFirstLine_28 (nI (k + 1)) (nI_add _ _) ?_
  refine ws_iast 29 C dX1_findFirstLine_29 hL 6 rfl (vp_in_nI (by omega) (by decide)) k (nI_clamp (by omega)) (nI (k + 1)) rfl (fun st2 est2 => ?_)
  have hL : Ob z st2 b (bLy κ b p l r (nI (mn μ)) m (mv μ 0 1) lo s ln (upd lf k ((bad (bo μ) m (mn μ) k k) + (T (k + 1)))) (upd nx k (nI (k + 1)))) := Ob.put' (j := 6) hL est2 rfl
  have hF := hF.put' est2 (show b ≤ (b + 6) ∧ (b + 6) < b + 7 from by omega)
  refine ws_iload_n 30 C dX1_findFirstLine_30 rfl ?_
  refine ws_iconst 31 C dX1_findFirstLine_31 (nI 1) (by decide) ?_
  refine ws_iadd 32 C dX1_findFirstLine_32 (nI (k + 1)) (nI_add _ _) ?_
  refine ws_istore_n 33 C dX1_findFirstLine_33 rfl [some (.ref (ad κ b)), some (.int (nI k)), some (.int (nI (k + 1))), none] rfl ?_
  have L34 : ∀ t : Nat, t ≤ mn μ - 1 - k → ∀ (lf2 : Nat → Int32), ∀ (nx2 : Nat → Int32), ∀ (h1 : lf2 k = (inn (bo μ) m (mn μ) T k t).1), ∀ (h2 : nx2 k = nI (inn (bo μ) m (mn μ) T k t).2), ∀ (h3 : ∀ q, q ≠ k → lf2 q = lf q ∧ nx2 q = nx q), ∀ (h4 : ∀ j, k < j → j ≤ k + t → bo μ k j ≤ m), ∀ (st3 : St), ∀ (hL : Ob z st3 b (bLy κ b p l r (nI (mn μ)) m (mv μ 0 1) lo s ln lf2 nx2)), ∀ (hF : Fr (fun q : Nat => b ≤ q ∧ q < b + 7) st0 st3), WS zp zl ze (r0 3 67) zs zm zar zbe zme zc κ z 0 0 (QM zbe zar zs κ z (r0 3 67) P) st3 34 [some (.ref (ad κ b)), some (.int (nI k)), some (.int (nI (k + t + 1))), none] [] := by
    refine dnw ?_
    intro t ht ih34 lf2 nx2 h1 h2 h3 h4 st3 hL hF
    refine ws_iload_n 34 C dX1_findFirstLine_34 rfl ?_
    refine ws_aload_n 35 C dX1_findFirstLine_35 rfl ?_
    refine ws_get 36 C dX1_findFirstLine_36 fX1_21 hL rfl rfl ?_
    refine ws_nicmp_ge 39 C 103 dX1_findFirstLine_39 (by decide) (by omega) (by omega) (fun c39 => ?_) (fun c39 => ?_)
    · skip
      have hg : gx (bo μ) m (mn μ) k = k + t + 1 := gx_is hk (by omega) (by omega) (fun j h5 h6 => h4 j h5 (by omega)) (Or.inl (by omega))
      exact ws_vret 103 C dX1_findFirstLine_103 rfl (Nat.le_refl _) (Nat.le_refl _) (by rw [hP]; exact ⟨rfl, ⟨⟨_, _, hL, (by rw [hg, show k + t + 1 - k - 1 = t from by omega]; exact h1), (by rw [hg, show k + t + 1 - k - 1 = t from by omega]; exact h2), h3⟩, hF⟩⟩)
    · skip
      refine ws_aload_n 42 C dX1_findFirstLine_42 rfl ?_
      refine ws_iload_n 43 C dX1_findFirstLine_43 rfl ?_
      refine ws_iload_n 44 C dX1_findFirstLine_44 rfl ?_
      refine ws_callV0 45 C dX1_findFirstLine_45 vX1_66 (c_X1_bodyOf hL hW ho (show k ≤ k + t + 1 from by omega) c39) rfl hL rfl rfl ⟨by decide, by decide⟩ ⟨Nat.zero_le _, Nat.zero_le _⟩ rfl rfl rfl (kR ?_)
      refine ws_aload_n 48 C dX1_findFirstLine_48 rfl ?_
      refine ws_get 49 C dX1_findFirstLine_49 fX1_25 hL rfl rfl ?_
      refine ws_icmp_gt 52 C 103 dX1_findFirstLine_52 (by decide)  (fun c52 => ?_) (fun c52 => ?_)
      · skip
        have hg : gx (bo μ) m (mn μ) k = k + t + 1 := gx_is hk (by omega) (by omega) (fun j h5 h6 => h4 j h5 (by omega)) (Or.inr (Int32.not_le.mpr c52))
        exact ws_vret 103 C dX1_findFirstLine_103 rfl (Nat.le_refl _) (Nat.le_refl _) (by rw [hP]; exact ⟨rfl, ⟨⟨_, _, hL, (by rw [hg, show k + t + 1 - k - 1 = t from by omega]; exact h1), (by rw [hg, show k + t + 1 - k - 1 = t from by omega]; exact h2), h3⟩, hF⟩⟩)
      · skip
        have h4b : ∀ j, k < j → j ≤ k + (t + 1) → bo μ k j ≤ m := fun j h5 h6 => (by rcases Nat.lt_or_ge j (k + t + 1) with g | g; exact h4 j h5 (by omega); rw [show j = k + t + 1 from by omega]; exact Int32.not_lt.mp c52)
        refine ws_aload_n 55 C dX1_findFirstLine_55 rfl ?_
        refine ws_iload_n 56 C dX1_findFirstLine_56 rfl ?_
        refine ws_iload_n 57 C dX1_findFirstLine_57 rfl ?_
        refine ws_callV0 58 C dX1_findFirstLine_58 vX1_77 (c_X1_badnessOf hL hW ho (show k ≤ k + t + 1 from by omega) c39) rfl hL rfl rfl ⟨by decide, by decide⟩ ⟨Nat.zero_le _, Nat.zero_le _⟩ rfl rfl rfl (kR ?_)
        refine ws_aload_n 61 C dX1_findFirstLine_61 rfl ?_
        refine ws_get 62 C dX1_findFirstLine_62 fX1_40 hL rfl rfl ?_
        refine ws_iload_n 65 C dX1_findFirstLine_65 rfl ?_
        refine ws_iconst 66 C dX1_findFirstLine_66 (nI 1) (by decide) ?_
        refine ws_iadd 67 C dX1_findFirstLine_67 (nI (k + t + 1 + 1)) (nI_add _ _) ?_
        refine ws_iald 68 C dX1_findFirstLine_68 hL 5 rfl (vp_in_nI (by omega) (by decide)) (T (k + t + 2)) ((congrArg lf2 (nI_clamp (by omega))).trans ((h3 _ (by omega)).1.trans (hT _ (by omega) (by omega)))) ?_
        refine ws_iadd 69 C dX1_findFirstLine_69 ((bad (bo μ) m (mn μ) k (k + t + 1)) + (T (k + t + 2))) rfl ?_
        refine ws_istore_n 70 C dX1_findFirstLine_70 rfl [some (.ref (ad κ b)), some (.int (nI k)), some (.int (nI (k + t + 1))), some (.int ((bad (bo μ) m (mn μ) k (k + t + 1)) + (T (k + t + 2))))] rfl ?_
        refine ws_iload_n 71 C dX1_findFirstLine_71 rfl ?_
        refine ws_aload_n 72 C dX1_findFirstLine_72 rfl ?_
        refine ws_get 73 C dX1_findFirstLine_73 fX1_40 hL rfl rfl ?_
        refine ws_iload_n 76 C dX1_findFirstLine_76 rfl ?_
        refine ws_iald 77 C dX1_findFirstLine_77 hL 5 rfl (vp_in_nI (by omega) (by decide)) ((inn (bo μ) m (mn μ) T k t).1) ((congrArg lf2 (nI_clamp (by omega))).trans (h1)) ?_
        refine ws_icmp_gt 78 C 97 dX1_findFirstLine_78 (by decide)  (fun c78 => ?_) (fun c78 => ?_)
        · skip
          refine ws_iinc 97 C dX1_findFirstLine_97 rfl (nI (k + t + 1 + 1)) (nI_1 _) rfl [some (.ref (ad κ b)), some (.int (nI k)), some (.int (nI (k + t + 1 + 1))), some (.int ((bad (bo μ) m (mn μ) k (k + t + 1)) + (T (k + t + 2))))] rfl ?_
          refine ws_goto 100 C 34 dX1_findFirstLine_100 (by decide) ?_
          refine ws_wk (lv2 := [some (.ref (ad κ b)), some (.int (nI k)), some (.int (nI (k + t + 1 + 1))), none]) ⟨rfl, rfl, rfl, trivial⟩ ?_
          exact ih34 (by omega) lf2 nx2 (by rw [inn_no (Int32.not_le.mpr c78)]; exact h1) (by rw [inn_no (Int32.not_le.mpr c78)]; exact h2) h3 h4b st3 hL hF
        · skip
          have hin := inn_yes (Int32.not_lt.mp c78)
          refine ws_aload_n 81 C dX1_findFirstLine_81 rfl ?_
          refine ws_get 82 C dX1_findFirstLine_82 fX1_40 hL rfl rfl ?_
          refine ws_iload_n 85 C dX1_findFirstLine_85 rfl ?_
          refine ws_iload_n 86 C dX1_findFirstLine_86 rfl ?_
          refine ws_iast 87 C dX1_findFirstLine_87 hL 5 rfl (vp_in_nI (by omega) (by decide)) k (nI_clamp (by omega)) ((bad (bo μ) m (mn μ) k (k + t + 1)) + (T (k + t + 2))) rfl (fun st4 est4 => ?_)
          have hL : Ob z st4 b (bLy κ b p l r (nI (mn μ)) m (mv μ 0 1) lo s ln (upd lf2 k ((bad (bo μ) m (mn μ) k (k + t + 1)) + (T (k + t + 2)))) nx2) := Ob.put' (j := 5) hL est4 rfl
          have hF := hF.put' est4 (show b ≤ (b + 5) ∧ (b + 5) < b + 7 from by omega)
          refine ws_aload_n 88 C dX1_findFirstLine_88 rfl ?_
          refine ws_get 89 C dX1_findFirstLine_89 fX1_43 hL rfl rfl ?_
          refine ws_iload_n 92 C dX1_findFirstLine_92 rfl ?_
          refine ws_iload_n 93 C dX1_findFirstLine_93 rfl ?_
          refine ws_iconst 94 C dX1_findFirstLine_94 (nI 1) (by decide) ?_
          refine ws_iadd 95 C dX1_findFirstLine_95 (nI (k + t + 1 + 1)) (nI_add _ _) ?_
          refine ws_iast 96 C dX1_findFirstLine_96 hL 6 rfl (vp_in_nI (by omega) (by decide)) k (nI_clamp (by omega)) (nI (k + t + 1 + 1)) rfl (fun st5 est5 => ?_)
          have hL : Ob z st5 b (bLy κ b p l r (nI (mn μ)) m (mv μ 0 1) lo s ln (upd lf2 k ((bad (bo μ) m (mn μ) k (k + t + 1)) + (T (k + t + 2)))) (upd nx2 k (nI (k + t + 1 + 1)))) := Ob.put' (j := 6) hL est5 rfl
          have hF := hF.put' est5 (show b ≤ (b + 6) ∧ (b + 6) < b + 7 from by omega)
          refine ws_iinc 97 C dX1_findFirstLine_97 rfl (nI (k + t + 1 + 1)) (nI_1 _) rfl [some (.ref (ad κ b)), some (.int (nI k)), some (.int (nI (k + t + 1 + 1))), some (.int ((bad (bo μ) m (mn μ) k (k + t + 1)) + (T (k + t + 2))))] rfl ?_
          refine ws_goto 100 C 34 dX1_findFirstLine_100 (by decide) ?_
          refine ws_wk (lv2 := [some (.ref (ad κ b)), some (.int (nI k)), some (.int (nI (k + t + 1 + 1))), none]) ⟨rfl, rfl, rfl, trivial⟩ ?_
          exact ih34 (by omega) (upd lf2 k ((bad (bo μ) m (mn μ) k (k + t + 1)) + (T (k + t + 2)))) (upd nx2 k (nI (k + t + 1 + 1))) (by rw [hin]; exact pk_us) (by rw [hin]; exact pk_us) (fun q hq => ⟨(pk_un hq).trans (h3 q hq).1, (pk_un hq).trans (h3 q hq).2⟩) h4b st5 hL hF
  exact L34 0 (Nat.zero_le _) (upd lf k ((bad (bo μ) m (mn μ) k k) + (T (k + 1)))) (upd nx k (nI (k + 1))) pk_us pk_us (fun q hq => ⟨pk_un hq, pk_un hq⟩) (fun j h5 h6 => (by omega)) st2 hL hF

set_option maxRecDepth 100000 in
set_option maxHeartbeats 4000000 in
theorem c_X1_leastBadness {b : Nat} {p l r s lf nx : Nat → Int32} {m lo ln : Int32} {μ : Mu} (hL : Ob z st0 b (bLy κ b p l r (nI (mn μ)) m (mv μ 0 1) lo s ln lf nx)) (hW : LyW μ p l r) (ho : Ok μ) : CT zl κ yX1_leastBadness cX1_leastBadness 2 (some .int) (r0 4 90) z [.ref (ad κ b)] st0 (PI (fun rr u => (rr = lfm (bo μ) m (mn μ) 0 ∧ ∃ lf nx, Ob z u b (bLy κ b p l r (nI (mn μ)) m (mv μ 0 1) lo s ln lf nx) ∧ ∀ k, k < mn μ → nx k = nI (nb (bo μ) m (mn μ) k)) ∧ Fr (fun q : Nat => b ≤ q ∧ q < b + 7) st0 u)) := by
  obtain ⟨P, hP⟩ : ∃ P : Option Value → St → Prop, P = (PI (fun rr u => (rr = lfm (bo μ) m (mn μ) 0 ∧ ∃ lf nx, Ob z u b (bLy κ b p l r (nI (mn μ)) m (mv μ 0 1) lo s ln lf nx) ∧ ∀ k, k < mn μ → nx k = nI (nb (bo μ) m (mn μ) k)) ∧ Fr (fun q : Nat => b ≤ q ∧ q < b + 7) st0 u)) := ⟨_, rfl⟩
  rw [← hP]
  refine CT.of (by decide +kernel) (Nat.le_of_ble_eq_true rfl) (fun zp ze zs zm zar zbe zme zc C _ => ?_)
  have C : Cx zp zs zm zar zme zc κ cX1_leastBadness 2 RX1 (some .int) := C
  refine ws_lv (lv2 := [some (.ref (ad κ b)), none]) rfl ?_
  have h24 := ho.1
  have hF : Fr (fun q : Nat => b ≤ q ∧ q < b + 7) st0 st0 := Fr.rf
  refine ws_aload_n 0 C dX1_leastBadness_0 rfl ?_
  refine ws_get 1 C dX1_leastBadness_1 fX1_40 hL rfl rfl ?_
  refine ws_aload_n 4 C dX1_leastBadness_4 rfl ?_
  refine ws_get 5 C dX1_leastBadness_5 fX1_21 hL rfl rfl ?_
  refine ws_iconst 8 C dX1_leastBadness_8 (nI 0) (by decide) ?_
  refine ws_iast 9 C dX1_leastBadness_9 hL 5 rfl (vp_in_nI (by omega) (by decide)) (mn μ) (nI_clamp (by omega)) (nI 0) rfl (fun st1 est1 => ?_)
  have hL : Ob z st1 b (bLy κ b p l r (nI (mn μ)) m (mv μ 0 1) lo s ln (upd lf (mn μ) (nI 0)) nx) := Ob.put' (j := 5) hL est1 rfl
  have hF := hF.put' est1 (show b ≤ (b + 5) ∧ (b + 5) < b + 7 from by omega)
  refine ws_aload_n 10 C dX1_leastBadness_10 rfl ?_
  refine ws_get 11 C dX1_leastBadness_11 fX1_21 hL rfl rfl ?_
  refine ws_iconst 14 C dX1_leastBadness_14 (nI 1) (by decide) ?_
  refine ws_isub 15 C dX1_leastBadness_15 (nI (mn μ - 0) - nI 1) rfl ?_
  refine ws_istore_n 16 C dX1_leastBadness_16 rfl [some (.ref (ad κ b)), some (.int (nI (mn μ - 0) - nI 1))] rfl ?_
  have L17 : ∀ d : Nat, d ≤ mn μ → ∀ (x : Int32), ∀ (lf2 : Nat → Int32), ∀ (nx2 : Nat → Int32), ∀ (hx : x = nI (mn μ - d) - nI 1), ∀ (h1 : ∀ q, mn μ - d ≤ q → q ≤ mn μ → lf2 q = (bv (bo μ) m (mn μ) d).1 q), ∀ (h2 : ∀ q, mn μ - d ≤ q → q < mn μ → nx2 q = nI ((bv (bo μ) m (mn μ) d).2 q)), ∀ (st2 : St), ∀ (hL : Ob z st2 b (bLy κ b p l r (nI (mn μ)) m (mv μ 0 1) lo s ln lf2 nx2)), ∀ (hF : Fr (fun q : Nat => b ≤ q ∧ q < b + 7) st0 st2), WS zp zl ze (r0 4 90) zs zm zar zbe zme zc κ z 0 0 (QM zbe zar zs κ z (r0 4 90) P) st2 17 [some (.ref (ad κ b)), some (.int (x))] [] := by
    refine dnw ?_
    intro d hd ih17 x lf2 nx2 hx h1 h2 st2 hL hF
    refine ws_iload_n 17 C dX1_leastBadness_17 rfl ?_
    refine ws_if_lt 18 C 32 dX1_leastBadness_18 (by decide)  (fun c18 => ?_) (fun c18 => ?_)
    · skip
      have hd0 : d = mn μ := down_lt hx h24 c18 hd
      refine ws_aload_n 32 C dX1_leastBadness_32 rfl ?_
      refine ws_get 33 C dX1_leastBadness_33 fX1_40 hL rfl rfl ?_
      refine ws_iconst 36 C dX1_leastBadness_36 (nI 0) (by decide) ?_
      refine ws_iald 37 C dX1_leastBadness_37 hL 5 rfl (vp_in_nI (by omega) (by decide)) (lfm (bo μ) m (mn μ) 0) ((congrArg lf2 (nI_clamp (by omega))).trans ((h1 0 (by omega) (Nat.zero_le _)).trans (by rw [hd0]; rfl))) ?_
      exact ws_iret 38 C  dX1_leastBadness_38 rfl (Nat.le_refl _) (Nat.le_refl _) (by rw [hP]; exact ⟨lfm (bo μ) m (mn μ) 0, rfl, ⟨⟨rfl, _, _, hL, fun q hq => (h2 q (by omega) hq).trans (by rw [hd0]; rfl)⟩, hF⟩⟩)
    · skip
      have hdn := down_ge hx h24 c18
      refine ws_wk (lv2 := [some (.ref (ad κ b)), some (.int (nI (mn μ - 1 - d)))]) ⟨rfl, (congrArg Value.int hdn.2), trivial⟩ ?_
      refine ws_aload_n 21 C dX1_leastBadness_21 rfl ?_
      refine ws_iload_n 22 C dX1_leastBadness_22 rfl ?_
      have hdl := hdn.1
      refine ws_callV0 23 C dX1_leastBadness_23 vX1_73 (c_X1_findFirstLine hL hW ho (k := mn μ - 1 - d) (by omega) (bv (bo μ) m (mn μ) d).1 (fun q hq hq2 => h1 q (by omega) hq2)) rfl hL rfl rfl ⟨by decide, by decide⟩ ⟨Nat.zero_le _, Nat.zero_le _⟩ rfl rfl rfl (kV (fun u23 h23 => ?_))
      obtain ⟨⟨lf3, nx3, hL, g1, g2, g3⟩, hfr⟩ := h23
      have hF := hF.then hfr (fun q (hq : b ≤ q ∧ q < b + 7) => (show b ≤ q ∧ q < b + 7 from by omega))
      refine ws_iinc 26 C dX1_leastBadness_26 rfl (nI (mn μ - 1 - d) - nI 1) (dec1 _) rfl [some (.ref (ad κ b)), some (.int (nI (mn μ - 1 - d) - nI 1))] rfl ?_
      refine ws_goto 29 C 17 dX1_leastBadness_29 (by decide) ?_
      exact ih17 hdn.1 (nI (mn μ - 1 - d) - nI 1) lf3 nx3 (by rw [show mn μ - 1 - d = mn μ - (d + 1) from by omega]) (best_1 hdn.1 h1 g1 (fun q hq => (g3 q hq).1)) (best_2 hdn.1 h2 g2 (fun q hq => (g3 q hq).2)) u23 hL hF
  exact L17 0 (Nat.zero_le _) (nI (mn μ - 0) - nI 1) (upd lf (mn μ) (nI 0)) nx rfl (fun q h1 h2 => (by rw [show q = mn μ from by omega]; exact pk_us)) (fun q h1 h2 => (by omega)) st1 hL hF

set_option maxRecDepth 100000 in
set_option maxHeartbeats 4000000 in
theorem c_X1_breakBest {b : Nat} {p l r s lf nx : Nat → Int32} {m lo ln : Int32} {μ : Mu} (hL : Ob z st0 b (bLy κ b p l r (nI (mn μ)) m (mv μ 0 1) lo s ln lf nx)) (hW : LyW μ p l r) (ho : Ok μ) : CT zl κ yX1_breakBest cX1_breakBest 3 none (r0 5 111) z [.ref (ad κ b)] st0 (PV (fun u => (∃ s lf nx, Ob z u b (bLy κ b p l r (nI (mn μ)) m (mv μ 0 1) lo s (nI (lno (nb (bo μ) m (mn μ)) (mn μ))) lf nx) ∧ LyB (nb (bo μ) m (mn μ)) (mn μ) (lno (nb (bo μ) m (mn μ)) (mn μ)) s) ∧ Fr (fun q : Nat => b ≤ q ∧ q < b + 7) st0 u)) := by
  obtain ⟨P, hP⟩ : ∃ P : Option Value → St → Prop, P = (PV (fun u => (∃ s lf nx, Ob z u b (bLy κ b p l r (nI (mn μ)) m (mv μ 0 1) lo s (nI (lno (nb (bo μ) m (mn μ)) (mn μ))) lf nx) ∧ LyB (nb (bo μ) m (mn μ)) (mn μ) (lno (nb (bo μ) m (mn μ)) (mn μ)) s) ∧ Fr (fun q : Nat => b ≤ q ∧ q < b + 7) st0 u)) := ⟨_, rfl⟩
  rw [← hP]
  refine CT.of (by decide +kernel) (Nat.le_of_ble_eq_true rfl) (fun zp ze zs zm zar zbe zme zc C _ => ?_)
  have C : Cx zp zs zm zar zme zc κ cX1_breakBest 3 RX1 none := C
  refine ws_lv (lv2 := [some (.ref (ad κ b)), none, none]) rfl ?_
  have h24 := ho.1
  have ha := nb_adv (bo μ) m (mn μ)
  have hF : Fr (fun q : Nat => b ≤ q ∧ q < b + 7) st0 st0 := Fr.rf
  refine ws_aload_n 0 C dX1_breakBest_0 rfl ?_
  refine ws_callV0 1 C dX1_breakBest_1 vX1_69 (c_X1_leastBadness hL hW ho) rfl hL rfl rfl ⟨by decide, by decide⟩ ⟨Nat.zero_le _, Nat.zero_le _⟩ rfl rfl rfl (kI' (fun r1 u1 h1 => ?_))
  obtain ⟨⟨hr, lf3, nx3, hL, hnx⟩, hfr⟩ := h1
  have hF := hF.then hfr (fun q (hq : b ≤ q ∧ q < b + 7) => (show b ≤ q ∧ q < b + 7 from by omega))
  refine ws_pop 4 C dX1_breakBest_4 rfl ?_
  refine ws_aload_n 5 C dX1_breakBest_5 rfl ?_
  refine ws_iconst 6 C dX1_breakBest_6 (nI 0) (by decide) ?_
  refine ws_put 7 C dX1_breakBest_7 fX1_37 q1_8 hL rfl (Nat.le_of_ble_eq_true rfl) rfl rfl (fun st1 est1 => ?_)
  have hL : Ob z st1 b (bLy κ b p l r (nI (mn μ)) m (mv μ 0 1) lo s (nI 0) lf3 nx3) := Ob.put' (j := 0) hL est1 rfl
  have hF := hF.put' est1 (show b ≤ (b) ∧ (b) < b + 7 from by omega)
  refine ws_iconst 10 C dX1_breakBest_10 (nI 0) (by decide) ?_
  refine ws_istore_n 11 C dX1_breakBest_11 rfl [some (.ref (ad κ b)), some (.int (nI 0)), none] rfl ?_
  refine ws_iconst 12 C dX1_breakBest_12 (nI 0) (by decide) ?_
  refine ws_istore_n 13 C dX1_breakBest_13 rfl [some (.ref (ad κ b)), some (.int (nI 0)), some (.int (nI 0))] rfl ?_
  have L14 : ∀ k : Nat, k ≤ mn μ → ∀ (i : Nat), ∀ (s2 : Nat → Int32), ∀ (h0 : i ≤ k), ∀ (h1 : k ≤ stt (nb (bo μ) m (mn μ)) i ∧ stt (nb (bo μ) m (mn μ)) i ≤ mn μ), ∀ (h2 : ∀ q, q < i → stt (nb (bo μ) m (mn μ)) q < k), ∀ (hs : ∀ q, q < i → s2 q = nI (stt (nb (bo μ) m (mn μ)) q)), ∀ (st2 : St), ∀ (hL : Ob z st2 b (bLy κ b p l r (nI (mn μ)) m (mv μ 0 1) lo s2 (nI i) lf3 nx3)), ∀ (hF : Fr (fun q : Nat => b ≤ q ∧ q < b + 7) st0 st2), WS zp zl ze (r0 5 111) zs zm zar zbe zme zc κ z 0 0 (QM zbe zar zs κ z (r0 5 111) P) st2 14 [some (.ref (ad κ b)), some (.int (nI (stt (nb (bo μ) m (mn μ)) i))), some (.int (nI k))] [] := by
    refine dnw ?_
    intro k hk ih14 i s2 h0 h1 h2 hs st2 hL hF
    refine ws_iload_n 14 C dX1_breakBest_14 rfl ?_
    refine ws_aload_n 15 C dX1_breakBest_15 rfl ?_
    refine ws_get 16 C dX1_breakBest_16 fX1_21 hL rfl rfl ?_
    refine ws_nicmp_ge 19 C 60 dX1_breakBest_19 (by decide) (by omega) (by omega) (fun c19 => ?_) (fun c19 => ?_)
    · skip
      have hbr : Br (nb (bo μ) m (mn μ)) (mn μ) i := ⟨by omega, fun q hq => (by have := h2 q hq; omega)⟩
      have hlno := hbr.is ha
      refine ws_aload_n 60 C dX1_breakBest_60 rfl ?_
      refine ws_get 61 C dX1_breakBest_61 fX1_34 hL rfl rfl ?_
      refine ws_aload_n 64 C dX1_breakBest_64 rfl ?_
      refine ws_get 65 C dX1_breakBest_65 fX1_37 hL rfl rfl ?_
      refine ws_aload_n 68 C dX1_breakBest_68 rfl ?_
      refine ws_get 69 C dX1_breakBest_69 fX1_21 hL rfl rfl ?_
      refine ws_iast 72 C dX1_breakBest_72 hL 4 rfl (vp_in_nI (by omega) (by decide)) i (nI_clamp (by omega)) (nI (mn μ)) rfl (fun st3 est3 => ?_)
      have hL : Ob z st3 b (bLy κ b p l r (nI (mn μ)) m (mv μ 0 1) lo (upd s2 i (nI (mn μ))) (nI i) lf3 nx3) := Ob.put' (j := 4) hL est3 rfl
      have hF := hF.put' est3 (show b ≤ (b + 4) ∧ (b + 4) < b + 7 from by omega)
      exact ws_vret 73 C dX1_breakBest_73 rfl (Nat.le_refl _) (Nat.le_refl _) (by rw [hP]; exact ⟨rfl, ⟨(by rw [← hlno]; exact ⟨_, _, _, hL, LyB.of ha hbr hs⟩), hF⟩⟩)
    · skip
      refine ws_iload_n 22 C dX1_breakBest_22 rfl ?_
      refine ws_iload_n 23 C dX1_breakBest_23 rfl ?_
      refine ws_nicmp_ne 24 C 54 dX1_breakBest_24 (by decide) (by omega) (by omega) (fun c24 => ?_) (fun c24 => ?_)
      · skip
        refine ws_iinc 54 C dX1_breakBest_54 rfl (nI (k + 1)) (nI_1 _) rfl [some (.ref (ad κ b)), some (.int (nI (stt (nb (bo μ) m (mn μ)) i))), some (.int (nI (k + 1)))] rfl ?_
        refine ws_goto 57 C 14 dX1_breakBest_57 (by decide) ?_
        exact ih14 c19 i s2 (by omega) (⟨(by omega), h1.2⟩) (fun q hq => (by have := h2 q hq; omega)) hs st2 hL hF
      · skip
        refine ws_aload_n 27 C dX1_breakBest_27 rfl ?_
        refine ws_get 28 C dX1_breakBest_28 fX1_34 hL rfl rfl ?_
        refine ws_aload_n 31 C dX1_breakBest_31 rfl ?_
        refine ws_get 32 C dX1_breakBest_32 fX1_37 hL rfl rfl ?_
        refine ws_iload_n 35 C dX1_breakBest_35 rfl ?_
        refine ws_iast 36 C dX1_breakBest_36 hL 4 rfl (vp_in_nI (by omega) (by decide)) i (nI_clamp (by omega)) (nI k) rfl (fun st4 est4 => ?_)
        have hL : Ob z st4 b (bLy κ b p l r (nI (mn μ)) m (mv μ 0 1) lo (upd s2 i (nI k)) (nI i) lf3 nx3) := Ob.put' (j := 4) hL est4 rfl
        have hF := hF.put' est4 (show b ≤ (b + 4) ∧ (b + 4) < b + 7 from by omega)
        refine ws_aload_n 37 C dX1_breakBest_37 rfl ?_
        refine ws_dup 38 C dX1_breakBest_38 rfl ?_
        refine ws_get 39 C dX1_breakBest_39 fX1_37 hL rfl rfl ?_
        refine ws_iconst 42 C dX1_breakBest_42 (nI 1) (by decide) ?_
        refine ws_iadd 43 C dX1_breakBest_43 (nI (i + 1)) (nI_add _ _) ?_
        refine ws_put 44 C dX1_breakBest_44 fX1_37 q1_8 hL rfl (Nat.le_of_ble_eq_true rfl) rfl rfl (fun st5 est5 => ?_)
        have hL : Ob z st5 b (bLy κ b p l r (nI (mn μ)) m (mv μ 0 1) lo (upd s2 i (nI k)) (nI (i + 1)) lf3 nx3) := Ob.put' (j := 0) hL est5 rfl
        have hF := hF.put' est5 (show b ≤ (b) ∧ (b) < b + 7 from by omega)
        refine ws_aload_n 47 C dX1_breakBest_47 rfl ?_
        refine ws_get 48 C dX1_breakBest_48 fX1_43 hL rfl rfl ?_
        refine ws_iload_n 51 C dX1_breakBest_51 rfl ?_
        refine ws_iald 52 C dX1_breakBest_52 hL 6 rfl (vp_in_nI (by omega) (by decide)) (nI (stt (nb (bo μ) m (mn μ)) (i + 1))) ((congrArg nx3 (nI_clamp (by omega))).trans ((hnx k c19).trans (congrArg nI (by show (nb (bo μ) m (mn μ)) k = (nb (bo μ) m (mn μ)) (stt (nb (bo μ) m (mn μ)) i); rw [← c24])))) ?_
        refine ws_istore_n 53 C dX1_breakBest_53 rfl [some (.ref (ad κ b)), some (.int (nI (stt (nb (bo μ) m (mn μ)) (i + 1)))), some (.int (nI k))] rfl ?_
        refine ws_iinc 54 C dX1_breakBest_54 rfl (nI (k + 1)) (nI_1 _) rfl [some (.ref (ad κ b)), some (.int (nI (stt (nb (bo μ) m (mn μ)) (i + 1)))), some (.int (nI (k + 1)))] rfl ?_
        refine ws_goto 57 C 14 dX1_breakBest_57 (by decide) ?_
        exact ih14 c19 (i + 1) (upd s2 i (nI k)) (by omega) (⟨(by have := (ha _ c19).1; show k + 1 ≤ (nb (bo μ) m (mn μ)) (stt (nb (bo μ) m (mn μ)) i); rw [← c24]; omega), (by show (nb (bo μ) m (mn μ)) (stt (nb (bo μ) m (mn μ)) i) ≤ mn μ; rw [← c24]; exact (ha _ c19).2)⟩) (fun q hq => (by rcases Nat.lt_or_ge q i with g | g; exact Nat.lt_succ_of_lt (h2 q g); rw [show q = i from by omega]; omega)) (upd_lt hs (congrArg nI c24)) st5 hL hF
  exact L14 0 (Nat.zero_le _) 0 s (Nat.le_refl _) (⟨Nat.le_refl _, Nat.zero_le _⟩) (fun q hq => (by omega)) (fun q hq => (by omega)) st1 hL hF

set_option maxRecDepth 100000 in
set_option maxHeartbeats 4000000 in
theorem c_X1_lastWord {b : Nat} {p l r s lf nx : Nat → Int32} {m lo : Int32} {μ : Mu} {nxt : Nat → Nat} {L : Nat} (hL : Ob z st0 b (bLy κ b p l r (nI (mn μ)) m (mv μ 0 1) lo s (nI L) lf nx)) (hW : LyW μ p l r) (ho : Ok μ) (hb : LyB nxt (mn μ) L s) {i : Nat} (hi : i < L) : CT zl κ yX1_lastWord cX1_lastWord 2 (some .int) (r0 0 0) z [.ref (ad κ b), .int (nI i)] st0 (PRi (nI (stt nxt (i + 1) - 1)) st0) := by
  obtain ⟨P, hP⟩ : ∃ P : Option Value → St → Prop, P = (PRi (nI (stt nxt (i + 1) - 1)) st0) := ⟨_, rfl⟩
  rw [← hP]
  refine CT.of (by decide +kernel) (Nat.le_of_ble_eq_true rfl) (fun zp ze zs zm zar zbe zme zc C _ => ?_)
  have C : Cx zp zs zm zar zme zc κ cX1_lastWord 2 RX1 (some .int) := C
  refine ws_lv (lv2 := [some (.ref (ad κ b)), some (.int (nI i))]) rfl ?_
  have h24 := ho.1
  have hLn := hb.L_le
  have hnx := hb.next hi
  refine ws_aload_n 0 C dX1_lastWord_0 rfl ?_
  refine ws_get 1 C dX1_lastWord_1 fX1_34 hL rfl rfl ?_
  refine ws_iload_n 4 C dX1_lastWord_4 rfl ?_
  refine ws_iconst 5 C dX1_lastWord_5 (nI 1) (by decide) ?_
  refine ws_iadd 6 C dX1_lastWord_6 (nI (i + 1)) (nI_add _ _) ?_
  refine ws_iald 7 C dX1_lastWord_7 hL 4 rfl (vp_in_nI (by omega) (by decide)) (nI (stt nxt (i + 1))) ((congrArg s (nI_clamp (by omega))).trans (hb.at hi)) ?_
  refine ws_iconst 8 C dX1_lastWord_8 (nI 1) (by decide) ?_
  refine ws_isub 9 C dX1_lastWord_9 (nI (stt nxt (i + 1) - 1)) (pk_sub (by omega)) ?_
  exact ws_iret 10 C  dX1_lastWord_10 rfl (Nat.le_refl _) (Nat.le_refl _) (by rw [hP]; exact ⟨rfl, rfl⟩)

set_option maxRecDepth 100000 in
set_option maxHeartbeats 4000000 in
theorem c_X1_bodyOfLine {b : Nat} {p l r s lf nx : Nat → Int32} {m lo : Int32} {μ : Mu} {nxt : Nat → Nat} {L : Nat} (hL : Ob z st0 b (bLy κ b p l r (nI (mn μ)) m (mv μ 0 1) lo s (nI L) lf nx)) (hW : LyW μ p l r) (ho : Ok μ) (hb : LyB nxt (mn μ) L s) {i : Nat} (hi : i < L) : CT zl κ yX1_bodyOfLine cX1_bodyOfLine 2 (some .int) (r0 2 44) z [.ref (ad κ b), .int (nI i)] st0 (PRi (bol μ nxt i) st0) := by
  obtain ⟨P, hP⟩ : ∃ P : Option Value → St → Prop, P = (PRi (bol μ nxt i) st0) := ⟨_, rfl⟩
  rw [← hP]
  refine CT.of (by decide +kernel) (Nat.le_of_ble_eq_true rfl) (fun zp ze zs zm zar zbe zme zc C _ => ?_)
  have C : Cx zp zs zm zar zme zc κ cX1_bodyOfLine 2 RX1 (some .int) := C
  refine ws_lv (lv2 := [some (.ref (ad κ b)), some (.int (nI i))]) rfl ?_
  have h24 := ho.1
  have hLn := hb.L_le
  have hnx := hb.next hi
  refine ws_aload_n 0 C dX1_bodyOfLine_0 rfl ?_
  refine ws_aload_n 1 C dX1_bodyOfLine_1 rfl ?_
  refine ws_get 2 C dX1_bodyOfLine_2 fX1_34 hL rfl rfl ?_
  refine ws_iload_n 5 C dX1_bodyOfLine_5 rfl ?_
  refine ws_iald 6 C dX1_bodyOfLine_6 hL 4 rfl (vp_in_nI (by omega) (by decide)) (nI (stt nxt i)) ((congrArg s (nI_clamp (by omega))).trans (hb.at (Nat.le_of_lt hi))) ?_
  refine ws_aload_n 7 C dX1_bodyOfLine_7 rfl ?_
  refine ws_iload_n 8 C dX1_bodyOfLine_8 rfl ?_
  refine ws_callV0 9 C dX1_bodyOfLine_9 vX1_80 (c_X1_lastWord hL hW ho hb hi) rfl hL rfl rfl ⟨by decide, by decide⟩ ⟨Nat.zero_le _, Nat.zero_le _⟩ rfl rfl rfl (kR ?_)
  refine ws_callV0 12 C dX1_bodyOfLine_12 vX1_66 (c_X1_bodyOf hL hW ho (show stt nxt i ≤ stt nxt (i + 1) - 1 from by omega) (by omega)) rfl hL rfl rfl ⟨by decide, by decide⟩ ⟨Nat.zero_le _, Nat.zero_le _⟩ rfl rfl rfl (kR ?_)
  exact ws_iret 15 C  dX1_bodyOfLine_15 rfl (Nat.le_refl _) (Nat.le_refl _) (by rw [hP]; exact ⟨rfl, rfl⟩)

set_option maxRecDepth 100000 in
set_option maxHeartbeats 4000000 in
theorem c_X1_fits {b : Nat} {p l r s lf nx : Nat → Int32} {m lo : Int32} {μ : Mu} {nxt : Nat → Nat} {L : Nat} (hL : Ob z st0 b (bLy κ b p l r (nI (mn μ)) m (mv μ 0 1) lo s (nI L) lf nx)) (hW : LyW μ p l r) (ho : Ok μ) (hb : LyB nxt (mn μ) L s) {i : Nat} (hi : i < L) : CT zl κ yX1_fits cX1_fits 2 (some .boolean) (r0 3 65) z [.ref (ad κ b), .int (nI i)] st0 (PRi (fitI μ nxt m i) st0) := by
  obtain ⟨P, hP⟩ : ∃ P : Option Value → St → Prop, P = (PRi (fitI μ nxt m i) st0) := ⟨_, rfl⟩
  rw [← hP]
  refine CT.of (by decide +kernel) (Nat.le_of_ble_eq_true rfl) (fun zp ze zs zm zar zbe zme zc C _ => ?_)
  have C : Cx zp zs zm zar zme zc κ cX1_fits 2 RX1 (some .boolean) := C
  refine ws_lv (lv2 := [some (.ref (ad κ b)), some (.int (nI i))]) rfl ?_
  have h24 := ho.1
  have hLn := hb.L_le
  refine ws_aload_n 0 C dX1_fits_0 rfl ?_
  refine ws_iload_n 1 C dX1_fits_1 rfl ?_
  refine ws_callV0 2 C dX1_fits_2 vX1_83 (c_X1_bodyOfLine hL hW ho hb hi) rfl hL rfl rfl ⟨by decide, by decide⟩ ⟨Nat.zero_le _, Nat.zero_le _⟩ rfl rfl rfl (kR ?_)
  refine ws_aload_n 5 C dX1_fits_5 rfl ?_
  refine ws_get 6 C dX1_fits_6 fX1_25 hL rfl rfl ?_
  refine ws_icmp_gt 9 C 16 dX1_fits_9 (by decide)  (fun c9 => ?_) (fun c9 => ?_)
  · skip
    have hv : nI 0 = fitI μ nxt m i := (if_neg (Int32.not_le.mpr c9)).symm
    refine ws_iconst 16 C dX1_fits_16 (nI 0) (by decide) ?_
    exact ws_zret 17 C rfl dX1_fits_17 rfl (Nat.le_refl _) (Nat.le_refl _) (by rw [hP]; exact ⟨congrArg (fun z => some (Value.int z)) (hv), rfl⟩)
  · skip
    have hv : nI 1 = fitI μ nxt m i := (if_pos (Int32.not_lt.mp c9)).symm
    refine ws_iconst 12 C dX1_fits_12 (nI 1) (by decide) ?_
    refine ws_goto 13 C 17 dX1_fits_13 (by decide) ?_
    exact ws_zret 17 C rfl dX1_fits_17 rfl (Nat.le_refl _) (Nat.le_refl _) (by rw [hP]; exact ⟨congrArg (fun z => some (Value.int z)) (hv), rfl⟩)

set_option maxRecDepth 100000 in
set_option maxHeartbeats 4000000 in
theorem c_X1_looksIndented {b : Nat} {p l r s lf nx : Nat → Int32} {m lo : Int32} {μ : Mu} {nxt : Nat → Nat} {L : Nat} (hL : Ob z st0 b (bLy κ b p l r (nI (mn μ)) m (mv μ 0 1) lo s (nI L) lf nx)) (hW : LyW μ p l r) (ho : Ok μ) (hb : LyB nxt (mn μ) L s) {i : Nat} (hi : i < L) : CT zl κ yX1_looksIndented cX1_looksIndented 2 (some .boolean) (r0 4 86) z [.ref (ad κ b), .int (nI i)] st0 (PRi (nI (indN μ nxt m lo L i)) st0) := by
  obtain ⟨P, hP⟩ : ∃ P : Option Value → St → Prop, P = (PRi (nI (indN μ nxt m lo L i)) st0) := ⟨_, rfl⟩
  rw [← hP]
  refine CT.of (by decide +kernel) (Nat.le_of_ble_eq_true rfl) (fun zp ze zs zm zar zbe zme zc C _ => ?_)
  have C : Cx zp zs zm zar zme zc κ cX1_looksIndented 2 RX1 (some .boolean) := C
  refine ws_lv (lv2 := [some (.ref (ad κ b)), some (.int (nI i))]) rfl ?_
  have h24 := ho.1
  have hLn := hb.L_le
  refine ws_aload_n 0 C dX1_looksIndented_0 rfl ?_
  refine ws_iload_n 1 C dX1_looksIndented_1 rfl ?_
  refine ws_callV0 2 C dX1_looksIndented_2 vX1_86 (c_X1_fits hL hW ho hb hi) rfl hL rfl rfl ⟨by decide, by decide⟩ ⟨Nat.zero_le _, Nat.zero_le _⟩ rfl rfl rfl (kR ?_)
  refine ws_if_eq 5 C 39 dX1_looksIndented_5 (by decide)  (fun c5 => ?_) (fun c5 => ?_)
  · skip
    have hv : nI 0 = nI (indN μ nxt m lo L i) := congrArg nI (if_neg (fitI_n c5)).symm
    refine ws_iconst 39 C dX1_looksIndented_39 (nI 0) (by decide) ?_
    exact ws_zret 40 C rfl dX1_looksIndented_40 rfl (Nat.le_refl _) (Nat.le_refl _) (by rw [hP]; exact ⟨congrArg (fun z => some (Value.int z)) (hv), rfl⟩)
  · skip
    have h1 := fitI_y c5
    refine ws_iload_n 8 C dX1_looksIndented_8 rfl ?_
    refine ws_aload_n 9 C dX1_looksIndented_9 rfl ?_
    refine ws_get 10 C dX1_looksIndented_10 fX1_37 hL rfl rfl ?_
    refine ws_iconst 13 C dX1_looksIndented_13 (nI 1) (by decide) ?_
    refine ws_isub 14 C dX1_looksIndented_14 (nI (L - 1)) (pk_sub (by omega)) ?_
    refine ws_nicmp_ge 15 C 39 dX1_looksIndented_15 (by decide) (by omega) (by omega) (fun c15 => ?_) (fun c15 => ?_)
    · skip
      have hv : nI 0 = nI (indN μ nxt m lo L i) := congrArg nI ((if_pos h1).trans (if_neg (by omega))).symm
      refine ws_iconst 39 C dX1_looksIndented_39 (nI 0) (by decide) ?_
      exact ws_zret 40 C rfl dX1_looksIndented_40 rfl (Nat.le_refl _) (Nat.le_refl _) (by rw [hP]; exact ⟨congrArg (fun z => some (Value.int z)) (hv), rfl⟩)
    · skip
      refine ws_aload_n 18 C dX1_looksIndented_18 rfl ?_
      refine ws_get 19 C dX1_looksIndented_19 fX1_25 hL rfl rfl ?_
      refine ws_aload_n 22 C dX1_looksIndented_22 rfl ?_
      refine ws_iload_n 23 C dX1_looksIndented_23 rfl ?_
      refine ws_callV0 24 C dX1_looksIndented_24 vX1_83 (c_X1_bodyOfLine hL hW ho hb hi) rfl hL rfl rfl ⟨by decide, by decide⟩ ⟨Nat.zero_le _, Nat.zero_le _⟩ rfl rfl rfl (kR ?_)
      refine ws_isub 27 C dX1_looksIndented_27 (m - (bol μ nxt i)) rfl ?_
      refine ws_aload_n 28 C dX1_looksIndented_28 rfl ?_
      refine ws_get 29 C dX1_looksIndented_29 fX1_31 hL rfl rfl ?_
      refine ws_icmp_le 32 C 39 dX1_looksIndented_32 (by decide)  (fun c32 => ?_) (fun c32 => ?_)
      · skip
        have hv : nI 0 = nI (indN μ nxt m lo L i) := congrArg nI ((if_pos h1).trans ((if_pos c15).trans (if_neg (Int32.not_lt.mpr c32)))).symm
        refine ws_iconst 39 C dX1_looksIndented_39 (nI 0) (by decide) ?_
        exact ws_zret 40 C rfl dX1_looksIndented_40 rfl (Nat.le_refl _) (Nat.le_refl _) (by rw [hP]; exact ⟨congrArg (fun z => some (Value.int z)) (hv), rfl⟩)
      · skip
        have hv : nI 1 = nI (indN μ nxt m lo L i) := congrArg nI ((if_pos h1).trans ((if_pos c15).trans (if_pos (Int32.not_le.mp c32)))).symm
        refine ws_iconst 35 C dX1_looksIndented_35 (nI 1) (by decide) ?_
        refine ws_goto 36 C 40 dX1_looksIndented_36 (by decide) ?_
        exact ws_zret 40 C rfl dX1_looksIndented_40 rfl (Nat.le_refl _) (Nat.le_refl _) (by rw [hP]; exact ⟨congrArg (fun z => some (Value.int z)) (hv), rfl⟩)

set_option maxRecDepth 100000 in
set_option maxHeartbeats 4000000 in
theorem c_X1_tellLine {b : Nat} {p l r s lf nx : Nat → Int32} {m lo : Int32} {μ : Mu} {nxt : Nat → Nat} {L : Nat} (hL : Ob z st0 b (bLy κ b p l r (nI (mn μ)) m (mv μ 0 1) lo s (nI L) lf nx)) (hW : LyW μ p l r) (ho : Ok μ) (hb : LyB nxt (mn μ) L s) {i : Nat} (hi : i < L) {w : Nat} (hw : w ≤ 8) : CT zl κ yX1_tellLine cX1_tellLine 3 (some .int) (r0 5 107) z [.ref (ad κ b), .int (nI i), .int (nI w)] st0 (PRi (tell μ nxt m lo L i w) st0) := by
  obtain ⟨P, hP⟩ : ∃ P : Option Value → St → Prop, P = (PRi (tell μ nxt m lo L i w) st0) := ⟨_, rfl⟩
  rw [← hP]
  refine CT.of (by decide +kernel) (Nat.le_of_ble_eq_true rfl) (fun zp ze zs zm zar zbe zme zc C _ => ?_)
  have C : Cx zp zs zm zar zme zc κ cX1_tellLine 3 RX1 (some .int) := C
  refine ws_lv (lv2 := [some (.ref (ad κ b)), some (.int (nI i)), some (.int (nI w))]) rfl ?_
  have h24 := ho.1
  have hLn := hb.L_le
  have hnx := hb.next hi
  refine ws_iload_n 0 C dX1_tellLine_0 rfl ?_
  rcases (show w = 0 ∨ w = 1 ∨ w = 2 ∨ w = 3 ∨ w = 4 ∨ w = 5 ∨ w = 6 ∨ w = 7 ∨ w = 8 from by omega) with rfl | rfl | rfl | rfl | rfl | rfl | rfl | rfl | rfl
  · skip
    refine ws_tin 1 C dX1_tellLine_1 (0) (47) 48 (by rfl) (by decide) (by decide) (by rfl) (by decide) ?_
    refine ws_aload_n 48 C dX1_tellLine_48 rfl ?_
    refine ws_get 49 C dX1_tellLine_49 fX1_34 hL rfl rfl ?_
    refine ws_iload_n 52 C dX1_tellLine_52 rfl ?_
    refine ws_iald 53 C dX1_tellLine_53 hL 4 rfl (vp_in_nI (by omega) (by decide)) (nI (stt nxt i)) ((congrArg s (nI_clamp (by omega))).trans (hb.at (Nat.le_of_lt hi))) ?_
    exact ws_iret 54 C  dX1_tellLine_54 rfl (Nat.le_refl _) (Nat.le_refl _) (by rw [hP]; exact ⟨rfl, rfl⟩)
  · skip
    refine ws_tin 1 C dX1_tellLine_1 (1) (54) 55 (by rfl) (by decide) (by decide) (by rfl) (by decide) ?_
    refine ws_aload_n 55 C dX1_tellLine_55 rfl ?_
    refine ws_get 56 C dX1_tellLine_56 fX1_34 hL rfl rfl ?_
    refine ws_iload_n 59 C dX1_tellLine_59 rfl ?_
    refine ws_iconst 60 C dX1_tellLine_60 (nI 1) (by decide) ?_
    refine ws_iadd 61 C dX1_tellLine_61 (nI (i + 1)) (nI_add _ _) ?_
    refine ws_iald 62 C dX1_tellLine_62 hL 4 rfl (vp_in_nI (by omega) (by decide)) (nI (stt nxt (i + 1))) ((congrArg s (nI_clamp (by omega))).trans (hb.at hi)) ?_
    refine ws_aload_n 63 C dX1_tellLine_63 rfl ?_
    refine ws_get 64 C dX1_tellLine_64 fX1_34 hL rfl rfl ?_
    refine ws_iload_n 67 C dX1_tellLine_67 rfl ?_
    refine ws_iald 68 C dX1_tellLine_68 hL 4 rfl (vp_in_nI (by omega) (by decide)) (nI (stt nxt i)) ((congrArg s (nI_clamp (by omega))).trans (hb.at (Nat.le_of_lt hi))) ?_
    refine ws_isub 69 C dX1_tellLine_69 (nI (stt nxt (i + 1) - stt nxt i)) (pk_sub (by omega)) ?_
    exact ws_iret 70 C  dX1_tellLine_70 rfl (Nat.le_refl _) (Nat.le_refl _) (by rw [hP]; exact ⟨rfl, rfl⟩)
  · skip
    refine ws_tin 1 C dX1_tellLine_1 (2) (70) 71 (by rfl) (by decide) (by decide) (by rfl) (by decide) ?_
    refine ws_aload_n 71 C dX1_tellLine_71 rfl ?_
    refine ws_aload_n 72 C dX1_tellLine_72 rfl ?_
    refine ws_get 73 C dX1_tellLine_73 fX1_34 hL rfl rfl ?_
    refine ws_iload_n 76 C dX1_tellLine_76 rfl ?_
    refine ws_iald 77 C dX1_tellLine_77 hL 4 rfl (vp_in_nI (by omega) (by decide)) (nI (stt nxt i)) ((congrArg s (nI_clamp (by omega))).trans (hb.at (Nat.le_of_lt hi))) ?_
    refine ws_aload_n 78 C dX1_tellLine_78 rfl ?_
    refine ws_iload_n 79 C dX1_tellLine_79 rfl ?_
    refine ws_callV0 80 C dX1_tellLine_80 vX1_80 (c_X1_lastWord hL hW ho hb hi) rfl hL rfl rfl ⟨by decide, by decide⟩ ⟨Nat.zero_le _, Nat.zero_le _⟩ rfl rfl rfl (kR ?_)
    refine ws_callV0 83 C dX1_tellLine_83 vX1_62 (c_X1_widthFrom hL hW ho (show stt nxt i ≤ stt nxt (i + 1) - 1 from by omega) (by omega)) rfl hL rfl rfl ⟨by decide, by decide⟩ ⟨Nat.zero_le _, Nat.zero_le _⟩ rfl rfl rfl (kR ?_)
    exact ws_iret 86 C  dX1_tellLine_86 rfl (Nat.le_refl _) (Nat.le_refl _) (by rw [hP]; exact ⟨rfl, rfl⟩)
  · skip
    refine ws_tin 1 C dX1_tellLine_1 (3) (86) 87 (by rfl) (by decide) (by decide) (by rfl) (by decide) ?_
    refine ws_aload_n 87 C dX1_tellLine_87 rfl ?_
    refine ws_get 88 C dX1_tellLine_88 fX1_15 hL rfl rfl ?_
    refine ws_aload_n 91 C dX1_tellLine_91 rfl ?_
    refine ws_get 92 C dX1_tellLine_92 fX1_34 hL rfl rfl ?_
    refine ws_iload_n 95 C dX1_tellLine_95 rfl ?_
    refine ws_iald 96 C dX1_tellLine_96 hL 4 rfl (vp_in_nI (by omega) (by decide)) (nI (stt nxt i)) ((congrArg s (nI_clamp (by omega))).trans (hb.at (Nat.le_of_lt hi))) ?_
    refine ws_iald 97 C dX1_tellLine_97 hL 2 rfl (vp_in_nI (by omega) (by decide)) (lh μ (stt nxt i)) ((congrArg l (nI_clamp (by omega))).trans (hW.2.1 _ (by omega))) ?_
    exact ws_iret 98 C  dX1_tellLine_98 rfl (Nat.le_refl _) (Nat.le_refl _) (by rw [hP]; exact ⟨rfl, rfl⟩)
  · skip
    refine ws_tin 1 C dX1_tellLine_1 (4) (98) 99 (by rfl) (by decide) (by decide) (by rfl) (by decide) ?_
    refine ws_aload_n 99 C dX1_tellLine_99 rfl ?_
    refine ws_get 100 C dX1_tellLine_100 fX1_18 hL rfl rfl ?_
    refine ws_aload_n 103 C dX1_tellLine_103 rfl ?_
    refine ws_iload_n 104 C dX1_tellLine_104 rfl ?_
    refine ws_callV0 105 C dX1_tellLine_105 vX1_80 (c_X1_lastWord hL hW ho hb hi) rfl hL rfl rfl ⟨by decide, by decide⟩ ⟨Nat.zero_le _, Nat.zero_le _⟩ rfl rfl rfl (kR ?_)
    refine ws_iald 108 C dX1_tellLine_108 hL 3 rfl (vp_in_nI (by omega) (by decide)) (rh μ (stt nxt (i + 1) - 1)) ((congrArg r (nI_clamp (by omega))).trans (hW.2.2 _ (by omega))) ?_
    exact ws_iret 109 C  dX1_tellLine_109 rfl (Nat.le_refl _) (Nat.le_refl _) (by rw [hP]; exact ⟨rfl, rfl⟩)
  · skip
    refine ws_tin 1 C dX1_tellLine_1 (5) (109) 110 (by rfl) (by decide) (by decide) (by rfl) (by decide) ?_
    refine ws_aload_n 110 C dX1_tellLine_110 rfl ?_
    refine ws_iload_n 111 C dX1_tellLine_111 rfl ?_
    refine ws_callV0 112 C dX1_tellLine_112 vX1_83 (c_X1_bodyOfLine hL hW ho hb hi) rfl hL rfl rfl ⟨by decide, by decide⟩ ⟨Nat.zero_le _, Nat.zero_le _⟩ rfl rfl rfl (kR ?_)
    exact ws_iret 115 C  dX1_tellLine_115 rfl (Nat.le_refl _) (Nat.le_refl _) (by rw [hP]; exact ⟨rfl, rfl⟩)
  · skip
    refine ws_tin 1 C dX1_tellLine_1 (6) (115) 116 (by rfl) (by decide) (by decide) (by rfl) (by decide) ?_
    refine ws_aload_n 116 C dX1_tellLine_116 rfl ?_
    refine ws_iload_n 117 C dX1_tellLine_117 rfl ?_
    refine ws_callV0 118 C dX1_tellLine_118 vX1_86 (c_X1_fits hL hW ho hb hi) rfl hL rfl rfl ⟨by decide, by decide⟩ ⟨Nat.zero_le _, Nat.zero_le _⟩ rfl rfl rfl (kR ?_)
    refine ws_if_eq 121 C 137 dX1_tellLine_121 (by decide)  (fun c121 => ?_) (fun c121 => ?_)
    · skip
      have hv : -1006 = tell μ nxt m lo L i 6 := (if_neg (fitI_n c121)).symm
      refine ws_sipush 137 C dX1_tellLine_137 ((-1006)) (by decide) ?_
      exact ws_iret 140 C  dX1_tellLine_140 rfl (Nat.le_refl _) (Nat.le_refl _) (by rw [hP]; exact ⟨congrArg (fun z => some (Value.int z)) (hv), rfl⟩)
    · skip
      have hv : m - bol μ nxt i = tell μ nxt m lo L i 6 := (if_pos (fitI_y c121)).symm
      refine ws_aload_n 124 C dX1_tellLine_124 rfl ?_
      refine ws_get 125 C dX1_tellLine_125 fX1_25 hL rfl rfl ?_
      refine ws_aload_n 128 C dX1_tellLine_128 rfl ?_
      refine ws_iload_n 129 C dX1_tellLine_129 rfl ?_
      refine ws_callV0 130 C dX1_tellLine_130 vX1_83 (c_X1_bodyOfLine hL hW ho hb hi) rfl hL rfl rfl ⟨by decide, by decide⟩ ⟨Nat.zero_le _, Nat.zero_le _⟩ rfl rfl rfl (kR ?_)
      refine ws_isub 133 C dX1_tellLine_133 (m - (bol μ nxt i)) rfl ?_
      refine ws_goto 134 C 140 dX1_tellLine_134 (by decide) ?_
      exact ws_iret 140 C  dX1_tellLine_140 rfl (Nat.le_refl _) (Nat.le_refl _) (by rw [hP]; exact ⟨congrArg (fun z => some (Value.int z)) (hv), rfl⟩)
  · skip
    refine ws_tin 1 C dX1_tellLine_1 (7) (140) 141 (by rfl) (by decide) (by decide) (by rfl) (by decide) ?_
    refine ws_aload_n 141 C dX1_tellLine_141 rfl ?_
    refine ws_iload_n 142 C dX1_tellLine_142 rfl ?_
    refine ws_callV0 143 C dX1_tellLine_143 vX1_86 (c_X1_fits hL hW ho hb hi) rfl hL rfl rfl ⟨by decide, by decide⟩ ⟨Nat.zero_le _, Nat.zero_le _⟩ rfl rfl rfl (kR ?_)
    refine ws_if_eq 146 C 153 dX1_tellLine_146 (by decide)  (fun c146 => ?_) (fun c146 => ?_)
    · skip
      have hv : nI 0 = tell μ nxt m lo L i 7 := (if_neg (fitI_n c146)).symm
      refine ws_iconst 153 C dX1_tellLine_153 (nI 0) (by decide) ?_
      exact ws_iret 154 C  dX1_tellLine_154 rfl (Nat.le_refl _) (Nat.le_refl _) (by rw [hP]; exact ⟨congrArg (fun z => some (Value.int z)) (hv), rfl⟩)
    · skip
      have hv : nI 1 = tell μ nxt m lo L i 7 := (if_pos (fitI_y c146)).symm
      refine ws_iconst 149 C dX1_tellLine_149 (nI 1) (by decide) ?_
      refine ws_goto 150 C 154 dX1_tellLine_150 (by decide) ?_
      exact ws_iret 154 C  dX1_tellLine_154 rfl (Nat.le_refl _) (Nat.le_refl _) (by rw [hP]; exact ⟨congrArg (fun z => some (Value.int z)) (hv), rfl⟩)
  · skip
    refine ws_tout 1 C dX1_tellLine_1 155 (Or.inr (by decide)) (by decide) ?_
    refine ws_aload_n 155 C dX1_tellLine_155 rfl ?_
    refine ws_iload_n 156 C dX1_tellLine_156 rfl ?_
    refine ws_callV0 157 C dX1_tellLine_157 vX1_90 (c_X1_looksIndented hL hW ho hb hi) rfl hL rfl rfl ⟨by decide, by decide⟩ ⟨Nat.zero_le _, Nat.zero_le _⟩ rfl rfl rfl (kR ?_)
    refine ws_nif_eq 160 C 167 dX1_tellLine_160 (by decide) (by have := indN_le μ nxt m lo L i; omega) (fun c160 => ?_) (fun c160 => ?_)
    · skip
      have hv : nI 0 = tell μ nxt m lo L i 8 := congrArg nI c160.symm
      refine ws_iconst 167 C dX1_tellLine_167 (nI 0) (by decide) ?_
      exact ws_iret 168 C  dX1_tellLine_168 rfl (Nat.le_refl _) (Nat.le_refl _) (by rw [hP]; exact ⟨congrArg (fun z => some (Value.int z)) (hv), rfl⟩)
    · skip
      have hv : nI 1 = tell μ nxt m lo L i 8 := congrArg nI (by have := indN_le μ nxt m lo L i; omega)
      refine ws_iconst 163 C dX1_tellLine_163 (nI 1) (by decide) ?_
      refine ws_goto 164 C 168 dX1_tellLine_164 (by decide) ?_
      exact ws_iret 168 C  dX1_tellLine_168 rfl (Nat.le_refl _) (Nat.le_refl _) (by rw [hP]; exact ⟨congrArg (fun z => some (Value.int z)) (hv), rfl⟩)

set_option maxRecDepth 100000 in
set_option maxHeartbeats 4000000 in
theorem c_X1_lineWith {b : Nat} {p l r s lf nx : Nat → Int32} {m lo : Int32} {μ : Mu} {nxt : Nat → Nat} {L : Nat} (hL : Ob z st0 b (bLy κ b p l r (nI (mn μ)) m (mv μ 0 1) lo s (nI L) lf nx)) (hW : LyW μ p l r) (ho : Ok μ) (hb : LyB nxt (mn μ) L s) {w : Nat} (hw : w < mn μ) : CT zl κ yX1_lineWith cX1_lineWith 4 (some .int) (r0 0 0) z [.ref (ad κ b), .int (nI w)] st0 (PRi (nI (lof nxt w L)) st0) := by
  obtain ⟨P, hP⟩ : ∃ P : Option Value → St → Prop, P = (PRi (nI (lof nxt w L)) st0) := ⟨_, rfl⟩
  rw [← hP]
  refine CT.of (by decide +kernel) (Nat.le_of_ble_eq_true rfl) (fun zp ze zs zm zar zbe zme zc C _ => ?_)
  have C : Cx zp zs zm zar zme zc κ cX1_lineWith 4 RX1 (some .int) := C
  refine ws_lv (lv2 := [some (.ref (ad κ b)), some (.int (nI w)), none, none]) rfl ?_
  have h24 := ho.1
  have hLn := hb.L_le
  refine ws_iconst 0 C dX1_lineWith_0 (nI 0) (by decide) ?_
  refine ws_istore_n 1 C dX1_lineWith_1 rfl [some (.ref (ad κ b)), some (.int (nI w)), some (.int (nI 0)), none] rfl ?_
  refine ws_iconst 2 C dX1_lineWith_2 (nI 0) (by decide) ?_
  refine ws_istore_n 3 C dX1_lineWith_3 rfl [some (.ref (ad κ b)), some (.int (nI w)), some (.int (nI 0)), some (.int (nI 0))] rfl ?_
  have L4 : ∀ k : Nat, k ≤ L → WS zp zl ze (r0 0 0) zs zm zar zbe zme zc κ z 0 0 (QM zbe zar zs κ z (r0 0 0) P) st0 4 [some (.ref (ad κ b)), some (.int (nI w)), some (.int (nI (lof nxt w k))), some (.int (nI k))] [] := by
    refine dnw ?_
    intro k hk ih4 
    refine ws_iload_n 4 C dX1_lineWith_4 rfl ?_
    refine ws_aload_n 5 C dX1_lineWith_5 rfl ?_
    refine ws_get 6 C dX1_lineWith_6 fX1_37 hL rfl rfl ?_
    refine ws_nicmp_ge 9 C 30 dX1_lineWith_9 (by decide) (by omega) (by omega) (fun c9 => ?_) (fun c9 => ?_)
    · skip
      refine ws_iload_n 30 C dX1_lineWith_30 rfl ?_
      exact ws_iret 31 C  dX1_lineWith_31 rfl (Nat.le_refl _) (Nat.le_refl _) (by rw [hP]; exact ⟨congrArg (fun z => some (Value.int z)) ((by rw [show k = L from by omega])), rfl⟩)
    · skip
      refine ws_aload_n 12 C dX1_lineWith_12 rfl ?_
      refine ws_get 13 C dX1_lineWith_13 fX1_34 hL rfl rfl ?_
      refine ws_iload_n 16 C dX1_lineWith_16 rfl ?_
      refine ws_iald 17 C dX1_lineWith_17 hL 4 rfl (vp_in_nI (by omega) (by decide)) (nI (stt nxt k)) ((congrArg s (nI_clamp (by omega))).trans (hb.at hk)) ?_
      refine ws_iload_n 18 C dX1_lineWith_18 rfl ?_
      refine ws_nicmp_gt 19 C 24 dX1_lineWith_19 (by decide) (by first | omega | (have := hb.le hk; omega)) (by first | omega | (have := hb.le hk; omega)) (fun c19 => ?_) (fun c19 => ?_)
      · skip
        refine ws_wk (lv2 := [some (.ref (ad κ b)), some (.int (nI w)), some (.int (nI (lof nxt w (k + 1)))), some (.int (nI k))]) ⟨rfl, rfl, (congrArg (fun x => Value.int (nI x)) (if_neg (by omega))), rfl, trivial⟩ ?_
        refine ws_iinc 24 C dX1_lineWith_24 rfl (nI (k + 1)) (nI_1 _) rfl [some (.ref (ad κ b)), some (.int (nI w)), some (.int (nI (lof nxt w (k + 1)))), some (.int (nI (k + 1)))] rfl ?_
        refine ws_goto 27 C 4 dX1_lineWith_27 (by decide) ?_
        exact ih4 c9
      · skip
        refine ws_iload_n 22 C dX1_lineWith_22 rfl ?_
        refine ws_istore_n 23 C dX1_lineWith_23 rfl [some (.ref (ad κ b)), some (.int (nI w)), some (.int (nI k)), some (.int (nI k))] rfl ?_
        refine ws_wk (lv2 := [some (.ref (ad κ b)), some (.int (nI w)), some (.int (nI (lof nxt w (k + 1)))), some (.int (nI k))]) ⟨rfl, rfl, (congrArg (fun x => Value.int (nI x)) (if_pos (by omega))), rfl, trivial⟩ ?_
        refine ws_iinc 24 C dX1_lineWith_24 rfl (nI (k + 1)) (nI_1 _) rfl [some (.ref (ad κ b)), some (.int (nI w)), some (.int (nI (lof nxt w (k + 1)))), some (.int (nI (k + 1)))] rfl ?_
        refine ws_goto 27 C 4 dX1_lineWith_27 (by decide) ?_
        exact ih4 c9
  exact L4 0 (Nat.zero_le _)

set_option maxRecDepth 100000 in
set_option maxHeartbeats 4000000 in
theorem c_X1_badness {b : Nat} {p l r s lf nx : Nat → Int32} {m lo : Int32} {μ : Mu} {nxt : Nat → Nat} {L : Nat} (hL : Ob z st0 b (bLy κ b p l r (nI (mn μ)) m (mv μ 0 1) lo s (nI L) lf nx)) (hW : LyW μ p l r) (ho : Ok μ) (hb : LyB nxt (mn μ) L s) : CT zl κ yX1_badness cX1_badness 3 (some .int) (r0 3 67) z [.ref (ad κ b)] st0 (PRi (sumB μ nxt m L) st0) := by
  obtain ⟨P, hP⟩ : ∃ P : Option Value → St → Prop, P = (PRi (sumB μ nxt m L) st0) := ⟨_, rfl⟩
  rw [← hP]
  refine CT.of (by decide +kernel) (Nat.le_of_ble_eq_true rfl) (fun zp ze zs zm zar zbe zme zc C _ => ?_)
  have C : Cx zp zs zm zar zme zc κ cX1_badness 3 RX1 (some .int) := C
  refine ws_lv (lv2 := [some (.ref (ad κ b)), none, none]) rfl ?_
  have h24 := ho.1
  have hLn := hb.L_le
  refine ws_iconst 0 C dX1_badness_0 (nI 0) (by decide) ?_
  refine ws_istore_n 1 C dX1_badness_1 rfl [some (.ref (ad κ b)), some (.int (nI 0)), none] rfl ?_
  refine ws_iconst 2 C dX1_badness_2 (nI 0) (by decide) ?_
  refine ws_istore_n 3 C dX1_badness_3 rfl [some (.ref (ad κ b)), some (.int (nI 0)), some (.int (nI 0))] rfl ?_
  have L4 : ∀ i : Nat, i ≤ L → WS zp zl ze (r0 3 67) zs zm zar zbe zme zc κ z 0 0 (QM zbe zar zs κ z (r0 3 67) P) st0 4 [some (.ref (ad κ b)), some (.int (sumB μ nxt m i)), some (.int (nI i))] [] := by
    refine dnw ?_
    intro i hi ih4 
    refine ws_iload_n 4 C dX1_badness_4 rfl ?_
    refine ws_aload_n 5 C dX1_badness_5 rfl ?_
    refine ws_get 6 C dX1_badness_6 fX1_37 hL rfl rfl ?_
    refine ws_nicmp_ge 9 C 36 dX1_badness_9 (by decide) (by omega) (by omega) (fun c9 => ?_) (fun c9 => ?_)
    · skip
      refine ws_iload_n 36 C dX1_badness_36 rfl ?_
      exact ws_iret 37 C  dX1_badness_37 rfl (Nat.le_refl _) (Nat.le_refl _) (by rw [hP]; exact ⟨congrArg (fun z => some (Value.int z)) ((by rw [show i = L from by omega])), rfl⟩)
    · skip
      have hnx := hb.next c9
      refine ws_iload_n 12 C dX1_badness_12 rfl ?_
      refine ws_aload_n 13 C dX1_badness_13 rfl ?_
      refine ws_aload_n 14 C dX1_badness_14 rfl ?_
      refine ws_get 15 C dX1_badness_15 fX1_34 hL rfl rfl ?_
      refine ws_iload_n 18 C dX1_badness_18 rfl ?_
      refine ws_iald 19 C dX1_badness_19 hL 4 rfl (vp_in_nI (by omega) (by decide)) (nI (stt nxt i)) ((congrArg s (nI_clamp (by omega))).trans (hb.at hi)) ?_
      refine ws_aload_n 20 C dX1_badness_20 rfl ?_
      refine ws_iload_n 21 C dX1_badness_21 rfl ?_
      refine ws_callV0 22 C dX1_badness_22 vX1_80 (c_X1_lastWord hL hW ho hb c9) rfl hL rfl rfl ⟨by decide, by decide⟩ ⟨Nat.zero_le _, Nat.zero_le _⟩ rfl rfl rfl (kR ?_)
      refine ws_callV0 25 C dX1_badness_25 vX1_77 (c_X1_badnessOf hL hW ho (show stt nxt i ≤ stt nxt (i + 1) - 1 from by omega) (by omega)) rfl hL rfl rfl ⟨by decide, by decide⟩ ⟨Nat.zero_le _, Nat.zero_le _⟩ rfl rfl rfl (kR ?_)
      refine ws_iadd 28 C dX1_badness_28 (sumB μ nxt m (i + 1)) rfl ?_
      refine ws_istore_n 29 C dX1_badness_29 rfl [some (.ref (ad κ b)), some (.int (sumB μ nxt m (i + 1))), some (.int (nI i))] rfl ?_
      refine ws_iinc 30 C dX1_badness_30 rfl (nI (i + 1)) (nI_1 _) rfl [some (.ref (ad κ b)), some (.int (sumB μ nxt m (i + 1))), some (.int (nI (i + 1)))] rfl ?_
      refine ws_goto 33 C 4 dX1_badness_33 (by decide) ?_
      exact ih4 c9
  exact L4 0 (Nat.zero_le _)

set_option maxRecDepth 100000 in
set_option maxHeartbeats 4000000 in
theorem c_X1_countIndented {b : Nat} {p l r s lf nx : Nat → Int32} {m lo : Int32} {μ : Mu} {nxt : Nat → Nat} {L : Nat} (hL : Ob z st0 b (bLy κ b p l r (nI (mn μ)) m (mv μ 0 1) lo s (nI L) lf nx)) (hW : LyW μ p l r) (ho : Ok μ) (hb : LyB nxt (mn μ) L s) : CT zl κ yX1_countIndented cX1_countIndented 3 (some .int) (r0 5 107) z [.ref (ad κ b)] st0 (PRi (nI (smN (indN μ nxt m lo L) L)) st0) := by
  obtain ⟨P, hP⟩ : ∃ P : Option Value → St → Prop, P = (PRi (nI (smN (indN μ nxt m lo L) L)) st0) := ⟨_, rfl⟩
  rw [← hP]
  refine CT.of (by decide +kernel) (Nat.le_of_ble_eq_true rfl) (fun zp ze zs zm zar zbe zme zc C _ => ?_)
  have C : Cx zp zs zm zar zme zc κ cX1_countIndented 3 RX1 (some .int) := C
  refine ws_lv (lv2 := [some (.ref (ad κ b)), none, none]) rfl ?_
  have h24 := ho.1
  have hLn := hb.L_le
  refine ws_iconst 0 C dX1_countIndented_0 (nI 0) (by decide) ?_
  refine ws_istore_n 1 C dX1_countIndented_1 rfl [some (.ref (ad κ b)), some (.int (nI 0)), none] rfl ?_
  refine ws_iconst 2 C dX1_countIndented_2 (nI 0) (by decide) ?_
  refine ws_istore_n 3 C dX1_countIndented_3 rfl [some (.ref (ad κ b)), some (.int (nI 0)), some (.int (nI 0))] rfl ?_
  have L4 : ∀ i : Nat, i ≤ L → WS zp zl ze (r0 5 107) zs zm zar zbe zme zc κ z 0 0 (QM zbe zar zs κ z (r0 5 107) P) st0 4 [some (.ref (ad κ b)), some (.int (nI (smN (indN μ nxt m lo L) i))), some (.int (nI i))] [] := by
    refine dnw ?_
    intro i hi ih4 
    refine ws_iload_n 4 C dX1_countIndented_4 rfl ?_
    refine ws_aload_n 5 C dX1_countIndented_5 rfl ?_
    refine ws_get 6 C dX1_countIndented_6 fX1_37 hL rfl rfl ?_
    refine ws_nicmp_ge 9 C 29 dX1_countIndented_9 (by decide) (by omega) (by omega) (fun c9 => ?_) (fun c9 => ?_)
    · skip
      refine ws_iload_n 29 C dX1_countIndented_29 rfl ?_
      exact ws_iret 30 C  dX1_countIndented_30 rfl (Nat.le_refl _) (Nat.le_refl _) (by rw [hP]; exact ⟨congrArg (fun z => some (Value.int z)) ((by rw [show i = L from by omega])), rfl⟩)
    · skip
      refine ws_aload_n 12 C dX1_countIndented_12 rfl ?_
      refine ws_iload_n 13 C dX1_countIndented_13 rfl ?_
      refine ws_callV0 14 C dX1_countIndented_14 vX1_90 (c_X1_looksIndented hL hW ho hb c9) rfl hL rfl rfl ⟨by decide, by decide⟩ ⟨Nat.zero_le _, Nat.zero_le _⟩ rfl rfl rfl (kR ?_)
      refine ws_nif_eq 17 C 23 dX1_countIndented_17 (by decide) (by have := indN_le μ nxt m lo L i; omega) (fun c17 => ?_) (fun c17 => ?_)
      · skip
        refine ws_wk (lv2 := [some (.ref (ad κ b)), some (.int (nI (smN (indN μ nxt m lo L) (i + 1)))), some (.int (nI i))]) ⟨rfl, (congrArg (fun x => Value.int (nI x)) (sm_0 c17)), rfl, trivial⟩ ?_
        refine ws_iinc 23 C dX1_countIndented_23 rfl (nI (i + 1)) (nI_1 _) rfl [some (.ref (ad κ b)), some (.int (nI (smN (indN μ nxt m lo L) (i + 1)))), some (.int (nI (i + 1)))] rfl ?_
        refine ws_goto 26 C 4 dX1_countIndented_26 (by decide) ?_
        exact ih4 c9
      · skip
        have h1 : indN μ nxt m lo L i = 1 := by have := indN_le μ nxt m lo L i; omega
        refine ws_iinc 20 C dX1_countIndented_20 rfl (nI (smN (indN μ nxt m lo L) (i + 1))) ((nI_1 _).trans (congrArg nI (sm_1 h1).symm)) rfl [some (.ref (ad κ b)), some (.int (nI (smN (indN μ nxt m lo L) (i + 1)))), some (.int (nI i))] rfl ?_
        refine ws_iinc 23 C dX1_countIndented_23 rfl (nI (i + 1)) (nI_1 _) rfl [some (.ref (ad κ b)), some (.int (nI (smN (indN μ nxt m lo L) (i + 1)))), some (.int (nI (i + 1)))] rfl ?_
        refine ws_goto 26 C 4 dX1_countIndented_26 (by decide) ?_
        exact ih4 c9
  exact L4 0 (Nat.zero_le _)

set_option maxRecDepth 100000 in
set_option maxHeartbeats 4000000 in
theorem c_X1_countUnfit {b : Nat} {p l r s lf nx : Nat → Int32} {m lo : Int32} {μ : Mu} {nxt : Nat → Nat} {L : Nat} (hL : Ob z st0 b (bLy κ b p l r (nI (mn μ)) m (mv μ 0 1) lo s (nI L) lf nx)) (hW : LyW μ p l r) (ho : Ok μ) (hb : LyB nxt (mn μ) L s) : CT zl κ yX1_countUnfit cX1_countUnfit 3 (some .int) (r0 4 86) z [.ref (ad κ b)] st0 (PRi (nI (smN (unfN μ nxt m) L)) st0) := by
  obtain ⟨P, hP⟩ : ∃ P : Option Value → St → Prop, P = (PRi (nI (smN (unfN μ nxt m) L)) st0) := ⟨_, rfl⟩
  rw [← hP]
  refine CT.of (by decide +kernel) (Nat.le_of_ble_eq_true rfl) (fun zp ze zs zm zar zbe zme zc C _ => ?_)
  have C : Cx zp zs zm zar zme zc κ cX1_countUnfit 3 RX1 (some .int) := C
  refine ws_lv (lv2 := [some (.ref (ad κ b)), none, none]) rfl ?_
  have h24 := ho.1
  have hLn := hb.L_le
  refine ws_iconst 0 C dX1_countUnfit_0 (nI 0) (by decide) ?_
  refine ws_istore_n 1 C dX1_countUnfit_1 rfl [some (.ref (ad κ b)), some (.int (nI 0)), none] rfl ?_
  refine ws_iconst 2 C dX1_countUnfit_2 (nI 0) (by decide) ?_
  refine ws_istore_n 3 C dX1_countUnfit_3 rfl [some (.ref (ad κ b)), some (.int (nI 0)), some (.int (nI 0))] rfl ?_
  have L4 : ∀ i : Nat, i ≤ L → WS zp zl ze (r0 4 86) zs zm zar zbe zme zc κ z 0 0 (QM zbe zar zs κ z (r0 4 86) P) st0 4 [some (.ref (ad κ b)), some (.int (nI (smN (unfN μ nxt m) i))), some (.int (nI i))] [] := by
    refine dnw ?_
    intro i hi ih4 
    refine ws_iload_n 4 C dX1_countUnfit_4 rfl ?_
    refine ws_aload_n 5 C dX1_countUnfit_5 rfl ?_
    refine ws_get 6 C dX1_countUnfit_6 fX1_37 hL rfl rfl ?_
    refine ws_nicmp_ge 9 C 29 dX1_countUnfit_9 (by decide) (by omega) (by omega) (fun c9 => ?_) (fun c9 => ?_)
    · skip
      refine ws_iload_n 29 C dX1_countUnfit_29 rfl ?_
      exact ws_iret 30 C  dX1_countUnfit_30 rfl (Nat.le_refl _) (Nat.le_refl _) (by rw [hP]; exact ⟨congrArg (fun z => some (Value.int z)) ((by rw [show i = L from by omega])), rfl⟩)
    · skip
      refine ws_aload_n 12 C dX1_countUnfit_12 rfl ?_
      refine ws_iload_n 13 C dX1_countUnfit_13 rfl ?_
      refine ws_callV0 14 C dX1_countUnfit_14 vX1_86 (c_X1_fits hL hW ho hb c9) rfl hL rfl rfl ⟨by decide, by decide⟩ ⟨Nat.zero_le _, Nat.zero_le _⟩ rfl rfl rfl (kR ?_)
      refine ws_if_ne 17 C 23 dX1_countUnfit_17 (by decide)  (fun c17 => ?_) (fun c17 => ?_)
      · skip
        refine ws_wk (lv2 := [some (.ref (ad κ b)), some (.int (nI (smN (unfN μ nxt m) (i + 1)))), some (.int (nI i))]) ⟨rfl, (congrArg (fun x => Value.int (nI x)) (sm_0 (unfN_y (fitI_y c17)))), rfl, trivial⟩ ?_
        refine ws_iinc 23 C dX1_countUnfit_23 rfl (nI (i + 1)) (nI_1 _) rfl [some (.ref (ad κ b)), some (.int (nI (smN (unfN μ nxt m) (i + 1)))), some (.int (nI (i + 1)))] rfl ?_
        refine ws_goto 26 C 4 dX1_countUnfit_26 (by decide) ?_
        exact ih4 c9
      · skip
        have h1 := unfN_n (fitI_n c17)
        refine ws_iinc 20 C dX1_countUnfit_20 rfl (nI (smN (unfN μ nxt m) (i + 1))) ((nI_1 _).trans (congrArg nI (sm_1 h1).symm)) rfl [some (.ref (ad κ b)), some (.int (nI (smN (unfN μ nxt m) (i + 1)))), some (.int (nI i))] rfl ?_
        refine ws_iinc 23 C dX1_countUnfit_23 rfl (nI (i + 1)) (nI_1 _) rfl [some (.ref (ad κ b)), some (.int (nI (smN (unfN μ nxt m) (i + 1)))), some (.int (nI (i + 1)))] rfl ?_
        refine ws_goto 26 C 4 dX1_countUnfit_26 (by decide) ?_
        exact ih4 c9
  exact L4 0 (Nat.zero_le _)

set_option maxRecDepth 100000 in
set_option maxHeartbeats 4000000 in
theorem c_X1_greatestBody {b : Nat} {p l r s lf nx : Nat → Int32} {m lo : Int32} {μ : Mu} {nxt : Nat → Nat} {L : Nat} (hL : Ob z st0 b (bLy κ b p l r (nI (mn μ)) m (mv μ 0 1) lo s (nI L) lf nx)) (hW : LyW μ p l r) (ho : Ok μ) (hb : LyB nxt (mn μ) L s) : CT zl κ yX1_greatestBody cX1_greatestBody 3 (some .int) (r0 3 65) z [.ref (ad κ b)] st0 (PRi (greB μ nxt L) st0) := by
  obtain ⟨P, hP⟩ : ∃ P : Option Value → St → Prop, P = (PRi (greB μ nxt L) st0) := ⟨_, rfl⟩
  rw [← hP]
  refine CT.of (by decide +kernel) (Nat.le_of_ble_eq_true rfl) (fun zp ze zs zm zar zbe zme zc C _ => ?_)
  have C : Cx zp zs zm zar zme zc κ cX1_greatestBody 3 RX1 (some .int) := C
  refine ws_lv (lv2 := [some (.ref (ad κ b)), none, none]) rfl ?_
  have h24 := ho.1
  have hLn := hb.L_le
  refine ws_aload_n 0 C dX1_greatestBody_0 rfl ?_
  refine ws_get 1 C dX1_greatestBody_1 fX1_37 hL rfl rfl ?_
  refine ws_nif_ne 4 C 11 dX1_greatestBody_4 (by decide) (by omega) (fun c4 => ?_) (fun c4 => ?_)
  · skip
    refine ws_aload_n 11 C dX1_greatestBody_11 rfl ?_
    refine ws_iconst 12 C dX1_greatestBody_12 (nI 0) (by decide) ?_
    refine ws_callV0 13 C dX1_greatestBody_13 vX1_83 (c_X1_bodyOfLine (i := 0) hL hW ho hb (by omega)) rfl hL rfl rfl ⟨by decide, by decide⟩ ⟨Nat.zero_le _, Nat.zero_le _⟩ rfl rfl rfl (kR ?_)
    refine ws_istore_n 16 C dX1_greatestBody_16 rfl [some (.ref (ad κ b)), some (.int (mxI (bol μ nxt) 0)), none] rfl ?_
    refine ws_iconst 17 C dX1_greatestBody_17 (nI 1) (by decide) ?_
    refine ws_istore_n 18 C dX1_greatestBody_18 rfl [some (.ref (ad κ b)), some (.int (mxI (bol μ nxt) 0)), some (.int (nI 1))] rfl ?_
    have L19 : ∀ k : Nat, k ≤ L - 1 → WS zp zl ze (r0 3 65) zs zm zar zbe zme zc κ z 0 0 (QM zbe zar zs κ z (r0 3 65) P) st0 19 [some (.ref (ad κ b)), some (.int (mxI (bol μ nxt) k)), some (.int (nI (1 + k)))] [] := by
      refine dnw ?_
      intro k hk ih19 
      refine ws_iload_n 19 C dX1_greatestBody_19 rfl ?_
      refine ws_aload_n 20 C dX1_greatestBody_20 rfl ?_
      refine ws_get 21 C dX1_greatestBody_21 fX1_37 hL rfl rfl ?_
      refine ws_nicmp_ge 24 C 43 dX1_greatestBody_24 (by decide) (by omega) (by omega) (fun c24 => ?_) (fun c24 => ?_)
      · skip
        refine ws_iload_n 43 C dX1_greatestBody_43 rfl ?_
        exact ws_iret 44 C  dX1_greatestBody_44 rfl (Nat.le_refl _) (Nat.le_refl _) (by rw [hP]; exact ⟨congrArg (fun z => some (Value.int z)) ((by rw [show k = L - 1 from by omega]; exact (if_neg (by omega)).symm)), rfl⟩)
      · skip
        refine ws_iload_n 27 C dX1_greatestBody_27 rfl ?_
        refine ws_aload_n 28 C dX1_greatestBody_28 rfl ?_
        refine ws_iload_n 29 C dX1_greatestBody_29 rfl ?_
        refine ws_callV0 30 C dX1_greatestBody_30 vX1_83 (c_X1_bodyOfLine (i := 1 + k) hL hW ho hb c24) rfl hL rfl rfl ⟨by decide, by decide⟩ ⟨Nat.zero_le _, Nat.zero_le _⟩ rfl rfl rfl (kR ?_)
        refine ws_mmax 33 C dX1_greatestBody_33 k336 k202 k43 k203 rfl (by decide) (Nat.le_of_ble_eq_true rfl) (Nat.zero_le _) (Nat.zero_le _) (mxI (bol μ nxt) (k + 1)) ((by rw [Nat.add_comm 1 k]; rfl)) ?_
        refine ws_istore_n 36 C dX1_greatestBody_36 rfl [some (.ref (ad κ b)), some (.int (mxI (bol μ nxt) (k + 1))), some (.int (nI (1 + k)))] rfl ?_
        refine ws_iinc 37 C dX1_greatestBody_37 rfl (nI (1 + k + 1)) (nI_1 _) rfl [some (.ref (ad κ b)), some (.int (mxI (bol μ nxt) (k + 1))), some (.int (nI (1 + k + 1)))] rfl ?_
        refine ws_goto 40 C 19 dX1_greatestBody_40 (by decide) ?_
        exact ih19 (by omega)
    exact L19 0 (Nat.zero_le _)
  · skip
    have hv : -1006 = greB μ nxt L := (if_pos c4).symm
    refine ws_sipush 7 C dX1_greatestBody_7 ((-1006)) (by decide) ?_
    exact ws_iret 10 C  dX1_greatestBody_10 rfl (Nat.le_refl _) (Nat.le_refl _) (by rw [hP]; exact ⟨congrArg (fun z => some (Value.int z)) (hv), rfl⟩)

set_option maxRecDepth 100000 in
set_option maxHeartbeats 4000000 in
theorem c_X1_breaksLike {b b2 : Nat} {p l r s lf nx p2 l2 r2 s2 lf2 nx2 : Nat → Int32} {m lo m2 lo2 sp sp2 wn wn2 : Int32} {n L L2 : Nat} {nxt nxt2 : Nat → Nat} (h24 : n ≤ 24) (hL : Ob z st0 b (bLy κ b p l r wn m sp lo s (nI L) lf nx)) (hL2 : Ob z st0 b2 (bLy κ b2 p2 l2 r2 wn2 m2 sp2 lo2 s2 (nI L2) lf2 nx2)) (hb : LyB nxt n L s) (hb2 : LyB nxt2 n L2 s2) : CT zl κ yX1_breaksLike cX1_breaksLike 3 (some .boolean) (r0 0 0) z [.ref (ad κ b), .ref (ad κ b2)] st0 (PI (fun rr u => ((rr = nI 1 ∧ L = L2 ∧ ∀ i, i < L → stt nxt i = stt nxt2 i) ∨ (rr = nI 0 ∧ ¬ (L = L2 ∧ ∀ i, i < L → stt nxt i = stt nxt2 i))) ∧ u = st0)) := by
  obtain ⟨P, hP⟩ : ∃ P : Option Value → St → Prop, P = (PI (fun rr u => ((rr = nI 1 ∧ L = L2 ∧ ∀ i, i < L → stt nxt i = stt nxt2 i) ∨ (rr = nI 0 ∧ ¬ (L = L2 ∧ ∀ i, i < L → stt nxt i = stt nxt2 i))) ∧ u = st0)) := ⟨_, rfl⟩
  rw [← hP]
  refine CT.of (by decide +kernel) (Nat.le_of_ble_eq_true rfl) (fun zp ze zs zm zar zbe zme zc C _ => ?_)
  have C : Cx zp zs zm zar zme zc κ cX1_breaksLike 3 RX1 (some .boolean) := C
  refine ws_lv (lv2 := [some (.ref (ad κ b)), some (.ref (ad κ b2)), none]) rfl ?_
  have hLn := hb.L_le
  have hLn2 := hb2.L_le
  refine ws_aload_n 0 C dX1_breaksLike_0 rfl ?_
  refine ws_get 1 C dX1_breaksLike_1 fX1_37 hL rfl rfl ?_
  refine ws_aload_n 4 C dX1_breaksLike_4 rfl ?_
  refine ws_get 5 C dX1_breaksLike_5 fX1_37 hL2 rfl rfl ?_
  refine ws_nicmp_eq 8 C 13 dX1_breaksLike_8 (by decide) (by omega) (by omega) (fun c8 => ?_) (fun c8 => ?_)
  · skip
    refine ws_iconst 13 C dX1_breaksLike_13 (nI 0) (by decide) ?_
    refine ws_istore_n 14 C dX1_breaksLike_14 rfl [some (.ref (ad κ b)), some (.ref (ad κ b2)), some (.int (nI 0))] rfl ?_
    have L15 : ∀ k : Nat, k ≤ L → ∀ (hs : ∀ i, i < k → stt nxt i = stt nxt2 i), WS zp zl ze (r0 0 0) zs zm zar zbe zme zc κ z 0 0 (QM zbe zar zs κ z (r0 0 0) P) st0 15 [some (.ref (ad κ b)), some (.ref (ad κ b2)), some (.int (nI k))] [] := by
      refine dnw ?_
      intro k hk ih15 hs
      refine ws_iload_n 15 C dX1_breaksLike_15 rfl ?_
      refine ws_aload_n 16 C dX1_breaksLike_16 rfl ?_
      refine ws_get 17 C dX1_breaksLike_17 fX1_37 hL rfl rfl ?_
      refine ws_nicmp_ge 20 C 46 dX1_breaksLike_20 (by decide) (by omega) (by omega) (fun c20 => ?_) (fun c20 => ?_)
      · skip
        refine ws_iconst 46 C dX1_breaksLike_46 (nI 1) (by decide) ?_
        exact ws_zret 47 C rfl dX1_breaksLike_47 rfl (Nat.le_refl _) (Nat.le_refl _) (by rw [hP]; exact ⟨nI 1, rfl, ⟨Or.inl ⟨rfl, c8, fun i hi => hs i (by omega)⟩, rfl⟩⟩)
      · skip
        refine ws_aload_n 23 C dX1_breaksLike_23 rfl ?_
        refine ws_get 24 C dX1_breaksLike_24 fX1_34 hL rfl rfl ?_
        refine ws_iload_n 27 C dX1_breaksLike_27 rfl ?_
        refine ws_iald 28 C dX1_breaksLike_28 hL 4 rfl (vp_in_nI (by omega) (by decide)) (nI (stt nxt k)) ((congrArg s (nI_clamp (by omega))).trans (hb.at hk)) ?_
        refine ws_aload_n 29 C dX1_breaksLike_29 rfl ?_
        refine ws_get 30 C dX1_breaksLike_30 fX1_34 hL2 rfl rfl ?_
        refine ws_iload_n 33 C dX1_breaksLike_33 rfl ?_
        refine ws_iald 34 C dX1_breaksLike_34 hL2 4 rfl (vp_in_nI (by omega) (by decide)) (nI (stt nxt2 k)) ((congrArg s2 (nI_clamp (by omega))).trans (hb2.at (by omega))) ?_
        refine ws_nicmp_eq 35 C 40 dX1_breaksLike_35 (by decide) (by have := hb.le hk; have := hb2.le (show k ≤ L2 from by omega); omega) (by have := hb.le hk; have := hb2.le (show k ≤ L2 from by omega); omega) (fun c35 => ?_) (fun c35 => ?_)
        · skip
          refine ws_iinc 40 C dX1_breaksLike_40 rfl (nI (k + 1)) (nI_1 _) rfl [some (.ref (ad κ b)), some (.ref (ad κ b2)), some (.int (nI (k + 1)))] rfl ?_
          refine ws_goto 43 C 15 dX1_breaksLike_43 (by decide) ?_
          exact ih15 c20 (fun i hi => (by rcases Nat.lt_or_ge i k with g | g; exact hs i g; rw [show i = k from by omega]; exact c35))
        · skip
          refine ws_iconst 38 C dX1_breaksLike_38 (nI 0) (by decide) ?_
          exact ws_zret 39 C rfl dX1_breaksLike_39 rfl (Nat.le_refl _) (Nat.le_refl _) (by rw [hP]; exact ⟨nI 0, rfl, ⟨Or.inr ⟨rfl, fun q => c35 (q.2 k c20)⟩, rfl⟩⟩)
    exact L15 0 (Nat.zero_le _) (fun i hi => (by omega))
  · skip
    refine ws_iconst 11 C dX1_breaksLike_11 (nI 0) (by decide) ?_
    exact ws_zret 12 C rfl dX1_breaksLike_12 rfl (Nat.le_refl _) (Nat.le_refl _) (by rw [hP]; exact ⟨nI 0, rfl, ⟨Or.inr ⟨rfl, fun q => c8 q.1⟩, rfl⟩⟩)
end
end
section
/-! the pad: its text, its fault, its words; the characters of a number -/
def PdP (pt : Nat → Nat) (pn : Nat) (f : Nat → Int32) : Prop := pn ≤ 60 ∧ (∀ k, fits .char (.int (f k)) = true) ∧ ∀ k, k < pn → f k = nI (pt k) ∧ 33 ≤ pt k ∧ pt k ≤ 126
theorem PdP.at {pt : Nat → Nat} {pn k : Nat} {f : Nat → Int32} (h : PdP pt pn f) (hk : k < pn) : f k = nI (pt k) := (h.2.2 k hk).1
theorem PdP.lt {pt : Nat → Nat} {pn k : Nat} {f : Nat → Int32} (h : PdP pt pn f) (hk : k < pn) : pt k ≤ 126 := (h.2.2 k hk).2.2
def sgk (pt : Nat → Nat) : Nat → Nat
  | 0 => 0
  | k + 1 => if pt k = 95 then 0 else sgk pt k + 1
theorem sgk_le (pt : Nat → Nat) : ∀ k, sgk pt k ≤ k := by
  intro k
  induction k with
  | zero => exact Nat.le_refl _
  | succ k ih =>
    unfold sgk
    split <;> omega
def ftf (pt : Nat → Nat) : Nat → Nat → Int32
  | 0, k => if sgk pt k = 0 then nI k else -1006
  | f + 1, k => if pt k = 95 then (if sgk pt k = 0 then nI k else ftf pt f (k + 1)) else if sc (nI (pt k)) < 8 then (if sgk pt k = 10 then nI k else ftf pt f (k + 1)) else nI k
/-- the fault; none: -1006 -/
def flt (pt : Nat → Nat) (pn : Nat) : Int32 := ftf pt pn 0
theorem ftf_s {pt : Nat → Nat} {pn k : Nat} (hk : k < pn) : ftf pt (pn - k) k = if pt k = 95 then (if sgk pt k = 0 then nI k else ftf pt (pn - (k + 1)) (k + 1)) else if sc (nI (pt k)) < 8 then (if sgk pt k = 10 then nI k else ftf pt (pn - (k + 1)) (k + 1)) else nI k := by
  rw [show pn - k = (pn - (k + 1)) + 1 from by omega]
  rfl
theorem ftf_e {pt : Nat → Nat} {pn k : Nat} (hk : k = pn) : ftf pt (pn - k) k = if sgk pt pn = 0 then nI pn else -1006 := by
  subst hk
  rw [Nat.sub_self]
  rfl
theorem nI_no {k : Nat} (hk : k ≤ 60) : ¬ nI k = -1006 := fun h => by
  have h1 := congrArg Int32.toInt h
  rw [nI_toInt (by omega)] at h1
  have h2 : (-1006 : Int32).toInt = -1006 := by decide
  omega
/-- no fault, in words -/
def NoF (pt : Nat → Nat) (pn : Nat) : Prop := (∀ k, k < pn → (pt k = 95 → sgk pt k ≠ 0) ∧ (pt k ≠ 95 → sc (nI (pt k)) < 8 ∧ sgk pt k ≠ 10)) ∧ sgk pt pn ≠ 0
theorem ftf_no {pt : Nat → Nat} : ∀ (f k : Nat), k + f ≤ 60 → ftf pt f k = -1006 → (∀ j, k ≤ j → j < k + f → (pt j = 95 → sgk pt j ≠ 0) ∧ (pt j ≠ 95 → sc (nI (pt j)) < 8 ∧ sgk pt j ≠ 10)) ∧ sgk pt (k + f) ≠ 0 := by
  intro f
  induction f with
  | zero =>
    intro k hk h
    refine ⟨fun j h1 h2 => by omega, fun q => ?_⟩
    unfold ftf at h
    rw [if_pos (show sgk pt k = 0 from q)] at h
    exact nI_no (by omega) h
  | succ f ih =>
    intro k hk h
    unfold ftf at h
    have key : ftf pt f (k + 1) = -1006 ∧ (pt k = 95 → sgk pt k ≠ 0) ∧ (pt k ≠ 95 → sc (nI (pt k)) < 8 ∧ sgk pt k ≠ 10) := by
      by_cases h1 : pt k = 95
      · rw [if_pos h1] at h
        by_cases h2 : sgk pt k = 0
        · rw [if_pos h2] at h
          exact absurd h (nI_no (by omega))
        · rw [if_neg h2] at h
          exact ⟨h, fun _ => h2, fun q => absurd h1 q⟩
      · rw [if_neg h1] at h
        by_cases h2 : sc (nI (pt k)) < 8
        · rw [if_pos h2] at h
          by_cases h3 : sgk pt k = 10
          · rw [if_pos h3] at h
            exact absurd h (nI_no (by omega))
          · rw [if_neg h3] at h
            exact ⟨h, fun q => absurd q h1, fun _ => ⟨h2, h3⟩⟩
        · rw [if_neg h2] at h
          exact absurd h (nI_no (by omega))
    obtain ⟨a1, a2⟩ := ih (k + 1) (by omega) key.1
    refine ⟨fun j h1 h2 => ?_, by rw [show k + (f + 1) = k + 1 + f from by omega]; exact a2⟩
    rcases Nat.lt_or_ge k j with g | g
    · exact a1 j g (by omega)
    · rw [show j = k from by omega]
      exact key.2
theorem flt_no {pt : Nat → Nat} {pn : Nat} (hp : pn ≤ 60) (h : flt pt pn = -1006) : NoF pt pn := by
  obtain ⟨a1, a2⟩ := ftf_no pn 0 (by omega) h
  rw [Nat.zero_add] at a2
  exact ⟨fun k hk => a1 k (Nat.zero_le _) (by omega), a2⟩
theorem ftf_yes {pt : Nat → Nat} : ∀ (f k : Nat), (∀ j, k ≤ j → j < k + f → (pt j = 95 → sgk pt j ≠ 0) ∧ (pt j ≠ 95 → sc (nI (pt j)) < 8 ∧ sgk pt j ≠ 10)) → sgk pt (k + f) ≠ 0 → ftf pt f k = -1006 := by
  intro f
  induction f with
  | zero =>
    intro k h1 h2
    unfold ftf
    exact if_neg h2
  | succ f ih =>
    intro k h1 h2
    unfold ftf
    have h3 := ih (k + 1) (fun j a b => h1 j (by omega) (by omega)) (by rw [show k + 1 + f = k + (f + 1) from by omega]; exact h2)
    have h4 := h1 k (Nat.le_refl _) (by omega)
    by_cases h5 : pt k = 95
    · rw [if_pos h5, if_neg (h4.1 h5)]
      exact h3
    · rw [if_neg h5, if_pos (h4.2 h5).1, if_neg (h4.2 h5).2]
      exact h3
/-- a place with a fault, none before it -/
theorem ftf_at {pt : Nat → Nat} : ∀ (f k x : Nat), k ≤ x → x ≤ k + f → (∀ j, k ≤ j → j < x → (pt j = 95 → sgk pt j ≠ 0) ∧ (pt j ≠ 95 → sc (nI (pt j)) < 8 ∧ sgk pt j ≠ 10)) → ((x < k + f ∧ ((pt x = 95 ∧ sgk pt x = 0) ∨ (pt x ≠ 95 ∧ (¬ sc (nI (pt x)) < 8 ∨ sgk pt x = 10)))) ∨ (x = k + f ∧ sgk pt x = 0)) → ftf pt f k = nI x := by
  intro f
  induction f with
  | zero =>
    intro k x h1 h2 h3 h4
    rcases h4 with ⟨h4, -⟩ | ⟨h4, h5⟩
    · omega
    · have e : x = k := by omega
      subst e
      unfold ftf
      exact if_pos h5
  | succ f ih =>
    intro k x h1 h2 h3 h4
    unfold ftf
    rcases Nat.lt_or_ge k x with g | g
    · have h5 := h3 k (Nat.le_refl _) g
      have h6 := ih (k + 1) x g (by omega) (fun j a b => h3 j (by omega) b) (by rw [show k + 1 + f = k + (f + 1) from by omega]; exact h4)
      by_cases h7 : pt k = 95
      · rw [if_pos h7, if_neg (h5.1 h7)]
        exact h6
      · rw [if_neg h7, if_pos (h5.2 h7).1, if_neg (h5.2 h7).2]
        exact h6
    · have e : x = k := by omega
      subst e
      rcases h4 with ⟨-, ⟨h5, h6⟩ | ⟨h5, h6⟩⟩ | ⟨h5, -⟩
      · rw [if_pos h5, if_pos h6]
      · rw [if_neg h5]
        rcases h6 with h6 | h6
        · rw [if_neg h6]
        · by_cases h7 : sc (nI (pt x)) < 8
          · rw [if_pos h7, if_pos h6]
          · rw [if_neg h7]
      · omega
/-- where the word that begins at a ends -/
def exf (pt : Nat → Nat) : Nat → Nat → Nat
  | 0, k => k
  | f + 1, k => if pt k = 95 then k else exf pt f (k + 1)
def ext (pt : Nat → Nat) (pn a : Nat) : Nat := exf pt (pn - a) a
def wnx (pt : Nat → Nat) (pn a : Nat) : Nat := ext pt pn a + 1
theorem exf_spec {pt : Nat → Nat} : ∀ (f k : Nat), k ≤ exf pt f k ∧ exf pt f k ≤ k + f ∧ (∀ j, k ≤ j → j < exf pt f k → pt j ≠ 95) ∧ (exf pt f k = k + f ∨ pt (exf pt f k) = 95) := by
  intro f
  induction f with
  | zero => intro k; exact ⟨Nat.le_refl _, Nat.le_refl _, fun j h1 (h2 : j < k) => by omega, Or.inl rfl⟩
  | succ f ih =>
    intro k
    unfold exf
    by_cases h : pt k = 95
    · rw [if_pos h]
      exact ⟨Nat.le_refl _, by omega, fun j h1 h2 => by omega, Or.inr h⟩
    · rw [if_neg h]
      obtain ⟨a1, a2, a3, a4⟩ := ih (k + 1)
      refine ⟨by omega, by omega, fun j h1 h2 => ?_, ?_⟩
      · rcases Nat.lt_or_ge k j with g | g
        · exact a3 j g h2
        · rw [show j = k from by omega]
          exact h
      · rcases a4 with a | a
        · exact Or.inl (by omega)
        · exact Or.inr a
theorem ext_spec {pt : Nat → Nat} {pn a : Nat} (ha : a ≤ pn) : a ≤ ext pt pn a ∧ ext pt pn a ≤ pn ∧ (∀ j, a ≤ j → j < ext pt pn a → pt j ≠ 95) ∧ (ext pt pn a = pn ∨ pt (ext pt pn a) = 95) := by
  obtain ⟨a1, a2, a3, a4⟩ := exf_spec (pt := pt) (pn - a) a
  refine ⟨a1, ?_, a3, ?_⟩
  · show exf pt (pn - a) a ≤ pn
    omega
  · rcases a4 with h | h
    · exact Or.inl (by show exf pt (pn - a) a = pn; omega)
    · exact Or.inr h
theorem ext_is {pt : Nat → Nat} {pn a x : Nat} (h1 : a ≤ x) (h2 : x ≤ pn) (h3 : ∀ j, a ≤ j → j < x → pt j ≠ 95) (h4 : x = pn ∨ pt x = 95) : ext pt pn a = x := by
  obtain ⟨a1, a2, a3, a4⟩ := ext_spec (pt := pt) (pn := pn) (a := a) (by omega)
  rcases Nat.lt_trichotomy (ext pt pn a) x with q | q | q
  · rcases a4 with h | h
    · omega
    · exact absurd h (h3 _ a1 q)
  · exact q
  · rcases h4 with h | h
    · omega
    · exact absurd h (a3 x h1 q)
theorem wnx_adv (pt : Nat → Nat) (pn : Nat) : Adv (wnx pt pn) (pn + 1) := fun k hk => by
  have := ext_spec (pt := pt) (pn := pn) (a := k) (by omega)
  exact ⟨by show k < ext pt pn k + 1; omega, by show ext pt pn k + 1 ≤ pn + 1; omega⟩
/-- how many words; where each begins; how long it is -/
def wno (pt : Nat → Nat) (pn : Nat) : Nat := lno (wnx pt pn) (pn + 1)
def wst (pt : Nat → Nat) (pn i : Nat) : Nat := stt (wnx pt pn) i
def wln (pt : Nat → Nat) (pn i : Nat) : Nat := ext pt pn (wst pt pn i) - wst pt pn i
theorem wno_br (pt : Nat → Nat) (pn : Nat) : Br (wnx pt pn) (pn + 1) (wno pt pn) := lno_br (wnx_adv pt pn)
theorem wst_le {pt : Nat → Nat} {pn i : Nat} (hi : i < wno pt pn) : wst pt pn i ≤ pn := Nat.le_of_lt_succ ((wno_br pt pn).2 i hi)
theorem wst_s (pt : Nat → Nat) (pn i : Nat) : wst pt pn (i + 1) = ext pt pn (wst pt pn i) + 1 := rfl
theorem wno_le (pt : Nat → Nat) (pn : Nat) : wno pt pn ≤ pn + 1 := (wno_br pt pn).le (wnx_adv pt pn)
theorem wno_pos (pt : Nat → Nat) (pn : Nat) : 0 < wno pt pn := by
  rcases Nat.eq_zero_or_pos (wno pt pn) with h | h
  · have := (wno_br pt pn).1
    rw [h] at this
    exact absurd this (by show 0 ≠ pn + 1; omega)
  · exact h
/-- signs of the word that stands at a place -/
theorem sgk_in {pt : Nat → Nat} {a : Nat} (h0 : sgk pt a = 0) : ∀ k, (∀ j, a ≤ j → j < a + k → pt j ≠ 95) → sgk pt (a + k) = k := by
  intro k
  induction k with
  | zero => intro _; exact h0
  | succ k ih =>
    intro h
    show (if pt (a + k) = 95 then 0 else sgk pt (a + k) + 1) = _
    rw [if_neg (h (a + k) (by omega) (by omega)), ih (fun j h1 h2 => h j h1 (by omega))]
theorem wst_sg {pt : Nat → Nat} {pn : Nat} : ∀ i, i < wno pt pn → sgk pt (wst pt pn i) = 0 := by
  intro i
  cases i with
  | zero => intro _; rfl
  | succ i =>
    intro hi
    have h1 := wst_le hi
    rw [wst_s] at h1 ⊢
    have h2 := ext_spec (pt := pt) (pn := pn) (a := wst pt pn i) (wst_le (by omega))
    show (if pt (ext pt pn (wst pt pn i)) = 95 then 0 else _) = 0
    rcases h2.2.2.2 with h | h
    · omega
    · rw [if_pos h]
theorem word_ok {pt : Nat → Nat} {pn i : Nat} (hN : NoF pt pn) (hi : i < wno pt pn) : 1 ≤ wln pt pn i ∧ wln pt pn i ≤ 10 ∧ (∀ j, j < wln pt pn i → wst pt pn i + j < pn ∧ pt (wst pt pn i + j) ≠ 95 ∧ sc (nI (pt (wst pt pn i + j))) < 8) ∧ ∀ j, j ≤ wln pt pn i → sgk pt (wst pt pn i + j) = j := by
  have h1 := wst_le hi
  obtain ⟨a1, a2, a3, a4⟩ := ext_spec (pt := pt) (pn := pn) h1
  have h0 := wst_sg i hi
  have hsg : ∀ j, j ≤ wln pt pn i → sgk pt (wst pt pn i + j) = j := fun j hj => sgk_in h0 j (fun x h2 h3 => a3 x h2 (by unfold wln at hj; omega))
  have he : wst pt pn i + wln pt pn i = ext pt pn (wst pt pn i) := by unfold wln; omega
  refine ⟨?_, ?_, fun j hj => ?_, hsg⟩
  · rcases Nat.eq_zero_or_pos (wln pt pn i) with h | h
    · exfalso
      have h2 : ext pt pn (wst pt pn i) = wst pt pn i := by omega
      rcases a4 with h3 | h3
      · apply hN.2
        rw [← h3, h2]
        exact h0
      · rcases Nat.lt_or_ge (wst pt pn i) pn with g | g
        · exact ((hN.1 _ g).1 (by rw [← h2]; exact h3)) h0
        · apply hN.2
          rw [show pn = wst pt pn i from by omega]
          exact h0
    · exact h
  · rcases Nat.lt_or_ge 10 (wln pt pn i) with g | g
    · exfalso
      have h2 := hsg 10 (by omega)
      exact ((hN.1 (wst pt pn i + 10) (by omega)).2 (a3 _ (by omega) (by omega))).2 h2
    · exact g
  · have h2 : pt (wst pt pn i + j) ≠ 95 := a3 _ (by omega) (by omega)
    exact ⟨by omega, h2, ((hN.1 _ (by omega)).2 h2).1⟩
/-- the words of the pad behind the words of the text -/
def muRead (μ : Mu) (pt : Nat → Nat) (pn : Nat) : Mu := (μ.1, mn μ + wno pt pn, fun w => if w < mn μ then ml μ w else wln pt pn (w - mn μ), fun w j => if w < mn μ then mg μ w j else nI (pt (wst pt pn (w - mn μ) + j)))
theorem muRead_ok {μ : Mu} {pt : Nat → Nat} {pn : Nat} (ho : Ok μ) (hN : NoF pt pn) (h : mn μ + wno pt pn ≤ 24) : Ok (muRead μ pt pn) := by
  refine ⟨h, fun w hw => ?_⟩
  have hw : w < mn μ + wno pt pn := hw
  by_cases hc : w < mn μ
  · have := ho.2 w hc
    simpa [muRead, ml, mg, so, hc] using this
  · have := word_ok (i := w - mn μ) hN (by omega)
    have h2 : 1 ≤ wln pt pn (w - mn μ) ∧ wln pt pn (w - mn μ) ≤ 10 ∧ ∀ j, j < wln pt pn (w - mn μ) → sc (nI (pt (wst pt pn (w - mn μ) + j))) < 8 := ⟨this.1, this.2.1, fun j hj => (this.2.2.1 j hj).2.2⟩
    simpa [muRead, ml, mg, so, hc] using h2
/-- the characters of a number -/
def lenc : Nat → Nat → Nat → Nat
  | 0, _, a => a
  | f + 1, v, a => if v = 0 then a else if v % 256 < 33 ∨ 126 < v % 256 then 0 else lenc f (v / 256) (a + 1)
def plen (V : Nat) : Nat := lenc 8 V 0
def pby (V i : Nat) : Nat := V / 2 ^ (8 * i) % 256
theorem pby_0 (V : Nat) : V / 2 ^ (8 * 0) = V := by simp
theorem pby_s (V i : Nat) : V / 2 ^ (8 * i) / 256 = V / 2 ^ (8 * (i + 1)) := by
  rw [Nat.div_div_eq_div_mul, show 8 * (i + 1) = 8 * i + 8 from by omega, Nat.pow_add]
theorem lenc_spec {V : Nat} : ∀ (f i : Nat), lenc f (V / 2 ^ (8 * i)) i = 0 ∨ (i ≤ lenc f (V / 2 ^ (8 * i)) i ∧ lenc f (V / 2 ^ (8 * i)) i ≤ i + f ∧ ∀ j, i ≤ j → j < lenc f (V / 2 ^ (8 * i)) i → 33 ≤ pby V j ∧ pby V j ≤ 126) := by
  intro f
  induction f with
  | zero => intro i; exact Or.inr ⟨Nat.le_refl _, Nat.le_refl _, fun j h1 (h2 : j < i) => by omega⟩
  | succ f ih =>
    intro i
    unfold lenc
    by_cases h0 : V / 2 ^ (8 * i) = 0
    · rw [if_pos h0]
      exact Or.inr ⟨Nat.le_refl _, by omega, fun j h1 h2 => by omega⟩
    · rw [if_neg h0]
      by_cases h1 : V / 2 ^ (8 * i) % 256 < 33 ∨ 126 < V / 2 ^ (8 * i) % 256
      · rw [if_pos h1]
        exact Or.inl rfl
      · rw [if_neg h1, pby_s]
        rcases ih (i + 1) with h | ⟨a, b, c⟩
        · exact Or.inl h
        · refine Or.inr ⟨by omega, by omega, fun j h2 h3 => ?_⟩
          rcases Nat.lt_or_ge i j with g | g
          · exact c j g h3
          · rw [show j = i from by omega]
            unfold pby
            omega
theorem plen_spec (V : Nat) : plen V = 0 ∨ (plen V ≤ 8 ∧ ∀ j, j < plen V → 33 ≤ pby V j ∧ pby V j ≤ 126) := by
  have := lenc_spec (V := V) 8 0
  rw [pby_0] at this
  rcases this with h | ⟨a, b, c⟩
  · exact Or.inl h
  · exact Or.inr ⟨by show lenc 8 V 0 ≤ 8; omega, fun j hj => c j (Nat.zero_le _) hj⟩
theorem plen_le (V : Nat) : plen V ≤ 8 := by
  rcases plen_spec V with h | h
  · omega
  · exact h.1
/-- the pad with more characters -/
def ptPut (pt : Nat → Nat) (pn V n : Nat) : Nat → Nat := fun k => if k < pn then pt k else pby V (n - 1 - (k - pn))
theorem lN_0 {v : Nat} (hv : v < 2 ^ 64) : lg_cmp (lN v) 0 = 0 ↔ v = 0 := by
  rw [lg_cmp_eq]
  constructor
  · intro h
    have h1 := congrArg (fun x : Int64 => x.toBitVec.toNat) h
    rw [wb_tn hv] at h1
    exact h1
  · intro h
    rw [h]
    rfl
theorem lN_and255 {v : Nat} (hv : v < 2 ^ 64) : lN v &&& 255 = lN (v % 256) := wb_mask (k := 8) hv (by omega)
theorem lN_sh8 {v : Nat} (hv : v < 2 ^ 64) : ((lN v).toUInt64 >>> ((nI 8).toInt64.toUInt64 &&& Int64.toUInt64 63)).toInt64 = lN (v / 256) := wb_shr (k := 8) hv (by omega)
theorem chr16 {q : Nat} (h : q < 65536) : ((nI q).toUInt32 % 65536).toInt32 = nI q := by
  rw [pk_char, pk_tn (by omega), Nat.mod_eq_of_lt h]
theorem scv_neg {x : Int32} (h : scv (-1) x < 0) : ¬ sc x < 8 := fun q => by
  rw [scv_k q] at h
  exact nI_pos (by omega) h
theorem scv_nn {x : Int32} (h : ¬ scv (-1) x < 0) : sc x < 8 := by
  rcases Nat.lt_or_ge (sc x) 8 with q | q
  · exact q
  · exfalso
    apply h
    unfold scv
    rw [if_neg (by omega)]
    decide
theorem app_1 {pt : Nat → Nat} {t2 : Nat → Int32} {pn x : Nat} {v : Int32} (h1 : ∀ q, q < pn → t2 q = nI (pt q)) (hx : pn ≤ x) : ∀ q, q < pn → upd t2 x v q = nI (pt q) := fun q hq => by
  rw [pk_un (by omega)]
  exact h1 q hq
theorem app_2 {t2 : Nat → Int32} {pn n k V : Nat} (hk : k < n) (h2 : ∀ q, n - k ≤ q → q < n → t2 (pn + q) = nI (pby V (n - 1 - q))) : ∀ q, n - (k + 1) ≤ q → q < n → upd t2 (pn + n - 1 - k) (nI (pby V k)) (pn + q) = nI (pby V (n - 1 - q)) := by
  intro q h3 h4
  by_cases hc : q = n - 1 - k
  · rw [show pn + n - 1 - k = pn + q from by omega, pk_us, show n - 1 - q = k from by omega]
  · rw [pk_un (by omega)]
    exact h2 q (by omega) h4
theorem app_end {pt : Nat → Nat} {t t2 : Nat → Int32} {pn n V : Nat} (hp : PdP pt pn t) (hpn : pn + n ≤ 60) (hc : ∀ j, j < n → 33 ≤ pby V j ∧ pby V j ≤ 126) (h1 : ∀ q, q < pn → t2 q = nI (pt q)) (h2 : ∀ q, q < n → t2 (pn + q) = nI (pby V (n - 1 - q))) (h3 : ∀ q, fits .char (.int (t2 q)) = true) : PdP (ptPut pt pn V n) (pn + n) t2 := by
  refine ⟨hpn, h3, fun k hk => ?_⟩
  unfold ptPut
  by_cases hc2 : k < pn
  · rw [if_pos hc2]
    exact ⟨h1 k hc2, (hp.2.2 k hc2).2⟩
  · rw [if_neg hc2]
    have := h2 (k - pn) (by omega)
    rw [show pn + (k - pn) = k from by omega] at this
    exact ⟨this, hc _ (by omega)⟩
/-- place k stands in word i, or behind it -/
def WrdI (pt : Nat → Nat) (pn k i : Nat) : Prop := i ≤ k ∧ i < wno pt pn ∧ wst pt pn i ≤ k ∧ k ≤ ext pt pn (wst pt pn i)
theorem WrdI.lt {pt : Nat → Nat} {pn k i : Nat} (h : WrdI pt pn k i) : i < wno pt pn := h.2.1
theorem WrdI.start {pt : Nat → Nat} {pn : Nat} : WrdI pt pn 0 0 := ⟨Nat.le_refl _, wno_pos pt pn, Nat.le_refl _, Nat.zero_le _⟩
theorem WrdI.go {pt : Nat → Nat} {pn k i : Nat} (h : WrdI pt pn k i) (hk : k < pn) (hc : ¬ pt k = 95) : WrdI pt pn (k + 1) i := by
  obtain ⟨h0, h1, h2, h3⟩ := h
  obtain ⟨a1, a2, a3, a4⟩ := ext_spec (pt := pt) (pn := pn) (wst_le h1)
  refine ⟨by omega, h1, by omega, ?_⟩
  rcases Nat.lt_or_ge k (ext pt pn (wst pt pn i)) with g | g
  · exact g
  · have e : ext pt pn (wst pt pn i) = k := by omega
    rw [e] at a4
    rcases a4 with a | a
    · omega
    · exact absurd a hc
theorem WrdI.gap {pt : Nat → Nat} {pn k i : Nat} (h : WrdI pt pn k i) (hk : k < pn) (hc : pt k = 95) : ext pt pn (wst pt pn i) = k := by
  obtain ⟨h0, h1, h2, h3⟩ := h
  obtain ⟨a1, a2, a3, a4⟩ := ext_spec (pt := pt) (pn := pn) (wst_le h1)
  rcases Nat.lt_or_ge k (ext pt pn (wst pt pn i)) with g | g
  · exact absurd hc (a3 k h2 g)
  · omega
theorem WrdI.new {pt : Nat → Nat} {pn k i : Nat} (h : WrdI pt pn k i) (hk : k < pn) (hc : pt k = 95) : WrdI pt pn (k + 1) (i + 1) := by
  have e := h.gap hk hc
  obtain ⟨h0, h1, h2, h3⟩ := h
  have e2 : wst pt pn (i + 1) = k + 1 := by rw [wst_s, e]
  refine ⟨by omega, ?_, by omega, ?_⟩
  · rcases Nat.lt_or_ge (i + 1) (wno pt pn) with g | g
    · exact g
    · have e3 : i + 1 = wno pt pn := by omega
      have := (wno_br pt pn).1
      rw [← e3] at this
      have e4 : stt (wnx pt pn) (i + 1) = k + 1 := e2
      omega
  · rw [e2]
    exact (ext_spec (pt := pt) (pn := pn) (a := k + 1) (by omega)).1
theorem WrdI.end {pt : Nat → Nat} {pn k i : Nat} (h : WrdI pt pn k i) (hk : k = pn) : 1 + i = wno pt pn := by
  obtain ⟨h0, h1, h2, h3⟩ := h
  have a2 := (ext_spec (pt := pt) (pn := pn) (wst_le h1)).2.1
  have e : ext pt pn (wst pt pn i) = pn := by omega
  have hb : Br (wnx pt pn) (pn + 1) (i + 1) := ⟨by show wst pt pn (i + 1) = _; rw [wst_s, e], fun q hq => (wno_br pt pn).2 q (by omega)⟩
  have := hb.one (wno_br pt pn)
  omega
theorem WrdI.word {pt : Nat → Nat} {pn k i : Nat} (h : WrdI pt pn k i) (hN : NoF pt pn) (hk : k < pn) (hc : ¬ pt k = 95) : wst pt pn i ≤ k ∧ k - wst pt pn i < wln pt pn i ∧ wln pt pn i ≤ 10 := by
  have h4 := h.go hk hc
  have h5 := (word_ok hN h.2.1).2.1
  refine ⟨h.2.2.1, ?_, h5⟩
  have := h4.2.2.2
  have := h.2.2.1
  unfold wln
  omega
/-- the sheet while words are added -/
def AddI (μ : Mu) (pt : Nat → Nat) (pn k i : Nat) (f5 f6 g5 g6 : Nat → Int32) : Prop := (∀ j, fits .char (.int (g5 j)) = true) ∧ (∀ w, w < mn μ → g6 w = f6 w) ∧ (∀ w, w < mn μ → ∀ j, j < 10 → g5 (w * 10 + j) = f5 (w * 10 + j)) ∧ (∀ q, q < i → g6 (mn μ + q) = nI (wln pt pn q)) ∧ g6 (mn μ + i) = nI (k - wst pt pn i) ∧ (∀ q, q < i → ∀ j, j < wln pt pn q → g5 ((mn μ + q) * 10 + j) = nI (pt (wst pt pn q + j))) ∧ ∀ j, j < k - wst pt pn i → g5 ((mn μ + i) * 10 + j) = nI (pt (wst pt pn i + j))
theorem AddI.cur {μ : Mu} {pt : Nat → Nat} {pn k i : Nat} {f5 f6 g5 g6 : Nat → Int32} (h : AddI μ pt pn k i f5 f6 g5 g6) : g6 (mn μ + i) = nI (k - wst pt pn i) := h.2.2.2.2.1
theorem AddI.start {μ : Mu} {pt : Nat → Nat} {pn : Nat} {f1 f2 f3 f4 f5 f6 : Nat → Int32} (hR : Rp μ f1 f2 f3 f4 f5 f6) : AddI μ pt pn 0 0 f5 f6 f5 (upd f6 (mn μ) (nI 0)) := ⟨hR.fit, fun w hw => pk_un (by omega), fun w hw j hj => rfl, fun q hq => by omega, by rw [Nat.add_zero, pk_us, Nat.zero_sub], fun q hq => by omega, fun j hj => by omega⟩
theorem AddI.new {μ : Mu} {pt : Nat → Nat} {pn k i : Nat} {f5 f6 g5 g6 : Nat → Int32} (h : AddI μ pt pn k i f5 f6 g5 g6) (hi : WrdI pt pn k i) (hk : k < pn) (hc : pt k = 95) : AddI μ pt pn (k + 1) (i + 1) f5 f6 g5 (upd g6 (mn μ + i + 1) (nI 0)) := by
  obtain ⟨h1, h2, h3, h4, h5, h6, h7⟩ := h
  have e := hi.gap hk hc
  have e2 : wst pt pn (i + 1) = k + 1 := by rw [wst_s, e]
  have e3 : wln pt pn i = k - wst pt pn i := by unfold wln; rw [e]
  refine ⟨h1, fun w hw => ?_, h3, fun q hq => ?_, ?_, fun q hq j hj => ?_, fun j hj => ?_⟩
  · rw [pk_un (by omega)]
    exact h2 w hw
  · rw [pk_un (by omega)]
    rcases Nat.lt_or_ge q i with g | g
    · exact h4 q g
    · rw [show q = i from by omega, e3]
      exact h5
  · rw [show mn μ + (i + 1) = mn μ + i + 1 from by omega, pk_us, e2, Nat.sub_self]
  · rcases Nat.lt_or_ge q i with g | g
    · exact h6 q g j hj
    · have eq : q = i := by omega
      subst eq
      rw [e3] at hj
      exact h7 j hj
  · rw [e2] at hj
    omega
theorem AddI.add {μ : Mu} {pt : Nat → Nat} {pn k i : Nat} {f5 f6 g5 g6 : Nat → Int32} (h : AddI μ pt pn k i f5 f6 g5 g6) (hN : NoF pt pn) (hi : WrdI pt pn k i) (hk : k < pn) (hc : ¬ pt k = 95) (hle : pt k < 65536) : AddI μ pt pn (k + 1) i f5 f6 (upd g5 ((mn μ + i + 1 - 1) * 10 + (k - wst pt pn i)) (nI (pt k))) (upd g6 (mn μ + i + 1 - 1) (nI (k - wst pt pn i + 1))) := by
  obtain ⟨h1, h2, h3, h4, h5, h6, h7⟩ := h
  obtain ⟨a1, a2, a3⟩ := hi.word hN hk hc
  obtain ⟨f, hx⟩ : ∃ z, z = nI (pt k) := ⟨_, rfl⟩
  rw [show mn μ + i + 1 - 1 = mn μ + i from by omega]
  refine ⟨upd_fit h1 ?_, fun w hw => ?_, fun w hw j hj => ?_, fun q hq => ?_, ?_, fun q hq j hj => ?_, fun j hj => ?_⟩
  · exact fit_of hle
  · rw [pk_un (by omega)]
    exact h2 w hw
  · rw [pk_un (by omega)]
    exact h3 w hw j hj
  · rw [pk_un (by omega)]
    exact h4 q hq
  · rw [pk_us]
    congr 1
    omega
  · have h9 := (word_ok (i := q) hN (by have := hi.2.1; omega)).2.1
    rw [pk_un (by omega)]
    exact h6 q hq j hj
  · rcases Nat.lt_or_ge j (k - wst pt pn i) with g | g
    · rw [pk_un (by omega)]
      exact h7 j g
    · have e : j = k - wst pt pn i := by omega
      subst e
      rw [pk_us, show wst pt pn i + (k - wst pt pn i) = k from by omega]
theorem AddI.end {μ : Mu} {pt : Nat → Nat} {pn k i : Nat} {f1 f2 f3 f4 f5 f6 g5 g6 : Nat → Int32} (h : AddI μ pt pn k i f5 f6 g5 g6) (hR : Rp μ f1 f2 f3 f4 f5 f6) (hN : NoF pt pn) (hw : mn μ + wno pt pn ≤ 24) (hi : WrdI pt pn k i) (hk : k = pn) : Rp (muRead μ pt pn) f1 f2 f3 f4 g5 g6 := by
  obtain ⟨h1, h2, h3, h4, h5, h6, h7⟩ := h
  have e0 := hi.end hk
  have e : ext pt pn (wst pt pn i) = k := by
    have := (ext_spec (pt := pt) (pn := pn) (wst_le hi.2.1)).2.1
    have := hi.2.2.2
    omega
  have e3 : wln pt pn i = k - wst pt pn i := by unfold wln; rw [e]
  refine ⟨muRead_ok hR.ok hN hw, trivial, fun k hk => hR.set hk, fun k hk => hR.wid hk, fun k hk => hR.lef hk, fun k hk => hR.rig hk, h1, fun w hw2 => ?_, fun w hw2 j hj => ?_⟩
  · have hw2 : w < mn μ + wno pt pn := hw2
    show _ = nI (if w < mn μ then ml μ w else wln pt pn (w - mn μ))
    by_cases hc : w < mn μ
    · rw [if_pos hc, h2 w hc]
      exact hR.len hc
    · rw [if_neg hc]
      rcases Nat.lt_or_ge (w - mn μ) i with g | g
      · have := h4 _ g
        rw [show mn μ + (w - mn μ) = w from by omega] at this
        exact this
      · rw [show w = mn μ + i from by omega, h5, show mn μ + i - mn μ = i from by omega, e3]
  · have hw2 : w < mn μ + wno pt pn := hw2
    have hj : j < if w < mn μ then ml μ w else wln pt pn (w - mn μ) := hj
    show _ = if w < mn μ then mg μ w j else nI (pt (wst pt pn (w - mn μ) + j))
    by_cases hc : w < mn μ
    · rw [if_pos hc] at hj ⊢
      have := (hR.ok.len hc).2
      rw [h3 w hc j (by omega)]
      exact hR.sig hc hj
    · rw [if_neg hc] at hj ⊢
      rcases Nat.lt_or_ge (w - mn μ) i with g | g
      · have := h6 _ g j hj
        rw [show mn μ + (w - mn μ) = w from by omega] at this
        exact this
      · have e4 : w = mn μ + i := by omega
        subst e4
        rw [show mn μ + i - mn μ = i from by omega] at hj ⊢
        rw [e3] at hj
        exact h7 j hj
end
section
section
variable {zl : Launch} {κ : Kt} {z : Nat} {st0 : St}
set_option maxRecDepth 100000 in
set_option maxHeartbeats 4000000 in
theorem c_X2_lengthOf {V : Nat} (hV : V < 2 ^ 64) : CT zl κ yX2_lengthOf cX2_lengthOf 7 (some .int) (r0 0 0) z [.long (lN V)] st0 (PRi (nI (plen V)) st0) := by
  obtain ⟨P, hP⟩ : ∃ P : Option Value → St → Prop, P = (PRi (nI (plen V)) st0) := ⟨_, rfl⟩
  rw [← hP]
  refine CT.of (by decide +kernel) (Nat.le_of_ble_eq_true rfl) (fun zp ze zs zm zar zbe zme zc C _ => ?_)
  have C : Cx zp zs zm zar zme zc κ cX2_lengthOf 7 RX2 (some .int) := C
  refine ws_lv (lv2 := [some (.long (lN V)), none, none, none, none, none, none]) rfl ?_
  refine ws_iconst 0 C dX2_lengthOf_0 (nI 0) (by decide) ?_
  refine ws_istore_n 1 C dX2_lengthOf_1 rfl [some (.long (lN V)), none, some (.int (nI 0)), none, none, none, none] rfl ?_
  refine ws_lload_n 2 C dX2_lengthOf_2 rfl ?_
  refine ws_lstore_n 3 C dX2_lengthOf_3 rfl rfl [some (.long (lN V)), none, some (.int (nI 0)), some (.long (lN V)), none, none, none] rfl ?_
  refine ws_iconst 4 C dX2_lengthOf_4 (nI 0) (by decide) ?_
  refine ws_istore 5 C dX2_lengthOf_5 rfl [some (.long (lN V)), none, some (.int (nI 0)), some (.long (lN V)), none, some (.int (nI 0)), none] rfl ?_
  have L7 : ∀ i : Nat, i ≤ 8 → ∀ (v : Nat), ∀ (hv : v < 2 ^ 64), ∀ (he : plen V = lenc (8 - i) v i), WS zp zl ze (r0 0 0) zs zm zar zbe zme zc κ z 0 0 (QM zbe zar zs κ z (r0 0 0) P) st0 7 [some (.long (lN V)), none, some (.int (nI i)), some (.long (lN v)), none, some (.int (nI i)), none] [] := by
    refine dnw ?_
    intro i hi ih7 v hv he
    refine ws_iload 7 C dX2_lengthOf_7 rfl ?_
    refine ws_bipush 9 C dX2_lengthOf_9 (nI 8) (by decide) ?_
    refine ws_nicmp_ge 11 C 58 dX2_lengthOf_11 (by decide) (by omega) (by omega) (fun c11 => ?_) (fun c11 => ?_)
    · skip
      have hr : plen V = i := by rw [he, show 8 - i = 0 from by omega]; rfl
      refine ws_iload_n 58 C dX2_lengthOf_58 rfl ?_
      exact ws_iret 59 C  dX2_lengthOf_59 rfl (Nat.le_refl _) (Nat.le_refl _) (by rw [hP]; exact ⟨congrArg (fun z => some (Value.int z)) ((congrArg nI hr.symm)), rfl⟩)
    · skip
      refine ws_lload_n 14 C dX2_lengthOf_14 rfl ?_
      refine ws_lconst 15 C dX2_lengthOf_15 0 (by decide) ?_
      refine ws_lcmp 16 C dX2_lengthOf_16 (lg_cmp (lN v) 0) rfl ?_
      refine ws_if_eq 17 C 58 dX2_lengthOf_17 (by decide)  (fun c17 => ?_) (fun c17 => ?_)
      · skip
        have hz := (lN_0 hv).mp c17
        have hr : plen V = i := by rw [he, hz]; rcases (show 8 - i = 0 ∨ ∃ q, 8 - i = q + 1 from by rcases Nat.eq_zero_or_pos (8 - i) with h | h; exact Or.inl h; exact Or.inr ⟨8 - i - 1, by omega⟩) with h | ⟨q, h⟩ <;> rw [h] <;> rfl
        refine ws_iload_n 58 C dX2_lengthOf_58 rfl ?_
        exact ws_iret 59 C  dX2_lengthOf_59 rfl (Nat.le_refl _) (Nat.le_refl _) (by rw [hP]; exact ⟨congrArg (fun z => some (Value.int z)) ((congrArg nI hr.symm)), rfl⟩)
      · skip
        have hnz : ¬ v = 0 := fun q => c17 ((lN_0 hv).mpr q)
        have hst : lenc (8 - i) v i = if v % 256 < 33 ∨ 126 < v % 256 then 0 else lenc (8 - (i + 1)) (v / 256) (i + 1) := by rw [show 8 - i = (8 - (i + 1)) + 1 from by omega]; exact if_neg hnz
        refine ws_lload_n 20 C dX2_lengthOf_20 rfl ?_
        refine ws_ldc2 21 C dX2_lengthOf_21 (255) k378 ?_
        refine ws_land 24 C dX2_lengthOf_24 (lN (v % 256)) (lN_and255 hv) ?_
        refine ws_l2i 25 C dX2_lengthOf_25 (nI (v % 256)) (lN_i _) ?_
        refine ws_istore 26 C dX2_lengthOf_26 rfl [some (.long (lN V)), none, some (.int (nI i)), some (.long (lN v)), none, some (.int (nI i)), some (.int (nI (v % 256)))] rfl ?_
        refine ws_iload 28 C dX2_lengthOf_28 rfl ?_
        refine ws_bipush 30 C dX2_lengthOf_30 (nI 33) (by decide) ?_
        refine ws_nicmp_lt 32 C 42 dX2_lengthOf_32 (by decide) (by omega) (by omega) (fun c32 => ?_) (fun c32 => ?_)
        · skip
          have hr : plen V = 0 := by rw [he, hst]; exact if_pos (Or.inl c32)
          refine ws_iconst 42 C dX2_lengthOf_42 (nI 0) (by decide) ?_
          exact ws_iret 43 C  dX2_lengthOf_43 rfl (Nat.le_refl _) (Nat.le_refl _) (by rw [hP]; exact ⟨congrArg (fun z => some (Value.int z)) ((congrArg nI hr.symm)), rfl⟩)
        · skip
          refine ws_iload 35 C dX2_lengthOf_35 rfl ?_
          refine ws_bipush 37 C dX2_lengthOf_37 (nI 126) (by decide) ?_
          refine ws_nicmp_le 39 C 44 dX2_lengthOf_39 (by decide) (by omega) (by omega) (fun c39 => ?_) (fun c39 => ?_)
          · skip
            have he2 : plen V = lenc (8 - (i + 1)) (v / 256) (i + 1) := by rw [he, hst]; exact if_neg (by omega)
            refine ws_iinc 44 C dX2_lengthOf_44 rfl (nI (i + 1)) (nI_1 _) rfl [some (.long (lN V)), none, some (.int (nI (i + 1))), some (.long (lN v)), none, some (.int (nI i)), some (.int (nI (v % 256)))] rfl ?_
            refine ws_lload_n 47 C dX2_lengthOf_47 rfl ?_
            refine ws_bipush 48 C dX2_lengthOf_48 (nI 8) (by decide) ?_
            refine ws_lushr 50 C dX2_lengthOf_50 (lN (v / 256)) (lN_sh8 hv) ?_
            refine ws_lstore_n 51 C dX2_lengthOf_51 rfl rfl [some (.long (lN V)), none, some (.int (nI (i + 1))), some (.long (lN (v / 256))), none, some (.int (nI i)), some (.int (nI (v % 256)))] rfl ?_
            refine ws_iinc 52 C dX2_lengthOf_52 rfl (nI (i + 1)) (nI_1 _) rfl [some (.long (lN V)), none, some (.int (nI (i + 1))), some (.long (lN (v / 256))), none, some (.int (nI (i + 1))), some (.int (nI (v % 256)))] rfl ?_
            refine ws_goto 55 C 7 dX2_lengthOf_55 (by decide) ?_
            refine ws_wk (lv2 := [some (.long (lN V)), none, some (.int (nI (i + 1))), some (.long (lN (v / 256))), none, some (.int (nI (i + 1))), none]) ⟨rfl, rfl, rfl, rfl, trivial⟩ ?_
            exact ih7 c11 (v / 256) (by omega) he2
          · skip
            have hr : plen V = 0 := by rw [he, hst]; exact if_pos (Or.inr c39)
            refine ws_iconst 42 C dX2_lengthOf_42 (nI 0) (by decide) ?_
            exact ws_iret 43 C  dX2_lengthOf_43 rfl (Nat.le_refl _) (Nat.le_refl _) (by rw [hP]; exact ⟨congrArg (fun z => some (Value.int z)) ((congrArg nI hr.symm)), rfl⟩)
  exact L7 0 (Nat.zero_le _) V hV rfl

set_option maxRecDepth 100000 in
set_option maxHeartbeats 4000000 in
theorem c_X2_append {b pn : Nat} {t : Nat → Int32} {pt : Nat → Nat} (hP2 : Ob z st0 b (bPd κ b t (nI pn))) (hp : PdP pt pn t) {V n : Nat} (hV : V < 2 ^ 64) (hn : n ≤ 8) (hpn : pn + n ≤ 60) (hc : ∀ j, j < n → 33 ≤ pby V j ∧ pby V j ≤ 126) : CT zl κ yX2_append cX2_append 5 none (r0 0 0) z [.ref (ad κ b), .long (lN V), .int (nI n)] st0 (PV (fun u => (∃ t, Ob z u b (bPd κ b t (nI (pn + n))) ∧ PdP (ptPut pt pn V n) (pn + n) t) ∧ Fr (fun q : Nat => b ≤ q ∧ q < b + 2) st0 u)) := by
  obtain ⟨P, hP⟩ : ∃ P : Option Value → St → Prop, P = (PV (fun u => (∃ t, Ob z u b (bPd κ b t (nI (pn + n))) ∧ PdP (ptPut pt pn V n) (pn + n) t) ∧ Fr (fun q : Nat => b ≤ q ∧ q < b + 2) st0 u)) := ⟨_, rfl⟩
  rw [← hP]
  refine CT.of (by decide +kernel) (Nat.le_of_ble_eq_true rfl) (fun zp ze zs zm zar zbe zme zc C _ => ?_)
  have C : Cx zp zs zm zar zme zc κ cX2_append 5 RX2 none := C
  refine ws_lv (lv2 := [some (.ref (ad κ b)), some (.long (lN V)), none, some (.int (nI n)), none]) rfl ?_
  have h60 := hp.1
  have hF : Fr (fun q : Nat => b ≤ q ∧ q < b + 2) st0 st0 := Fr.rf
  refine ws_iload_n 0 C dX2_append_0 rfl ?_
  refine ws_nif_lt 1 C 15 dX2_append_1 (by decide) (by omega) ?_
  refine ws_aload_n 4 C dX2_append_4 rfl ?_
  refine ws_get 5 C dX2_append_5 fX2_15 hP2 rfl rfl ?_
  refine ws_iload_n 8 C dX2_append_8 rfl ?_
  refine ws_iadd 9 C dX2_append_9 (nI (pn + n)) (nI_add _ _) ?_
  refine ws_bipush 10 C dX2_append_10 (nI 60) (by decide) ?_
  refine ws_nicmp_le 12 C 16 dX2_append_12 (by decide) (by omega) (by omega) (fun c12 => ?_) (fun c12 => ?_)
  · skip
    refine ws_iconst 16 C dX2_append_16 (nI 0) (by decide) ?_
    refine ws_istore 17 C dX2_append_17 rfl [some (.ref (ad κ b)), some (.long (lN V)), none, some (.int (nI n)), some (.int (nI 0))] rfl ?_
    have L19 : ∀ k : Nat, k ≤ n → ∀ (t2 : Nat → Int32), ∀ (h1 : ∀ q, q < pn → t2 q = nI (pt q)), ∀ (h2 : ∀ q, n - k ≤ q → q < n → t2 (pn + q) = nI (pby V (n - 1 - q))), ∀ (h3 : ∀ q, fits .char (.int (t2 q)) = true), ∀ (st1 : St), ∀ (hP2 : Ob z st1 b (bPd κ b t2 (nI pn))), ∀ (hF : Fr (fun q : Nat => b ≤ q ∧ q < b + 2) st0 st1), WS zp zl ze (r0 0 0) zs zm zar zbe zme zc κ z 0 0 (QM zbe zar zs κ z (r0 0 0) P) st1 19 [some (.ref (ad κ b)), some (.long (lN V)), none, some (.int (nI n)), some (.int (nI k))] [] := by
      refine dnw ?_
      intro k hk ih19 t2 h1 h2 h3 st1 hP2 hF
      refine ws_iload 19 C dX2_append_19 rfl ?_
      refine ws_iload_n 21 C dX2_append_21 rfl ?_
      refine ws_nicmp_ge 22 C 60 dX2_append_22 (by decide) (by omega) (by omega) (fun c22 => ?_) (fun c22 => ?_)
      · skip
        refine ws_aload_n 60 C dX2_append_60 rfl ?_
        refine ws_dup 61 C dX2_append_61 rfl ?_
        refine ws_get 62 C dX2_append_62 fX2_15 hP2 rfl rfl ?_
        refine ws_iload_n 65 C dX2_append_65 rfl ?_
        refine ws_iadd 66 C dX2_append_66 (nI (pn + n)) (nI_add _ _) ?_
        refine ws_put 67 C dX2_append_67 fX2_15 q2_1 hP2 rfl (Nat.le_of_ble_eq_true rfl) rfl rfl (fun st2 est2 => ?_)
        have hP2 : Ob z st2 b (bPd κ b t2 (nI (pn + n))) := Ob.put' (j := 0) hP2 est2 rfl
        have hF := hF.put' est2 (show b ≤ (b) ∧ (b) < b + 2 from by omega)
        exact ws_vret 70 C dX2_append_70 rfl (Nat.le_refl _) (Nat.le_refl _) (by rw [hP]; exact ⟨rfl, ⟨⟨t2, hP2, app_end hp hpn hc h1 (fun q hq => h2 q (by omega) hq) h3⟩, hF⟩⟩)
      · skip
        refine ws_aload_n 25 C dX2_append_25 rfl ?_
        refine ws_get 26 C dX2_append_26 fX2_9 hP2 rfl rfl ?_
        refine ws_aload_n 29 C dX2_append_29 rfl ?_
        refine ws_get 30 C dX2_append_30 fX2_15 hP2 rfl rfl ?_
        refine ws_iload_n 33 C dX2_append_33 rfl ?_
        refine ws_iadd 34 C dX2_append_34 (nI (pn + n)) (nI_add _ _) ?_
        refine ws_iconst 35 C dX2_append_35 (nI 1) (by decide) ?_
        refine ws_isub 36 C dX2_append_36 (nI (pn + n - 1)) (pk_sub (by omega)) ?_
        refine ws_iload 37 C dX2_append_37 rfl ?_
        refine ws_isub 39 C dX2_append_39 (nI (pn + n - 1 - k)) (pk_sub (by omega)) ?_
        refine ws_lload_n 40 C dX2_append_40 rfl ?_
        refine ws_bipush 41 C dX2_append_41 (nI 8) (by decide) ?_
        refine ws_iload 43 C dX2_append_43 rfl ?_
        refine ws_imul 45 C dX2_append_45 (nI (8 * k)) (pk_mul _ _) ?_
        refine ws_lushr 46 C dX2_append_46 (lN (V / 2 ^ (8 * k))) (wb_shr hV (by omega)) ?_
        refine ws_ldc2 47 C dX2_append_47 (255) k378 ?_
        refine ws_land 50 C dX2_append_50 (lN (pby V k)) (lN_and255 (Nat.lt_of_le_of_lt (Nat.div_le_self _ _) hV)) ?_
        have hck := hc k c22
        have hfv : fits .char (.int (nI (pby V k))) = true := fit_of (by omega)
        refine ws_l2i 51 C dX2_append_51 (nI (pby V k)) (lN_i _) ?_
        refine ws_i2c 52 C dX2_append_52 (nI (pby V k)) (chr16 (by omega)) ?_
        refine ws_cast 53 C dX2_append_53 hP2 1 rfl (vp_in_nI (by omega) (by decide)) (pn + n - 1 - k) (nI_clamp (by omega)) (nI (pby V k)) (fit_nar hfv) (fun st3 est3 => ?_)
        have hP2 : Ob z st3 b (bPd κ b (upd t2 (pn + n - 1 - k) (nI (pby V k))) (nI pn)) := Ob.put' (j := 1) hP2 est3 rfl
        have hF := hF.put' est3 (show b ≤ (b + 1) ∧ (b + 1) < b + 2 from by omega)
        refine ws_iinc 54 C dX2_append_54 rfl (nI (k + 1)) (nI_1 _) rfl [some (.ref (ad κ b)), some (.long (lN V)), none, some (.int (nI n)), some (.int (nI (k + 1)))] rfl ?_
        refine ws_goto 57 C 19 dX2_append_57 (by decide) ?_
        exact ih19 c22 (upd t2 (pn + n - 1 - k) (nI (pby V k))) (app_1 h1 (by omega)) (app_2 c22 h2) (upd_fit h3 hfv) st3 hP2 hF
    exact L19 0 (Nat.zero_le _) t (fun q hq => hp.at hq) (fun q h5 h6 => (by omega)) hp.2.1 st0 hP2 hF
  · skip
    (exfalso; omega)

set_option maxRecDepth 100000 in
set_option maxHeartbeats 4000000 in
theorem c_X2_firstFault {b pn : Nat} {t : Nat → Int32} {pt : Nat → Nat} (hP2 : Ob z st0 b (bPd κ b t (nI pn))) (hp : PdP pt pn t) : CT zl κ yX2_firstFault cX2_firstFault 3 (some .int) (r0 1 20) z [.ref (ad κ b)] st0 (PRi (flt pt pn) st0) := by
  obtain ⟨P, hP⟩ : ∃ P : Option Value → St → Prop, P = (PRi (flt pt pn) st0) := ⟨_, rfl⟩
  rw [← hP]
  refine CT.of (by decide +kernel) (Nat.le_of_ble_eq_true rfl) (fun zp ze zs zm zar zbe zme zc C _ => ?_)
  have C : Cx zp zs zm zar zme zc κ cX2_firstFault 3 RX2 (some .int) := C
  refine ws_lv (lv2 := [some (.ref (ad κ b)), none, none]) rfl ?_
  have h60 := hp.1
  refine ws_iconst 0 C dX2_firstFault_0 (nI 0) (by decide) ?_
  refine ws_istore_n 1 C dX2_firstFault_1 rfl [some (.ref (ad κ b)), some (.int (nI 0)), none] rfl ?_
  refine ws_iconst 2 C dX2_firstFault_2 (nI 0) (by decide) ?_
  refine ws_istore_n 3 C dX2_firstFault_3 rfl [some (.ref (ad κ b)), some (.int (nI 0)), some (.int (nI 0))] rfl ?_
  have L4 : ∀ k : Nat, k ≤ pn → ∀ (he : flt pt pn = ftf pt (pn - k) k), WS zp zl ze (r0 1 20) zs zm zar zbe zme zc κ z 0 0 (QM zbe zar zs κ z (r0 1 20) P) st0 4 [some (.ref (ad κ b)), some (.int (nI (sgk pt k))), some (.int (nI k))] [] := by
    refine dnw ?_
    intro k hk ih4 he
    have hsk := sgk_le pt k
    refine ws_iload_n 4 C dX2_firstFault_4 rfl ?_
    refine ws_aload_n 5 C dX2_firstFault_5 rfl ?_
    refine ws_get 6 C dX2_firstFault_6 fX2_15 hP2 rfl rfl ?_
    refine ws_nicmp_ge 9 C 63 dX2_firstFault_9 (by decide) (by omega) (by omega) (fun c9 => ?_) (fun c9 => ?_)
    · skip
      have hz := ftf_e (pt := pt) (show k = pn from by omega)
      have hkp : k = pn := by omega
      refine ws_iload_n 63 C dX2_firstFault_63 rfl ?_
      refine ws_nif_ne 64 C 74 dX2_firstFault_64 (by decide) (by omega) (fun c64 => ?_) (fun c64 => ?_)
      · skip
        have hv : -1006 = flt pt pn := by rw [he, hz, if_neg (by rw [← hkp]; exact c64)]
        refine ws_sipush 74 C dX2_firstFault_74 ((-1006)) (by decide) ?_
        exact ws_iret 77 C  dX2_firstFault_77 rfl (Nat.le_refl _) (Nat.le_refl _) (by rw [hP]; exact ⟨congrArg (fun z => some (Value.int z)) (hv), rfl⟩)
      · skip
        have hv : nI pn = flt pt pn := by rw [he, hz, if_pos (by rw [← hkp]; exact c64)]
        refine ws_aload_n 67 C dX2_firstFault_67 rfl ?_
        refine ws_get 68 C dX2_firstFault_68 fX2_15 hP2 rfl rfl ?_
        refine ws_goto 71 C 77 dX2_firstFault_71 (by decide) ?_
        exact ws_iret 77 C  dX2_firstFault_77 rfl (Nat.le_refl _) (Nat.le_refl _) (by rw [hP]; exact ⟨congrArg (fun z => some (Value.int z)) (hv), rfl⟩)
    · skip
      have hs := ftf_s (pt := pt) c9
      refine ws_aload_n 12 C dX2_firstFault_12 rfl ?_
      refine ws_get 13 C dX2_firstFault_13 fX2_9 hP2 rfl rfl ?_
      refine ws_iload_n 16 C dX2_firstFault_16 rfl ?_
      refine ws_cald 17 C dX2_firstFault_17 hP2 1 rfl (vp_in_nI (by omega) (by decide)) (nI (pt k)) ((congrArg t (nI_clamp (by omega))).trans (hp.at c9)) ?_
      refine ws_bipush 18 C dX2_firstFault_18 (nI 95) (by decide) ?_
      refine ws_nicmp_ne 20 C 34 dX2_firstFault_20 (by decide) (by first | omega | (have := hp.lt c9; omega)) (by first | omega | (have := hp.lt c9; omega)) (fun c20 => ?_) (fun c20 => ?_)
      · skip
        refine ws_aload_n 34 C dX2_firstFault_34 rfl ?_
        refine ws_get 35 C dX2_firstFault_35 fX2_9 hP2 rfl rfl ?_
        refine ws_iload_n 38 C dX2_firstFault_38 rfl ?_
        refine ws_cald 39 C dX2_firstFault_39 hP2 1 rfl (vp_in_nI (by omega) (by decide)) (nI (pt k)) ((congrArg t (nI_clamp (by omega))).trans (hp.at c9)) ?_
        refine ws_callSN0 40 C dX2_firstFault_40 vX2_21 (c_X4_sortWith) rfl ⟨by decide, by decide⟩ ⟨Nat.zero_le _, Nat.zero_le _⟩ rfl rfl rfl (kR ?_)
        refine ws_if_lt 43 C 52 dX2_firstFault_43 (by decide)  (fun c43 => ?_) (fun c43 => ?_)
        · skip
          have hr : flt pt pn = nI k := by rw [he, hs, if_neg c20, if_neg (scv_neg c43)]
          refine ws_iload_n 52 C dX2_firstFault_52 rfl ?_
          exact ws_iret 53 C  dX2_firstFault_53 rfl (Nat.le_refl _) (Nat.le_refl _) (by rw [hP]; exact ⟨congrArg (fun z => some (Value.int z)) (hr.symm), rfl⟩)
        · skip
          have h8 := scv_nn c43
          refine ws_iload_n 46 C dX2_firstFault_46 rfl ?_
          refine ws_bipush 47 C dX2_firstFault_47 (nI 10) (by decide) ?_
          refine ws_nicmp_ne 49 C 54 dX2_firstFault_49 (by decide) (by omega) (by omega) (fun c49 => ?_) (fun c49 => ?_)
          · skip
            refine ws_iinc 54 C dX2_firstFault_54 rfl (nI (sgk pt (k + 1))) ((nI_1 _).trans (congrArg nI (if_neg c20).symm)) rfl [some (.ref (ad κ b)), some (.int (nI (sgk pt (k + 1)))), some (.int (nI k))] rfl ?_
            refine ws_iinc 57 C dX2_firstFault_57 rfl (nI (k + 1)) (nI_1 _) rfl [some (.ref (ad κ b)), some (.int (nI (sgk pt (k + 1)))), some (.int (nI (k + 1)))] rfl ?_
            refine ws_goto 60 C 4 dX2_firstFault_60 (by decide) ?_
            exact ih4 c9 (by rw [he, hs, if_neg c20, if_pos h8, if_neg c49])
          · skip
            have hr : flt pt pn = nI k := by rw [he, hs, if_neg c20, if_pos h8, if_pos c49]
            refine ws_iload_n 52 C dX2_firstFault_52 rfl ?_
            exact ws_iret 53 C  dX2_firstFault_53 rfl (Nat.le_refl _) (Nat.le_refl _) (by rw [hP]; exact ⟨congrArg (fun z => some (Value.int z)) (hr.symm), rfl⟩)
      · skip
        refine ws_iload_n 23 C dX2_firstFault_23 rfl ?_
        refine ws_nif_ne 24 C 29 dX2_firstFault_24 (by decide) (by omega) (fun c24 => ?_) (fun c24 => ?_)
        · skip
          refine ws_iconst 29 C dX2_firstFault_29 (nI 0) (by decide) ?_
          refine ws_istore_n 30 C dX2_firstFault_30 rfl [some (.ref (ad κ b)), some (.int (nI 0)), some (.int (nI k))] rfl ?_
          refine ws_wk (lv2 := [some (.ref (ad κ b)), some (.int (nI (sgk pt (k + 1)))), some (.int (nI k))]) ⟨rfl, (congrArg (fun x => Value.int (nI x)) (if_pos c20)), rfl, trivial⟩ ?_
          refine ws_goto 31 C 57 dX2_firstFault_31 (by decide) ?_
          refine ws_iinc 57 C dX2_firstFault_57 rfl (nI (k + 1)) (nI_1 _) rfl [some (.ref (ad κ b)), some (.int (nI (sgk pt (k + 1)))), some (.int (nI (k + 1)))] rfl ?_
          refine ws_goto 60 C 4 dX2_firstFault_60 (by decide) ?_
          exact ih4 c9 (by rw [he, hs, if_pos c20, if_neg c24])
        · skip
          have hr : flt pt pn = nI k := by rw [he, hs, if_pos c20, if_pos c24]
          refine ws_iload_n 27 C dX2_firstFault_27 rfl ?_
          exact ws_iret 28 C  dX2_firstFault_28 rfl (Nat.le_refl _) (Nat.le_refl _) (by rw [hP]; exact ⟨congrArg (fun z => some (Value.int z)) (hr.symm), rfl⟩)
  exact L4 0 (Nat.zero_le _) rfl

set_option maxRecDepth 100000 in
set_option maxHeartbeats 4000000 in
theorem c_X2_countWords {b pn : Nat} {t : Nat → Int32} {pt : Nat → Nat} (hP2 : Ob z st0 b (bPd κ b t (nI pn))) (hp : PdP pt pn t) : CT zl κ yX2_countWords cX2_countWords 3 (some .int) (r0 0 0) z [.ref (ad κ b)] st0 (PRi (nI (wno pt pn)) st0) := by
  obtain ⟨P, hP⟩ : ∃ P : Option Value → St → Prop, P = (PRi (nI (wno pt pn)) st0) := ⟨_, rfl⟩
  rw [← hP]
  refine CT.of (by decide +kernel) (Nat.le_of_ble_eq_true rfl) (fun zp ze zs zm zar zbe zme zc C _ => ?_)
  have C : Cx zp zs zm zar zme zc κ cX2_countWords 3 RX2 (some .int) := C
  refine ws_lv (lv2 := [some (.ref (ad κ b)), none, none]) rfl ?_
  have h60 := hp.1
  refine ws_iconst 0 C dX2_countWords_0 (nI 1) (by decide) ?_
  refine ws_istore_n 1 C dX2_countWords_1 rfl [some (.ref (ad κ b)), some (.int (nI 1)), none] rfl ?_
  refine ws_iconst 2 C dX2_countWords_2 (nI 0) (by decide) ?_
  refine ws_istore_n 3 C dX2_countWords_3 rfl [some (.ref (ad κ b)), some (.int (nI 1)), some (.int (nI 0))] rfl ?_
  have L4 : ∀ k : Nat, k ≤ pn → ∀ (i : Nat), ∀ (hi : WrdI pt pn k i), WS zp zl ze (r0 0 0) zs zm zar zbe zme zc κ z 0 0 (QM zbe zar zs κ z (r0 0 0) P) st0 4 [some (.ref (ad κ b)), some (.int (nI (1 + i))), some (.int (nI k))] [] := by
    refine dnw ?_
    intro k hk ih4 i hi
    have hik := hi.1
    refine ws_iload_n 4 C dX2_countWords_4 rfl ?_
    refine ws_aload_n 5 C dX2_countWords_5 rfl ?_
    refine ws_get 6 C dX2_countWords_6 fX2_15 hP2 rfl rfl ?_
    refine ws_nicmp_ge 9 C 32 dX2_countWords_9 (by decide) (by omega) (by omega) (fun c9 => ?_) (fun c9 => ?_)
    · skip
      refine ws_iload_n 32 C dX2_countWords_32 rfl ?_
      exact ws_iret 33 C  dX2_countWords_33 rfl (Nat.le_refl _) (Nat.le_refl _) (by rw [hP]; exact ⟨congrArg (fun z => some (Value.int z)) ((congrArg nI (hi.end (show k = pn from by omega)))), rfl⟩)
    · skip
      refine ws_aload_n 12 C dX2_countWords_12 rfl ?_
      refine ws_get 13 C dX2_countWords_13 fX2_9 hP2 rfl rfl ?_
      refine ws_iload_n 16 C dX2_countWords_16 rfl ?_
      refine ws_cald 17 C dX2_countWords_17 hP2 1 rfl (vp_in_nI (by omega) (by decide)) (nI (pt k)) ((congrArg t (nI_clamp (by omega))).trans (hp.at c9)) ?_
      refine ws_bipush 18 C dX2_countWords_18 (nI 95) (by decide) ?_
      refine ws_nicmp_ne 20 C 26 dX2_countWords_20 (by decide) (by first | omega | (have := hp.lt c9; omega)) (by first | omega | (have := hp.lt c9; omega)) (fun c20 => ?_) (fun c20 => ?_)
      · skip
        refine ws_iinc 26 C dX2_countWords_26 rfl (nI (k + 1)) (nI_1 _) rfl [some (.ref (ad κ b)), some (.int (nI (1 + i))), some (.int (nI (k + 1)))] rfl ?_
        refine ws_goto 29 C 4 dX2_countWords_29 (by decide) ?_
        exact ih4 c9 i (hi.go c9 c20)
      · skip
        refine ws_iinc 23 C dX2_countWords_23 rfl (nI (1 + (i + 1))) (nI_1 _) rfl [some (.ref (ad κ b)), some (.int (nI (1 + (i + 1)))), some (.int (nI k))] rfl ?_
        refine ws_iinc 26 C dX2_countWords_26 rfl (nI (k + 1)) (nI_1 _) rfl [some (.ref (ad κ b)), some (.int (nI (1 + (i + 1)))), some (.int (nI (k + 1)))] rfl ?_
        refine ws_goto 29 C 4 dX2_countWords_29 (by decide) ?_
        exact ih4 c9 (i + 1) (hi.new c9 c20)
  exact L4 0 (Nat.zero_le _) 0 WrdI.start

set_option maxRecDepth 100000 in
set_option maxHeartbeats 4000000 in
theorem c_X2_addWordsTo {b b2 pn : Nat} {t : Nat → Int32} {pt : Nat → Nat} {f1 f2 f3 f4 f5 f6 : Nat → Int32} {μ : Mu} (hP2 : Ob z st0 b (bPd κ b t (nI pn))) (hp : PdP pt pn t) (hB : Ob z st0 b2 (bSh κ b2 f1 f2 f3 f4 f5 f6 (nI (mn μ)))) (hR : Rp μ f1 f2 f3 f4 f5 f6) (hd : b + 2 ≤ b2 ∨ b2 + 7 ≤ b) (hN : NoF pt pn) (hw : mn μ + wno pt pn ≤ 24) : CT zl κ yX2_addWordsTo cX2_addWordsTo 3 none (r0 1 22) z [.ref (ad κ b), .ref (ad κ b2)] st0 (PV (fun u => ShP κ z u b2 (muRead μ pt pn) ∧ Fr (fun q : Nat => b2 ≤ q ∧ q < b2 + 7) st0 u)) := by
  obtain ⟨P, hP⟩ : ∃ P : Option Value → St → Prop, P = (PV (fun u => ShP κ z u b2 (muRead μ pt pn) ∧ Fr (fun q : Nat => b2 ≤ q ∧ q < b2 + 7) st0 u)) := ⟨_, rfl⟩
  rw [← hP]
  refine CT.of (by decide +kernel) (Nat.le_of_ble_eq_true rfl) (fun zp ze zs zm zar zbe zme zc C _ => ?_)
  have C : Cx zp zs zm zar zme zc κ cX2_addWordsTo 3 RX2 none := C
  refine ws_lv (lv2 := [some (.ref (ad κ b)), some (.ref (ad κ b2)), none]) rfl ?_
  have h60 := hp.1
  have hwp := wno_pos pt pn
  have hF : Fr (fun q : Nat => b2 ≤ q ∧ q < b2 + 7) st0 st0 := Fr.rf
  refine ws_aload_n 0 C dX2_addWordsTo_0 rfl ?_
  refine ws_callV0 1 C dX2_addWordsTo_1 vX2_25 (c_X3_beginWord hB (by omega)) rfl hB rfl rfl ⟨by decide, by decide⟩ ⟨Nat.zero_le _, Nat.zero_le _⟩ rfl rfl rfl (kV (fun u1 h1 => ?_))
  obtain ⟨hB, hfr⟩ := h1
  have hP2 := hfr.ob hP2 (fun q (g1 : b ≤ q) (g2 : q < b + 2) => (show ¬ (b2 ≤ q ∧ q < b2 + 7) from by omega))
  have hF := hF.then hfr (fun q (hq : b2 ≤ q ∧ q < b2 + 7) => (show b2 ≤ q ∧ q < b2 + 7 from by omega))
  refine ws_iconst 4 C dX2_addWordsTo_4 (nI 0) (by decide) ?_
  refine ws_istore_n 5 C dX2_addWordsTo_5 rfl [some (.ref (ad κ b)), some (.ref (ad κ b2)), some (.int (nI 0))] rfl ?_
  have L6 : ∀ k : Nat, k ≤ pn → ∀ (i : Nat), ∀ (g5 : Nat → Int32), ∀ (g6 : Nat → Int32), ∀ (hi : WrdI pt pn k i), ∀ (ha : AddI μ pt pn k i f5 f6 g5 g6), ∀ (st1 : St), ∀ (hP2 : Ob z st1 b (bPd κ b t (nI pn))), ∀ (hB : Ob z st1 b2 (bSh κ b2 f1 f2 f3 f4 g5 g6 (nI (mn μ + i + 1)))), ∀ (hF : Fr (fun q : Nat => b2 ≤ q ∧ q < b2 + 7) st0 st1), WS zp zl ze (r0 1 22) zs zm zar zbe zme zc κ z 0 0 (QM zbe zar zs κ z (r0 1 22) P) st1 6 [some (.ref (ad κ b)), some (.ref (ad κ b2)), some (.int (nI k))] [] := by
    refine dnw ?_
    intro k hk ih6 i g5 g6 hi ha st1 hP2 hB hF
    refine ws_iload_n 6 C dX2_addWordsTo_6 rfl ?_
    refine ws_aload_n 7 C dX2_addWordsTo_7 rfl ?_
    refine ws_get 8 C dX2_addWordsTo_8 fX2_15 hP2 rfl rfl ?_
    refine ws_nicmp_ge 11 C 48 dX2_addWordsTo_11 (by decide) (by omega) (by omega) (fun c11 => ?_) (fun c11 => ?_)
    · skip
      exact ws_vret 48 C dX2_addWordsTo_48 rfl (Nat.le_refl _) (Nat.le_refl _) (by rw [hP]; exact ⟨rfl, ⟨(by have hz := hi.end (show k = pn from by omega); exact ⟨f1, f2, f3, f4, g5, g6, (show Ob z _ b2 (bSh κ b2 f1 f2 f3 f4 g5 g6 (nI (mn μ + wno pt pn))) from by rw [← hz, show mn μ + (1 + i) = mn μ + i + 1 from by omega]; exact hB), ha.end hR hN hw hi (show k = pn from by omega)⟩), hF⟩⟩)
    · skip
      have hiw := hi.lt
      refine ws_aload_n 14 C dX2_addWordsTo_14 rfl ?_
      refine ws_get 15 C dX2_addWordsTo_15 fX2_9 hP2 rfl rfl ?_
      refine ws_iload_n 18 C dX2_addWordsTo_18 rfl ?_
      refine ws_cald 19 C dX2_addWordsTo_19 hP2 1 rfl (vp_in_nI (by omega) (by decide)) (nI (pt k)) ((congrArg t (nI_clamp (by omega))).trans (hp.at c11)) ?_
      refine ws_bipush 20 C dX2_addWordsTo_20 (nI 95) (by decide) ?_
      refine ws_nicmp_ne 22 C 32 dX2_addWordsTo_22 (by decide) (by first | omega | (have := hp.lt c11; omega)) (by first | omega | (have := hp.lt c11; omega)) (fun c22 => ?_) (fun c22 => ?_)
      · skip
        have hi2 := hi.go c11 c22
        have hwk := hi.word hN c11 c22
        refine ws_aload_n 32 C dX2_addWordsTo_32 rfl ?_
        refine ws_aload_n 33 C dX2_addWordsTo_33 rfl ?_
        refine ws_get 34 C dX2_addWordsTo_34 fX2_9 hP2 rfl rfl ?_
        refine ws_iload_n 37 C dX2_addWordsTo_37 rfl ?_
        refine ws_cald 38 C dX2_addWordsTo_38 hP2 1 rfl (vp_in_nI (by omega) (by decide)) (nI (pt k)) ((congrArg t (nI_clamp (by omega))).trans (hp.at c11)) ?_
        refine ws_callV0 39 C dX2_addWordsTo_39 vX2_30 (c_X3_addSign hB (by omega) (by omega) (L := k - wst pt pn i) ((congrArg g6 (by omega)).trans ha.cur) (by omega) (fit_of (by have := hp.lt c11; omega))) rfl hB rfl rfl ⟨by decide, by decide⟩ ⟨Nat.zero_le _, Nat.zero_le _⟩ rfl rfl rfl (kV (fun u39 h39 => ?_))
        obtain ⟨hB, hfr⟩ := h39
        have hP2 := hfr.ob hP2 (fun q (g1 : b ≤ q) (g2 : q < b + 2) => (show ¬ (b2 ≤ q ∧ q < b2 + 7) from by omega))
        have hF := hF.then hfr (fun q (hq : b2 ≤ q ∧ q < b2 + 7) => (show b2 ≤ q ∧ q < b2 + 7 from by omega))
        refine ws_iinc 42 C dX2_addWordsTo_42 rfl (nI (k + 1)) (nI_1 _) rfl [some (.ref (ad κ b)), some (.ref (ad κ b2)), some (.int (nI (k + 1)))] rfl ?_
        refine ws_goto 45 C 6 dX2_addWordsTo_45 (by decide) ?_
        exact ih6 c11 i (upd g5 ((mn μ + i + 1 - 1) * 10 + (k - wst pt pn i)) (nI (pt k))) (upd g6 (mn μ + i + 1 - 1) (nI (k - wst pt pn i + 1))) hi2 (ha.add hN hi c11 c22 (by have := hp.lt c11; omega)) u39 hP2 hB hF
      · skip
        have hi2 := hi.new c11 c22
        have hiw2 := hi2.lt
        refine ws_aload_n 25 C dX2_addWordsTo_25 rfl ?_
        refine ws_callV0 26 C dX2_addWordsTo_26 vX2_25 (c_X3_beginWord hB (by omega)) rfl hB rfl rfl ⟨by decide, by decide⟩ ⟨Nat.zero_le _, Nat.zero_le _⟩ rfl rfl rfl (kV (fun u26 h26 => ?_))
        obtain ⟨hB, hfr⟩ := h26
        have hP2 := hfr.ob hP2 (fun q (g1 : b ≤ q) (g2 : q < b + 2) => (show ¬ (b2 ≤ q ∧ q < b2 + 7) from by omega))
        have hF := hF.then hfr (fun q (hq : b2 ≤ q ∧ q < b2 + 7) => (show b2 ≤ q ∧ q < b2 + 7 from by omega))
        refine ws_goto 29 C 42 dX2_addWordsTo_29 (by decide) ?_
        refine ws_iinc 42 C dX2_addWordsTo_42 rfl (nI (k + 1)) (nI_1 _) rfl [some (.ref (ad κ b)), some (.ref (ad κ b2)), some (.int (nI (k + 1)))] rfl ?_
        refine ws_goto 45 C 6 dX2_addWordsTo_45 (by decide) ?_
        exact ih6 c11 (i + 1) g5 (upd g6 (mn μ + i + 1) (nI 0)) hi2 (ha.new hi c11 c22) u26 hP2 hB hF
  exact L6 0 (Nat.zero_le _) 0 f5 (upd f6 (mn μ) (nI 0)) WrdI.start (AddI.start hR) u1 hP2 hB hF
end
end
section
/-! What the whole says: the state and the answer of every call, in numbers and functions; and what of the store says it -/
abbrev Sg : Type := Mu × ((Nat → Mu) × Nat) × ((Nat → Nat) × Nat) × ((Nat → Mu) × (Nat → Nat))
def sM (S : Sg) : Mu := S.1
def sH (S : Sg) : Nat → Mu := S.2.1.1
def sHn (S : Sg) : Nat := S.2.1.2
def sPt (S : Sg) : Nat → Nat := S.2.2.1.1
def sPn (S : Sg) : Nat := S.2.2.1.2
def sSl (S : Sg) : Nat → Mu := S.2.2.2.1
def sFd (S : Sg) : Nat → Nat := S.2.2.2.2
def hpush (hs : Nat → Mu) (n : Nat) (μ : Mu) : Nat → Mu := if n < 6 then (fun k => if k < n then hs k else μ) else (fun k => if k < 5 then hs (k + 1) else μ)
def hcnt (n : Nat) : Nat := if n < 6 then n + 1 else 6
def push (S : Sg) : Sg := (S.1, (hpush (sH S) (sHn S) (sM S), hcnt (sHn S)), S.2.2)
def withM (S : Sg) (μ : Mu) : Sg := (μ, S.2)
def withP (S : Sg) (pt : Nat → Nat) (pn : Nat) : Sg := (S.1, S.2.1, (pt, pn), S.2.2.2)
/-- a number that is a place below n -/
def ixv (x : Int32) (n : Nat) : Option Nat := if 0 ≤ x ∧ x < nI n then some x.toNatClampNeg else none
theorem ixv_s {k n : Nat} (hk : k < n) (hn : n < 2 ^ 31) : ixv (nI k) n = some k := by
  unfold ixv
  rw [if_pos ⟨nI_pos' (by omega), nI_lt hk hn⟩, nI_clamp (by omega)]
theorem ixv_n {x : Int32} {n : Nat} (h : x < 0) : ixv x n = none := if_neg (fun q => Int32.not_le.mpr h q.1)
theorem ixv_g {x : Int32} {n : Nat} (h : ¬ x < nI n) : ixv x n = none := if_neg (fun q => h q.2)
theorem ixv_of {x : Int32} {n : Nat} (hn : n < 2 ^ 31) (h0 : ¬ x < 0) (h : x < nI n) : ∃ k, k < n ∧ x = nI k ∧ ixv x n = some k := by
  rcases pk_ix x hn with q | q | ⟨k, hk, e⟩
  · exact absurd q h0
  · exact absurd h (Int32.not_lt.mpr q)
  · exact ⟨k, hk, e, by rw [e]; exact ixv_s hk hn⟩
def bix (x : Int32) (n : Nat) : Int32 := match ixv x n with
  | none => nI 0
  | some _ => nI 1
theorem bix_0 {x : Int32} {n : Nat} (h : bix x n = 0) : ixv x n = none := by
  unfold bix at h
  cases hx : ixv x n with
  | none => rfl
  | some k =>
    rw [hx] at h
    exact absurd h (by show ¬ nI 1 = 0; decide)
theorem bix_1 {x : Int32} {n : Nat} (hn : n < 2 ^ 31) (h : ¬ bix x n = 0) : ∃ k, k < n ∧ x = nI k ∧ ixv x n = some k := by
  unfold bix at h
  cases hx : ixv x n with
  | none =>
    rw [hx] at h
    exact absurd (show nI 0 = 0 from rfl) h
  | some k =>
    unfold ixv at hx
    by_cases hc : 0 ≤ x ∧ x < nI n
    · obtain ⟨j, hj, e, e2⟩ := ixv_of hn (Int32.not_lt.mpr hc.1) hc.2
      refine ⟨j, hj, e, ?_⟩
      rw [if_pos hc] at hx
      unfold ixv at e2
      rw [if_pos hc] at e2
      rw [← hx, ← e2]
    · rw [if_neg hc] at hx
      cases hx
theorem bix_n {x : Int32} {n : Nat} (h : ixv x n = none) : bix x n = nI 0 := by
  unfold bix
  rw [h]
theorem bix_s {x : Int32} {n k : Nat} (h : ixv x n = some k) : bix x n = nI 1 := by
  unfold bix
  rw [h]
/-- the two ways -/
def nxw (μ : Mu) (way : Nat) : Nat → Nat := if way = 0 then gx (bo μ) (mv μ 0 0) (mn μ) else nb (bo μ) (mv μ 0 0) (mn μ)
def lnw (μ : Mu) (way : Nat) : Nat := lno (nxw μ way) (mn μ)
def muSet (μ : Mu) (k : Nat) (y : Int32) : Mu := (fun i j => if i = 0 ∧ j = k then y else mv μ i j, μ.2)
def muSort (μ : Mu) (q : Nat) (w l r : Int32) : Mu := (fun i j => if j = q then (if i = 1 then w else if i = 2 then l else if i = 3 then r else mv μ i j) else mv μ i j, μ.2)
def muClear (μ : Mu) : Mu := (μ.1, 0, μ.2.2)
def muRight (μ : Mu) (q : Nat) (r : Int32) : Mu := (fun i j => if i = 3 ∧ j = q then r else mv μ i j, μ.2)
def lbd (μ : Mu) : Int32 := lfm (bo μ) (mv μ 0 0) (mn μ) 0
def fSet (S : Sg) (x y : Int32) : Int32 × Sg := match ixv x 4 with
  | none => (-1002, S)
  | some k => if lsv k ≤ y ∧ y ≤ gsv k then (mv (sM S) 0 k, withM (push S) (muSet (sM S) k y)) else (-1002, S)
def fSort (S : Sg) (x w l r : Int32) : Int32 × Sg := match ixv x 8 with
  | none => (-1001, S)
  | some q => if (nI 1 ≤ w ∧ w ≤ nI 20) ∧ ixv l 101 ≠ none ∧ ixv r 101 ≠ none then (mv (sM S) 1 q, withM (push S) (muSort (sM S) q w l r)) else (-1002, S)
def fRead (S : Sg) : Int32 × Sg := if flt (sPt S) (sPn S) = -1006 then (if mn (sM S) + wno (sPt S) (sPn S) ≤ 24 then (nI (mn (sM S) + wno (sPt S) (sPn S)), withP (withM (push S) (muRead (sM S) (sPt S) (sPn S))) (sPt S) 0) else (-1004, S)) else (-1003, S)
def fDrop (S : Sg) (x : Int32) : Int32 × Sg := match ixv x (mn (sM S)) with
  | none => (-1001, S)
  | some i => (wd (sM S) i, withM (push S) (muDrop (sM S) i))
def fSwap (S : Sg) (x y : Int32) : Int32 × Sg := match ixv x (mn (sM S)), ixv y (mn (sM S)) with
  | some i, some j => if i = j then (-1002, S) else (nI (lnw (muSwap (sM S) i j) 0), withM (push S) (muSwap (sM S) i j))
  | _, _ => (-1001, S)
def fClear (S : Sg) : Int32 × Sg := (nI (mn (sM S)), withM (push S) (muClear (sM S)))
def fSortOf (S : Sg) (x y : Int32) : Int32 := match ixv x 8 with
  | none => -1001
  | some q => match ixv y 6 with
    | some 0 => mv (sM S) 1 q
    | some 1 => mv (sM S) 2 q
    | some 2 => mv (sM S) 3 q
    | some 3 => hg (sM S) 2 q
    | some 4 => hg (sM S) 3 q
    | some _ => nI (cnT (sM S) q (mn (sM S)))
    | none => -1002
def fWord (S : Sg) (x y : Int32) : Int32 := match ixv x (mn (sM S)) with
  | none => -1001
  | some w => if y < 0 then -1002 else match ixv y 4 with
    | some 0 => nI (ml (sM S) w)
    | some 1 => wd (sM S) w
    | some 2 => nI (lof (nxw (sM S) 0) w (lnw (sM S) 0))
    | some _ => nI (lof (nxw (sM S) 1) w (lnw (sM S) 1))
    | none => match ixv (y - nI 4) (ml (sM S) w) with
      | some j => mg (sM S) w j
      | none => -1006
def fLine (S : Sg) (x y v : Int32) : Int32 := match ixv x 2, ixv v 9 with
  | some way, some what => match ixv y (lnw (sM S) way) with
    | some i => tell (sM S) (nxw (sM S) way) (mv (sM S) 0 0) (mv (sM S) 0 2) (lnw (sM S) way) i what
    | none => -1001
  | _, _ => -1002
def fLn (S : Sg) (way what : Nat) : Int32 := match what with
  | 0 => nI (lnw (sM S) way)
  | 1 => sumB (sM S) (nxw (sM S) way) (mv (sM S) 0 0) (lnw (sM S) way)
  | 2 => nI (smN (indN (sM S) (nxw (sM S) way) (mv (sM S) 0 0) (mv (sM S) 0 2) (lnw (sM S) way)) (lnw (sM S) way))
  | 3 => nI (smN (unfN (sM S) (nxw (sM S) way) (mv (sM S) 0 0)) (lnw (sM S) way))
  | _ => greB (sM S) (nxw (sM S) way) (lnw (sM S) way)
def fLines (S : Sg) (x y : Int32) : Int32 := match ixv x 2, ixv y 5 with
  | some way, some what => fLn S way what
  | _, _ => -1002
def Same (μ : Mu) : Prop := lnw μ 0 = lnw μ 1 ∧ ∀ i, i < lnw μ 0 → stt (nxw μ 0) i = stt (nxw μ 1) i
/-- count: all but 7, which is told by Same -/
def fCount (S : Sg) (x : Int32) : Int32 := match ixv x 10 with
  | some 4 => nI (mn (sM S))
  | some 5 => nI (smN (ml (sM S)) (mn (sM S)))
  | some 6 => nI (smN (ml (sM S)) (mn (sM S)) - cnT (sM S) 0 (mn (sM S)))
  | some 8 => nI (sPn S)
  | some 9 => nI (sHn S)
  | some k => mv (sM S) 0 k
  | none => -1002
def pCount (S : Sg) (x r : Int32) : Prop := (x = nI 7 ∧ ((r = nI 1 ∧ Same (sM S)) ∨ (r = nI 0 ∧ ¬ Same (sM S)))) ∨ (x ≠ nI 7 ∧ r = fCount S x)
theorem pCount_one {S : Sg} {x r r' : Int32} (h : pCount S x r) (h' : pCount S x r') : r = r' := by
  rcases h with ⟨a, b⟩ | ⟨a, b⟩ <;> rcases h' with ⟨a', b'⟩ | ⟨a', b'⟩
  · rcases b with ⟨b, c⟩ | ⟨b, c⟩ <;> rcases b' with ⟨b', c'⟩ | ⟨b', c'⟩
    · rw [b, b']
    · exact absurd c c'
    · exact absurd c' c
    · rw [b, b']
  · exact absurd a a'
  · exact absurd a' a
  · rw [b, b']
def fBody (S : Sg) (x y : Int32) : Int32 := match ixv x (mn (sM S)), ixv y (mn (sM S)) with
  | some i, some j => if i ≤ j then bo (sM S) i j else -1001
  | _, _ => -1001
/-- greedily, lines under a measure -/
def lnm (μ : Mu) (k : Nat) : Nat := lno (gx (bo μ) (nI k) (mn μ)) (mn μ)
def lsmf (μ : Mu) (L : Nat) : Nat → Nat → Int32
  | 0, _ => -1006
  | f + 1, k => if lnm μ k ≤ L then nI k else lsmf μ L f (k + 1)
def fLeast (S : Sg) (x : Int32) : Int32 := if nI 1 ≤ x ∧ x ≤ nI 24 then lsmf (sM S) x.toNatClampNeg 181 20 else -1002
/-- the first of the least: places below n -/
def arg1 (f : Nat → Int32) : Nat → Nat × Int32
  | 0 => (0, nI 0)
  | k + 1 => if k = 0 ∨ f k < (arg1 f k).2 then (k, f k) else arg1 f k
def fBest (S : Sg) (x : Int32) : Int32 := match ixv x 8 with
  | none => -1001
  | some q => nI (arg1 (fun r => lbd (muRight (sM S) q (nI r))) 101).1
def fWorst (S : Sg) : Int32 := if mn (sM S) = 0 then -1006 else nI (arg1 (fun w => lbd (muDrop (sM S) w)) (mn (sM S))).1
def fPut (S : Sg) (V : Nat) : Int32 × Sg := if plen V = 0 then (-1002, S) else if sPn S + plen V ≤ 60 then (nI (sPn S + plen V), withP S (ptPut (sPt S) (sPn S) V (plen V)) (sPn S + plen V)) else (-1004, S)
def fWipe (S : Sg) : Int32 × Sg := (nI (sPn S), withP S (sPt S) 0)
def fFault (S : Sg) : Int32 := flt (sPt S) (sPn S)
def fUndo (S : Sg) : Int32 × Sg := if sHn S = 0 then (-1005, S) else (nI (sHn S - 1), (sH S (sHn S - 1), (sH S, sHn S - 1), S.2.2))
def fSave (S : Sg) (x : Int32) : Int32 × Sg := match ixv x 2 with
  | none => (-1002, S)
  | some i => (nI (mn (sM S)), (S.1, S.2.1, S.2.2.1, (va_up (sSl S) i (sM S), va_up (sFd S) i 1)))
def fRestore (S : Sg) (x : Int32) : Int32 × Sg := match ixv x 2 with
  | none => (-1002, S)
  | some i => if sFd S i = 0 then (-1005, S) else (nI (mn (sSl S i)), withM (push S) (sSl S i))
/-- components of the class's store -/
def ShA (κ : Kt) (z : Nat) (st : St) (b : Nat) : Prop := ∃ ν, ShP κ z st b ν
def LyA (κ : Kt) (z : Nat) (st : St) (b : Nat) : Prop := ∃ (p l r : Nat → Int32) (wn m sp lo : Int32) (s : Nat → Int32) (ln : Int32) (lf nx : Nat → Int32), Ob z st b (bLy κ b p l r wn m sp lo s ln lf nx)
def PdA (κ : Kt) (z : Nat) (st : St) (pt : Nat → Nat) (pn : Nat) : Prop := ∃ t, Ob z st 29 (bPd κ 29 t (nI pn)) ∧ PdP pt pn t
def HsP (κ : Kt) (z : Nat) (st : St) (hs : Nat → Mu) (n : Nat) : Prop := ∃ (g : Nat → Option Nat) (nx : Nat), Ob z st 31 (bHs κ 31 g (nI nx) (nI n)) ∧ (∀ i, i < 6 → g i = some (ad κ (33 + 7 * i))) ∧ nx < 6 ∧ n ≤ 6 ∧ (∀ i, i < 6 → ShA κ z st (33 + 7 * i)) ∧ ∀ k, k < n → ShP κ z st (33 + 7 * ((nx + 6 - n + k) % 6)) (hs k)
def SlP (κ : Kt) (z : Nat) (st : St) (sl : Nat → Mu) (fd : Nat → Nat) : Prop := ∃ (g : Nat → Option Nat) (f : Nat → Int32), Ob z st 75 (bQ κ 2 g) ∧ (∀ i, i < 2 → g i = some (ad κ (76 + 7 * i))) ∧ Ob z st 90 (bZ κ 2 f) ∧ (∀ i, i < 2 → f i = nI (fd i) ∧ fd i ≤ 1) ∧ (∀ i, i < 2 → ShA κ z st (76 + 7 * i)) ∧ ∀ i, i < 2 → fd i = 1 → ShP κ z st (76 + 7 * i) (sl i)
def XI (κ : Kt) (z : Nat) (st : St) (S : Sg) : Prop := Ob z st 0 (bXo κ) ∧ ShP κ z st 1 (sM S) ∧ ShA κ z st 8 ∧ LyA κ z st 15 ∧ LyA κ z st 22 ∧ PdA κ z st (sPt S) (sPn S) ∧ HsP κ z st (sH S) (sHn S) ∧ SlP κ z st (sSl S) (sFd S)
section FRS
variable {κ : Kt} {z : Nat} {st st' : St} {A : Nat → Prop}
theorem Fr.one {q : Nat} {e : va_E} (hs : st' = va_up st q e) : Fr (fun x : Nat => x = q) st st' := fun x hx => by
  subst hs
  exact va_up_ne _ _ hx
theorem ShA.fr {b : Nat} (h : ShA κ z st b) (hF : Fr A st st') (hA : ∀ q, b ≤ q → q < b + 7 → ¬ A q) : ShA κ z st' b := by
  obtain ⟨ν, h⟩ := h
  exact ⟨ν, h.fr hF hA⟩
theorem LyA.fr {b : Nat} (h : LyA κ z st b) (hF : Fr A st st') (hA : ∀ q, b ≤ q → q < b + 7 → ¬ A q) : LyA κ z st' b := by
  obtain ⟨p, l, r, wn, m, sp, lo, s, ln, lf, nx, h⟩ := h
  exact ⟨p, l, r, wn, m, sp, lo, s, ln, lf, nx, hF.ob h hA⟩
theorem PdA.fr {pt : Nat → Nat} {pn : Nat} (h : PdA κ z st pt pn) (hF : Fr A st st') (hA : ∀ q, 29 ≤ q → q < 31 → ¬ A q) : PdA κ z st' pt pn := by
  obtain ⟨t, h1, h2⟩ := h
  exact ⟨t, hF.ob h1 hA, h2⟩
theorem HsP.fr {hs : Nat → Mu} {n : Nat} (h : HsP κ z st hs n) (hF : Fr A st st') (hA : ∀ q, 31 ≤ q → q < 75 → ¬ A q) : HsP κ z st' hs n := by
  obtain ⟨g, nx, h1, h2, h3, h4, h5, h6⟩ := h
  exact ⟨g, nx, hF.ob h1 (fun q (a : 31 ≤ q) (b : q < 31 + 2) => hA q (by omega) (by omega)), h2, h3, h4, fun i hi => (h5 i hi).fr hF (fun q a b => hA q (by omega) (by omega)), fun k hk => (h6 k hk).fr hF (fun q a b => hA q (by omega) (by have := Nat.mod_lt (nx + 6 - n + k) (show 6 > 0 by omega); omega))⟩
theorem SlP.fr {sl : Nat → Mu} {fd : Nat → Nat} (h : SlP κ z st sl fd) (hF : Fr A st st') (hA : ∀ q, 75 ≤ q → q < 91 → ¬ A q) : SlP κ z st' sl fd := by
  obtain ⟨g, f, h1, h2, h3, h4, h5, h6⟩ := h
  exact ⟨g, f, hF.ob h1 (fun q (a : 75 ≤ q) (b : q < 75 + 1) => hA q (by omega) (by omega)), h2, hF.ob h3 (fun q (a : 90 ≤ q) (b : q < 90 + 1) => hA q (by omega) (by omega)), h4, fun i hi => (h5 i hi).fr hF (fun q a b => hA q (by omega) (by omega)), fun i hi h => (h6 i hi h).fr hF (fun q a b => hA q (by omega) (by omega))⟩
theorem XI.fr {S : Sg} (h : XI κ z st S) (hF : Fr A st st') (hA : ∀ q, q < 91 → ¬ A q) : XI κ z st' S := by
  obtain ⟨h1, h2, h3, h4, h5, h6, h7, h8⟩ := h
  exact ⟨hF.ob h1 (fun q (a : 0 ≤ q) (b : q < 0 + 1) => hA q (by omega)), h2.fr hF (fun q a b => hA q (by omega)), h3.fr hF (fun q a b => hA q (by omega)), h4.fr hF (fun q a b => hA q (by omega)), h5.fr hF (fun q a b => hA q (by omega)), h6.fr hF (fun q a b => hA q (by omega)), h7.fr hF (fun q a b => hA q (by omega)), h8.fr hF (fun q a b => hA q (by omega))⟩
end FRS
/-- a text with another setting, sort, share, without words -/
theorem Rp_clear {μ : Mu} {f1 f2 f3 f4 f5 f6 : Nat → Int32} (h : Rp μ f1 f2 f3 f4 f5 f6) : Rp (muClear μ) f1 f2 f3 f4 f5 f6 := ⟨⟨Nat.zero_le _, fun w hw => absurd hw (Nat.not_lt_zero w)⟩, trivial, h.2.2.1, h.2.2.2.1, h.2.2.2.2.1, h.2.2.2.2.2.1, h.2.2.2.2.2.2.1, fun i hi => absurd hi (Nat.not_lt_zero i), fun i hi => absurd hi (Nat.not_lt_zero i)⟩
theorem Ok_set {μ : Mu} (v : Nat → Nat → Int32) (h : Ok μ) : Ok (v, μ.2) := h
theorem Rp_set {μ : Mu} {f1 f2 f3 f4 f5 f6 : Nat → Int32} {k : Nat} {y : Int32} (h : Rp μ f1 f2 f3 f4 f5 f6) : Rp (muSet μ k y) (upd f1 k y) f2 f3 f4 f5 f6 := by
  refine ⟨h.1, trivial, fun j hj => ?_, fun j hj => ?_, fun j hj => ?_, fun j hj => ?_, h.2.2.2.2.2.2.1, h.2.2.2.2.2.2.2.1, h.2.2.2.2.2.2.2.2⟩
  · show _ = if 0 = 0 ∧ j = k then y else mv μ 0 j
    by_cases hc : j = k
    · subst hc
      rw [pk_us, if_pos ⟨rfl, rfl⟩]
    · rw [pk_un hc, if_neg (fun q => hc q.2)]
      exact h.set hj
  · show _ = if 1 = 0 ∧ j = k then y else mv μ 1 j
    rw [if_neg (fun q => absurd q.1 (by decide))]
    exact h.wid hj
  · show _ = if 2 = 0 ∧ j = k then y else mv μ 2 j
    rw [if_neg (fun q => absurd q.1 (by decide))]
    exact h.lef hj
  · show _ = if 3 = 0 ∧ j = k then y else mv μ 3 j
    rw [if_neg (fun q => absurd q.1 (by decide))]
    exact h.rig hj
theorem Rp_sort {μ : Mu} {f1 f2 f3 f4 f5 f6 : Nat → Int32} {q : Nat} {w l r : Int32} (h : Rp μ f1 f2 f3 f4 f5 f6) : Rp (muSort μ q w l r) f1 (upd f2 q w) (upd f3 q l) (upd f4 q r) f5 f6 := by
  have key : ∀ (i : Nat) (f : Nat → Int32) (v : Int32) (j : Nat), f j = mv μ i j → (if i = 1 then w else if i = 2 then l else if i = 3 then r else mv μ i q) = v → upd f q v j = if j = q then (if i = 1 then w else if i = 2 then l else if i = 3 then r else mv μ i j) else mv μ i j := by
    intro i f v j h1 h2
    by_cases hc : j = q
    · subst hc
      rw [pk_us, if_pos rfl, h2]
    · rw [pk_un hc, if_neg hc, h1]
  refine ⟨h.1, trivial, fun j hj => ?_, fun j hj => key 1 f2 w j (h.wid hj) rfl, fun j hj => key 2 f3 l j (h.lef hj) rfl, fun j hj => key 3 f4 r j (h.rig hj) rfl, h.2.2.2.2.2.2.1, h.2.2.2.2.2.2.2.1, h.2.2.2.2.2.2.2.2⟩
  show _ = if j = q then _ else mv μ 0 j
  split
  · exact h.set hj
  · exact h.set hj
theorem Rp_right {μ : Mu} {f1 f2 f3 f4 f5 f6 : Nat → Int32} {q : Nat} {y : Int32} (h : Rp μ f1 f2 f3 f4 f5 f6) : Rp (muRight μ q y) f1 f2 f3 (upd f4 q y) f5 f6 := by
  refine ⟨h.1, trivial, fun j hj => ?_, fun j hj => ?_, fun j hj => ?_, fun j hj => ?_, h.2.2.2.2.2.2.1, h.2.2.2.2.2.2.2.1, h.2.2.2.2.2.2.2.2⟩
  · show _ = if 0 = 3 ∧ j = q then y else mv μ 0 j
    rw [if_neg (fun q => absurd q.1 (by decide))]
    exact h.set hj
  · show _ = if 1 = 3 ∧ j = q then y else mv μ 1 j
    rw [if_neg (fun q => absurd q.1 (by decide))]
    exact h.wid hj
  · show _ = if 2 = 3 ∧ j = q then y else mv μ 2 j
    rw [if_neg (fun q => absurd q.1 (by decide))]
    exact h.lef hj
  · show _ = if 3 = 3 ∧ j = q then y else mv μ 3 j
    by_cases hc : j = q
    · subst hc
      rw [pk_us, if_pos ⟨rfl, rfl⟩]
    · rw [pk_un hc, if_neg (fun q => hc q.2)]
      exact h.rig hj
theorem mod6 {a b : Nat} (h : b ≤ a) (h2 : a < b + 6) : a % 6 = if a < 6 then a else if a < 12 then a - 6 else a % 6 := by
  split
  · exact Nat.mod_eq_of_lt (by assumption)
  · split
    · omega
    · rfl
/-- the state goes into the ring -/
theorem HsP.push {κ : Kt} {z : Nat} {st st' : St} {hs : Nat → Mu} {n nx : Nat} {g : Nat → Option Nat} {μ : Mu} (h2 : ∀ i, i < 6 → g i = some (ad κ (33 + 7 * i))) (h3 : nx < 6) (h4 : n ≤ 6) (h5 : ∀ i, i < 6 → ShA κ z st (33 + 7 * i)) (h6 : ∀ k, k < n → ShP κ z st (33 + 7 * ((nx + 6 - n + k) % 6)) (hs k)) (hO : Ob z st' 31 (bHs κ 31 g (nI ((nx + 1) % 6)) (nI (hcnt n)))) (hT : ShP κ z st' (33 + 7 * nx) μ) (hF : Fr (fun q : Nat => q = 31 ∨ (33 + 7 * nx ≤ q ∧ q < 33 + 7 * nx + 7)) st st') : HsP κ z st' (hpush hs n μ) (hcnt n) := by
  have hcn : hcnt n = if n < 6 then n + 1 else 6 := rfl
  refine ⟨g, (nx + 1) % 6, hO, h2, Nat.mod_lt _ (by omega), by rw [hcn]; split <;> omega, fun i hi => ?_, fun k hk => ?_⟩
  · by_cases hc : i = nx
    · subst hc
      exact ⟨μ, hT⟩
    · exact (h5 i hi).fr hF (fun q a b => (show ¬ (q = 31 ∨ (33 + 7 * nx ≤ q ∧ q < 33 + 7 * nx + 7)) from by omega))
  · rw [hcn] at hk ⊢
    have key : ∀ (j : Nat) (ν : Mu), j < 6 → j ≠ nx → ShP κ z st (33 + 7 * j) ν → ShP κ z st' (33 + 7 * j) ν := fun j ν hj hne h => h.fr hF (fun q a b => (show ¬ (q = 31 ∨ (33 + 7 * nx ≤ q ∧ q < 33 + 7 * nx + 7)) from by omega))
    by_cases hn : n < 6
    · rw [if_pos hn] at hk ⊢
      have e : ((nx + 1) % 6 + 6 - (n + 1) + k) % 6 = (nx + 6 - n + k) % 6 := by omega
      rw [e]
      unfold hpush
      rw [if_pos hn]
      show ShP κ z st' _ (if k < n then hs k else μ)
      by_cases hkn : k < n
      · rw [if_pos hkn]
        exact key _ _ (Nat.mod_lt _ (by omega)) (by omega) (h6 k hkn)
      · rw [if_neg hkn]
        have e2 : (nx + 6 - n + k) % 6 = nx := by omega
        rw [e2]
        exact hT
    · rw [if_neg hn] at hk ⊢
      have e0 : n = 6 := by omega
      subst e0
      unfold hpush
      rw [if_neg hn]
      show ShP κ z st' _ (if k < 5 then hs (k + 1) else μ)
      by_cases hkn : k < 5
      · rw [if_pos hkn]
        have e : ((nx + 1) % 6 + 6 - 6 + k) % 6 = (nx + 6 - 6 + (k + 1)) % 6 := by omega
        rw [e]
        exact key _ _ (Nat.mod_lt _ (by omega)) (by omega) (h6 (k + 1) (by omega))
      · rw [if_neg hkn]
        have e : ((nx + 1) % 6 + 6 - 6 + k) % 6 = nx := by omega
        rw [e]
        exact hT
/-- the latest state comes out of the ring -/
theorem HsP.pop {κ : Kt} {z : Nat} {st st' : St} {hs : Nat → Mu} {n nx : Nat} {g : Nat → Option Nat} (h2 : ∀ i, i < 6 → g i = some (ad κ (33 + 7 * i))) (h3 : nx < 6) (h4 : n ≤ 6) (hn : 0 < n) (h5 : ∀ i, i < 6 → ShA κ z st (33 + 7 * i)) (h6 : ∀ k, k < n → ShP κ z st (33 + 7 * ((nx + 6 - n + k) % 6)) (hs k)) (hO : Ob z st' 31 (bHs κ 31 g (nI ((nx + 6 - 1) % 6)) (nI (n - 1)))) (hF : Fr (fun q : Nat => q = 31 ∨ (1 ≤ q ∧ q < 1 + 7)) st st') : HsP κ z st' hs (n - 1) := by
  refine ⟨g, (nx + 6 - 1) % 6, hO, h2, Nat.mod_lt _ (by omega), by omega, fun i hi => (h5 i hi).fr hF (fun q a b => (show ¬ (q = 31 ∨ (1 ≤ q ∧ q < 1 + 7)) from by omega)), fun k hk => ?_⟩
  have e : ((nx + 6 - 1) % 6 + 6 - (n - 1) + k) % 6 = (nx + 6 - n + k) % 6 := by omega
  rw [e]
  exact (h6 k (by omega)).fr hF (fun q a b => (show ¬ (q = 31 ∨ (1 ≤ q ∧ q < 1 + 7)) from by omega))
end
section
theorem fa_lt (a b : Int32) : a < b ↔ a.toInt < b.toInt := Int32.lt_iff_toInt_lt
theorem fa_le (a b : Int32) : a ≤ b ↔ a.toInt ≤ b.toInt := Int32.le_iff_toInt_le
/-! how the answers come out, branch by branch -/
def PX (κ : Kt) (z : Nat) (st0 : St) (v : Int32 × Sg) : Option Value → St → Prop := PI (fun r u => r = v.1 ∧ XI κ z u v.2 ∧ Fr (fun q : Nat => q < 91) st0 u)
theorem PX_ret {κ : Kt} {z : Nat} {st0 u : St} {v : Int32 × Sg} {r : Int32} {S' : Sg} (hf : v = (r, S')) (hX : XI κ z u S') (hF : Fr (fun q : Nat => q < 91) st0 u) : PX κ z st0 v (some (.int r)) u := by
  subst hf
  exact ⟨r, rfl, rfl, hX, hF⟩
def lid (way : Nat) : Nat := if way = 0 then 15 else 22
theorem lid_or (way : Nat) : lid way = 15 ∨ lid way = 22 := by
  unfold lid
  split
  · exact Or.inl rfl
  · exact Or.inr rfl
def BrkP (κ : Kt) (z : Nat) (st : St) (b : Nat) (μ : Mu) (nxt : Nat → Nat) : Prop := ∃ (p l r s lf nx : Nat → Int32), Ob z st b (bLy κ b p l r (nI (mn μ)) (mv μ 0 0) (mv μ 0 1) (mv μ 0 2) s (nI (lno nxt (mn μ))) lf nx) ∧ LyW μ p l r ∧ LyB nxt (mn μ) (lno nxt (mn μ)) s
theorem BrkP.ly {κ : Kt} {z : Nat} {st : St} {b : Nat} {μ : Mu} {nxt : Nat → Nat} (h : BrkP κ z st b μ nxt) : LyA κ z st b := by
  obtain ⟨p, l, r, s, lf, nx, h, -⟩ := h
  exact ⟨p, l, r, _, _, _, _, s, _, lf, nx, h⟩
theorem BrkP.fr {κ : Kt} {z : Nat} {st st' : St} {b : Nat} {μ : Mu} {nxt : Nat → Nat} {A : Nat → Prop} (h : BrkP κ z st b μ nxt) (hF : Fr A st st') (hA : ∀ q, b ≤ q → q < b + 7 → ¬ A q) : BrkP κ z st' b μ nxt := by
  obtain ⟨p, l, r, s, lf, nx, h1, h2⟩ := h
  exact ⟨p, l, r, s, lf, nx, hF.ob h1 hA, h2⟩
section OPF
variable {S : Sg} {x y v w l r : Int32} {i j k q way what : Nat}
theorem fSet_n (h : ixv x 4 = none) : fSet S x y = (-1002, S) := by unfold fSet; rw [h]
theorem fSet_b (h : ixv x 4 = some k) (h2 : ¬ (lsv k ≤ y ∧ y ≤ gsv k)) : fSet S x y = (-1002, S) := by
  unfold fSet
  rw [h]
  exact if_neg h2
theorem fSet_s (h : ixv x 4 = some k) (h1 : lsv k ≤ y) (h2 : y ≤ gsv k) : fSet S x y = (mv (sM S) 0 k, withM (push S) (muSet (sM S) k y)) := by
  unfold fSet
  rw [h]
  exact if_pos ⟨h1, h2⟩
theorem fSort_n (h : ixv x 8 = none) : fSort S x w l r = (-1001, S) := by unfold fSort; rw [h]
theorem fSort_b (h : ixv x 8 = some k) (h2 : ¬ ((nI 1 ≤ w ∧ w ≤ nI 20) ∧ ixv l 101 ≠ none ∧ ixv r 101 ≠ none)) : fSort S x w l r = (-1002, S) := by
  unfold fSort
  rw [h]
  exact if_neg h2
theorem fSort_s (h : ixv x 8 = some k) (h2 : (nI 1 ≤ w ∧ w ≤ nI 20) ∧ ixv l 101 ≠ none ∧ ixv r 101 ≠ none) : fSort S x w l r = (mv (sM S) 1 k, withM (push S) (muSort (sM S) k w l r)) := by
  unfold fSort
  rw [h]
  exact if_pos h2
theorem bix_ne (h : ¬ bix x k = 0) : ixv x k ≠ none := fun q => h (bix_n q)
theorem fRead_b (h : ¬ flt (sPt S) (sPn S) = -1006) : fRead S = (-1003, S) := if_neg h
theorem fRead_t (h : flt (sPt S) (sPn S) = -1006) (h2 : ¬ mn (sM S) + wno (sPt S) (sPn S) ≤ 24) : fRead S = (-1004, S) := (if_pos h).trans (if_neg h2)
theorem fRead_s (h : flt (sPt S) (sPn S) = -1006) (h2 : mn (sM S) + wno (sPt S) (sPn S) ≤ 24) : fRead S = (nI (mn (sM S) + wno (sPt S) (sPn S)), withP (withM (push S) (muRead (sM S) (sPt S) (sPn S))) (sPt S) 0) := (if_pos h).trans (if_pos h2)
theorem fDrop_n (h : ixv x (mn (sM S)) = none) : fDrop S x = (-1001, S) := by unfold fDrop; rw [h]
theorem fDrop_s (h : ixv x (mn (sM S)) = some i) : fDrop S x = (wd (sM S) i, withM (push S) (muDrop (sM S) i)) := by unfold fDrop; rw [h]
theorem fSwap_1 (h : ixv x (mn (sM S)) = none) : fSwap S x y = (-1001, S) := by
  unfold fSwap
  rw [h]
theorem fSwap_2 (h : ixv y (mn (sM S)) = none) : fSwap S x y = (-1001, S) := by
  unfold fSwap
  rw [h]
  cases ixv x (mn (sM S)) <;> rfl
theorem fSwap_e (h : ixv x (mn (sM S)) = some i) (h2 : ixv y (mn (sM S)) = some j) (e : i = j) : fSwap S x y = (-1002, S) := by
  unfold fSwap
  rw [h, h2]
  exact if_pos e
theorem fSwap_s (h : ixv x (mn (sM S)) = some i) (h2 : ixv y (mn (sM S)) = some j) (e : ¬ i = j) : fSwap S x y = (nI (lnw (muSwap (sM S) i j) 0), withM (push S) (muSwap (sM S) i j)) := by
  unfold fSwap
  rw [h, h2]
  exact if_neg e
theorem fSortOf_n (h : ixv x 8 = none) : fSortOf S x y = -1001 := by unfold fSortOf; rw [h]
theorem fSortOf_b (h : ixv x 8 = some q) (h2 : ixv y 6 = none) : fSortOf S x y = -1002 := by unfold fSortOf; rw [h, h2]
theorem fSortOf_0 (h : ixv x 8 = some q) (h2 : y = nI 0) : fSortOf S x y = mv (sM S) 1 q := by unfold fSortOf; rw [h, h2, ixv_s (by decide) (by decide)] <;> rfl
theorem fSortOf_1 (h : ixv x 8 = some q) (h2 : y = nI 1) : fSortOf S x y = mv (sM S) 2 q := by unfold fSortOf; rw [h, h2, ixv_s (by decide) (by decide)] <;> rfl
theorem fSortOf_2 (h : ixv x 8 = some q) (h2 : y = nI 2) : fSortOf S x y = mv (sM S) 3 q := by unfold fSortOf; rw [h, h2, ixv_s (by decide) (by decide)] <;> rfl
theorem fSortOf_3 (h : ixv x 8 = some q) (h2 : y = nI 3) : fSortOf S x y = hg (sM S) 2 q := by unfold fSortOf; rw [h, h2, ixv_s (by decide) (by decide)] <;> rfl
theorem fSortOf_4 (h : ixv x 8 = some q) (h2 : y = nI 4) : fSortOf S x y = hg (sM S) 3 q := by unfold fSortOf; rw [h, h2, ixv_s (by decide) (by decide)] <;> rfl
theorem fSortOf_5 (h : ixv x 8 = some q) (h2 : y = nI 5) : fSortOf S x y = nI (cnT (sM S) q (mn (sM S))) := by unfold fSortOf; rw [h, h2, ixv_s (by decide) (by decide)] <;> rfl
theorem fWord_n (h : ixv x (mn (sM S)) = none) : fWord S x y = -1001 := by unfold fWord; rw [h]
theorem fWord_b (h : ixv x (mn (sM S)) = some i) (h2 : y < 0) : fWord S x y = -1002 := by unfold fWord; rw [h]; exact if_pos h2
theorem nI_nneg (h : y = nI k) (hk : k < 2 ^ 31) : ¬ y < 0 := by rw [h]; exact nI_pos hk
theorem fWord_0 (h : ixv x (mn (sM S)) = some i) (h2 : y = nI 0) : fWord S x y = nI (ml (sM S) i) := by
  unfold fWord
  rw [h]
  show (if y < 0 then _ else _) = _
  rw [if_neg (nI_nneg h2 (by decide)), h2, ixv_s (by decide) (by decide)] <;> rfl
theorem fWord_1 (h : ixv x (mn (sM S)) = some i) (h2 : y = nI 1) : fWord S x y = wd (sM S) i := by
  unfold fWord
  rw [h]
  show (if y < 0 then _ else _) = _
  rw [if_neg (nI_nneg h2 (by decide)), h2, ixv_s (by decide) (by decide)] <;> rfl
theorem fWord_2 (h : ixv x (mn (sM S)) = some i) (h2 : y = nI 2) : fWord S x y = nI (lof (nxw (sM S) 0) i (lnw (sM S) 0)) := by
  unfold fWord
  rw [h]
  show (if y < 0 then _ else _) = _
  rw [if_neg (nI_nneg h2 (by decide)), h2, ixv_s (by decide) (by decide)] <;> rfl
theorem fWord_3 (h : ixv x (mn (sM S)) = some i) (h2 : y = nI 3) : fWord S x y = nI (lof (nxw (sM S) 1) i (lnw (sM S) 1)) := by
  unfold fWord
  rw [h]
  show (if y < 0 then _ else _) = _
  rw [if_neg (nI_nneg h2 (by decide)), h2, ixv_s (by decide) (by decide)] <;> rfl
theorem fWord_4 (h : ixv x (mn (sM S)) = some i) (h2 : nI 4 ≤ y) (h3 : ixv (y - nI 4) (ml (sM S) i) = some j) : fWord S x y = mg (sM S) i j := by
  unfold fWord
  rw [h]
  show (if y < 0 then _ else _) = _
  rw [if_neg (fun q => absurd (Int32.lt_of_lt_of_le q (by decide : (0 : Int32) ≤ nI 4)) (Int32.not_lt.mpr h2)), ixv_g (Int32.not_lt.mpr h2), h3]
theorem fWord_5 (h : ixv x (mn (sM S)) = some i) (h2 : nI 4 ≤ y) (h3 : ixv (y - nI 4) (ml (sM S) i) = none) : fWord S x y = -1006 := by
  unfold fWord
  rw [h]
  show (if y < 0 then _ else _) = _
  rw [if_neg (fun q => absurd (Int32.lt_of_lt_of_le q (by decide : (0 : Int32) ≤ nI 4)) (Int32.not_lt.mpr h2)), ixv_g (Int32.not_lt.mpr h2), h3]
theorem fLine_1 (h : ixv x 2 = none) : fLine S x y v = -1002 := by unfold fLine; rw [h]
theorem fLine_2 (h : ixv v 9 = none) : fLine S x y v = -1002 := by
  unfold fLine
  rw [h]
  cases ixv x 2 <;> rfl
theorem fLine_3 (h : ixv x 2 = some way) (h2 : ixv v 9 = some what) (h3 : ixv y (lnw (sM S) way) = none) : fLine S x y v = -1001 := by
  unfold fLine
  rw [h, h2]
  show (match ixv y (lnw (sM S) way) with | some i => _ | none => _) = _
  rw [h3]
theorem fLine_4 (h : ixv x 2 = some way) (h2 : ixv v 9 = some what) (h3 : ixv y (lnw (sM S) way) = some i) : fLine S x y v = tell (sM S) (nxw (sM S) way) (mv (sM S) 0 0) (mv (sM S) 0 2) (lnw (sM S) way) i what := by
  unfold fLine
  rw [h, h2]
  show (match ixv y (lnw (sM S) way) with | some i => _ | none => _) = _
  rw [h3]
theorem fLines_1 (h : ixv x 2 = none) : fLines S x y = -1002 := by unfold fLines; rw [h]
theorem fLines_2 (h : ixv y 5 = none) : fLines S x y = -1002 := by
  unfold fLines
  rw [h]
  cases ixv x 2 <;> rfl
theorem fLines_s (h : ixv x 2 = some way) (h2 : y = nI what) (h3 : what < 5) : fLines S x y = fLn S way what := by
  have e : ixv y 5 = some what := by rw [h2]; exact ixv_s h3 (by omega)
  unfold fLines
  rw [h, e]
theorem fCount_b (h : ixv x 10 = none) : fCount S x = -1002 := by unfold fCount; rw [h]
theorem fCount_k (h : x = nI k) (hk : k < 4) : fCount S x = mv (sM S) 0 k := by
  unfold fCount
  rw [h, ixv_s (by omega) (by decide)]
  rcases (show k = 0 ∨ k = 1 ∨ k = 2 ∨ k = 3 from by omega) with rfl | rfl | rfl | rfl <;> rfl
theorem fCount_4 (h : x = nI 4) : fCount S x = nI (mn (sM S)) := by unfold fCount; rw [h, ixv_s (by decide) (by decide)] <;> rfl
theorem fCount_5 (h : x = nI 5) : fCount S x = nI (smN (ml (sM S)) (mn (sM S))) := by unfold fCount; rw [h, ixv_s (by decide) (by decide)] <;> rfl
theorem fCount_6 (h : x = nI 6) : fCount S x = nI (smN (ml (sM S)) (mn (sM S)) - cnT (sM S) 0 (mn (sM S))) := by unfold fCount; rw [h, ixv_s (by decide) (by decide)] <;> rfl
theorem fCount_8 (h : x = nI 8) : fCount S x = nI (sPn S) := by unfold fCount; rw [h, ixv_s (by decide) (by decide)] <;> rfl
theorem fCount_9 (h : x = nI 9) : fCount S x = nI (sHn S) := by unfold fCount; rw [h, ixv_s (by decide) (by decide)] <;> rfl
theorem pCount_of (h : x ≠ nI 7) (h2 : v = fCount S x) : pCount S x v := Or.inr ⟨h, h2⟩
theorem nI_ne {a b : Nat} (h : x = nI a) (ha : a < 2 ^ 31) (hb : b < 2 ^ 31) (hab : a ≠ b) : x ≠ nI b := fun q => hab ((nI_eq ha hb).mp (h.symm.trans q))
theorem fBody_1 (h : ixv x (mn (sM S)) = none) : fBody S x y = -1001 := by unfold fBody; rw [h]
theorem fBody_2 (h : ixv y (mn (sM S)) = none) : fBody S x y = -1001 := by
  unfold fBody
  rw [h]
  cases ixv x (mn (sM S)) <;> rfl
theorem fBody_3 (h : ixv x (mn (sM S)) = some i) (h2 : ixv y (mn (sM S)) = some j) (e : ¬ i ≤ j) : fBody S x y = -1001 := by
  unfold fBody
  rw [h, h2]
  exact if_neg e
theorem fBody_4 (h : ixv x (mn (sM S)) = some i) (h2 : ixv y (mn (sM S)) = some j) (e : i ≤ j) : fBody S x y = bo (sM S) i j := by
  unfold fBody
  rw [h, h2]
  exact if_pos e
theorem lsmf_s {μ : Mu} {L d : Nat} (hd : d < 181) : lsmf μ L (181 - d) (20 + d) = if lnm μ (20 + d) ≤ L then nI (20 + d) else lsmf μ L (181 - (d + 1)) (20 + (d + 1)) := by
  rw [show 181 - d = (181 - (d + 1)) + 1 from by omega]
  rfl
theorem fLeast_b (h : ¬ (nI 1 ≤ x ∧ x ≤ nI 24)) : fLeast S x = -1002 := if_neg h
theorem fLeast_s {L : Nat} (h : x = nI L) (h1 : 1 ≤ L) (h2 : L ≤ 24) : fLeast S x = lsmf (sM S) L 181 20 := by
  unfold fLeast
  rw [h, if_pos ⟨nI_le h1 (by omega), nI_le h2 (by omega)⟩, nI_clamp (by omega)]
theorem arg1_le (f : Nat → Int32) : ∀ k, 0 < k → ∀ j, j < k → (arg1 f k).2 ≤ f j := by
  intro k
  induction k with
  | zero => intro h; omega
  | succ k ih =>
    intro _ j hj
    unfold arg1
    by_cases hc : k = 0 ∨ f k < (arg1 f k).2
    · rw [if_pos hc]
      show f k ≤ f j
      rcases Nat.lt_or_ge j k with g | g
      · rcases hc with hc | hc
        · omega
        · exact Int32.le_trans (Int32.le_of_lt hc) (ih (by omega) j g)
      · rw [show j = k from by omega]
        exact Int32.le_refl _
    · rw [if_neg hc]
      rcases Nat.lt_or_ge j k with g | g
      · exact ih (by omega) j g
      · rw [show j = k from by omega]
        exact Int32.not_lt.mp (fun q => hc (Or.inr q))
theorem arg1_y {f : Nat → Int32} {k : Nat} (h : k = 0 ∨ f k < (arg1 f k).2) : arg1 f (k + 1) = (k, f k) := if_pos h
theorem arg1_n {f : Nat → Int32} {k : Nat} (h : ¬ (k = 0 ∨ f k < (arg1 f k).2)) : arg1 f (k + 1) = arg1 f k := if_neg h
theorem fBest_n (h : ixv x 8 = none) : fBest S x = -1001 := by unfold fBest; rw [h]
theorem fBest_s (h : ixv x 8 = some q) : fBest S x = nI (arg1 (fun r => lbd (muRight (sM S) q (nI r))) 101).1 := by unfold fBest; rw [h]
theorem fPut_0 {V : Nat} (h : plen V = 0) : fPut S V = (-1002, S) := if_pos h
theorem fPut_t {V : Nat} (h : ¬ plen V = 0) (h2 : ¬ sPn S + plen V ≤ 60) : fPut S V = (-1004, S) := (if_neg h).trans (if_neg h2)
theorem fPut_s {V : Nat} (h : ¬ plen V = 0) (h2 : sPn S + plen V ≤ 60) : fPut S V = (nI (sPn S + plen V), withP S (ptPut (sPt S) (sPn S) V (plen V)) (sPn S + plen V)) := (if_neg h).trans (if_pos h2)
theorem fUndo_0 (h : sHn S = 0) : fUndo S = (-1005, S) := if_pos h
theorem fUndo_s (h : ¬ sHn S = 0) : fUndo S = (nI (sHn S - 1), (sH S (sHn S - 1), (sH S, sHn S - 1), S.2.2)) := if_neg h
theorem fSave_n (h : ixv x 2 = none) : fSave S x = (-1002, S) := by unfold fSave; rw [h]
theorem fSave_s (h : ixv x 2 = some i) : fSave S x = (nI (mn (sM S)), (S.1, S.2.1, S.2.2.1, (va_up (sSl S) i (sM S), va_up (sFd S) i 1))) := by unfold fSave; rw [h]
theorem fRestore_n (h : ixv x 2 = none) : fRestore S x = (-1002, S) := by unfold fRestore; rw [h]
theorem fRestore_0 (h : ixv x 2 = some i) (h2 : sFd S i = 0) : fRestore S x = (-1005, S) := by
  unfold fRestore
  rw [h]
  exact if_pos h2
theorem fRestore_s (h : ixv x 2 = some i) (h2 : ¬ sFd S i = 0) : fRestore S x = (nI (mn (sSl S i)), withM (push S) (sSl S i)) := by
  unfold fRestore
  rw [h]
  exact if_neg h2
end OPF
/-- the least badness rests on how far the sign hangs, not on the share -/
theorem wd_right (μ : Mu) (q : Nat) (a : Int32) (w : Nat) : wd (muRight μ q a) w = wd μ w := by
  have h1 : ∀ i j, i ≠ 3 → mv (muRight μ q a) i j = mv μ i j := fun i j hi => if_neg (fun z => hi z.1)
  have h2 : ∀ k, wdS (muRight μ q a) w k = wdS μ w k := by
    intro k
    induction k with
    | zero => rfl
    | succ k ih =>
      show wdS (muRight μ q a) w k + mv (muRight μ q a) 1 _ = wdS μ w k + mv μ 1 _
      rw [ih, h1 1 _ (by decide)]
      rfl
  exact h2 _
theorem hg_right {μ : Mu} {q : Nat} {a c : Int32} (h : hg (muRight μ q a) 3 q = hg (muRight μ q c) 3 q) : ∀ s, hg (muRight μ q a) 3 s = hg (muRight μ q c) 3 s := by
  intro s
  by_cases hs : s = q
  · subst hs
    exact h
  · unfold hg
    have h1 : ∀ i j d, ¬ (i = 3 ∧ j = q) → mv (muRight μ q d) i j = mv μ i j := fun i j d hi => if_neg hi
    rw [h1 0 3 a (by omega), h1 0 3 c (by omega), h1 1 s a (by omega), h1 1 s c (by omega), h1 3 s a (by omega), h1 3 s c (by omega)]
theorem bo_right {μ : Mu} {q : Nat} {a c : Int32} (h : hg (muRight μ q a) 3 q = hg (muRight μ q c) 3 q) : bo (muRight μ q a) = bo (muRight μ q c) := by
  have h1 : ∀ i j d, i ≠ 3 → mv (muRight μ q d) i j = mv μ i j := fun i j d hi => if_neg (fun z => hi z.1)
  have hp : ∀ d k, pl (muRight μ q d) k = pl μ k := by
    intro d k
    induction k with
    | zero => rfl
    | succ k ih =>
      show pl (muRight μ q d) k + wd (muRight μ q d) k + mv (muRight μ q d) 0 1 = _
      rw [ih, wd_right, h1 0 1 d (by decide)]
      rfl
  have hl : ∀ d w, lh (muRight μ q d) w = lh μ w := by
    intro d w
    show hg (muRight μ q d) 2 _ = hg μ 2 _
    unfold hg
    rw [h1 0 3 d (by decide), h1 1 _ d (by decide), h1 2 _ d (by decide)]
    rfl
  funext i j
  show wl (muRight μ q a) i j - lh (muRight μ q a) i - hg (muRight μ q a) 3 _ = wl (muRight μ q c) i j - lh (muRight μ q c) i - hg (muRight μ q c) 3 _
  rw [hl, hl, hg_right h]
  unfold wl
  rw [hp, hp, hp, hp, h1 0 1 a (by decide), h1 0 1 c (by decide)]
  rfl
theorem lbd_right {μ : Mu} {q : Nat} {a c : Int32} (h : hg (muRight μ q a) 3 q = hg (muRight μ q c) 3 q) : lbd (muRight μ q a) = lbd (muRight μ q c) := by
  unfold lbd
  rw [bo_right h]
  rfl
theorem hg_0 (μ : Mu) (q : Nat) : hg (muRight μ q (nI 0)) 3 q = nI 0 := by
  unfold hg
  split
  · rfl
  · rw [show mv (muRight μ q (nI 0)) 3 q = nI 0 from if_pos ⟨rfl, rfl⟩, show nI 0 = (0 : Int32) from rfl, Int32.mul_zero]
    decide
theorem le100 {x : Int32} (h : x < nI 101) (h2 : nI 100 < x) : False := by
  rw [fa_lt] at h h2
  rw [nI_toInt (by decide)] at h h2
  omega
theorem lt101 {x : Int32} (h : ¬ nI 100 < x) : x < nI 101 := by
  rw [fa_lt] at h ⊢
  rw [nI_toInt (by decide)] at h ⊢
  omega
end
section
section
variable {zl : Launch} {κ : Kt} {z : Nat} {st0 : St}
set_option maxRecDepth 100000 in
set_option maxHeartbeats 4000000 in
theorem c_X0_record {hs : Nat → Mu} {n : Nat} {μ : Mu} (hHs : HsP κ z st0 hs n) (hS : ShP κ z st0 1 μ) : CT zl κ yX0_record cX0_record 2 none (r0 2 39) z [.ref (ad κ 31), .ref (ad κ 1)] st0 (PV (fun u => HsP κ z u (hpush hs n μ) (hcnt n) ∧ Fr (fun q : Nat => 31 ≤ q ∧ q < 75) st0 u)) := by
  obtain ⟨P, hP⟩ : ∃ P : Option Value → St → Prop, P = (PV (fun u => HsP κ z u (hpush hs n μ) (hcnt n) ∧ Fr (fun q : Nat => 31 ≤ q ∧ q < 75) st0 u)) := ⟨_, rfl⟩
  rw [← hP]
  refine CT.of (by decide +kernel) (Nat.le_of_ble_eq_true rfl) (fun zp ze zs zm zar zbe zme zc C _ => ?_)
  have C : Cx zp zs zm zar zme zc κ cX0_record 2 RX0 none := C
  refine ws_lv (lv2 := [some (.ref (ad κ 31)), some (.ref (ad κ 1))]) rfl ?_
  obtain ⟨g, nx, hH, h2, h3, h4, h5, h6⟩ := hHs
  obtain ⟨ν, t1, t2, t3, t4, t5, t6, hT, hRT⟩ := h5 nx h3
  obtain ⟨f1, f2, f3, f4, f5, f6, hB, hR⟩ := hS
  have hF : Fr (fun q : Nat => q = 31 ∨ (33 + 7 * nx ≤ q ∧ q < 33 + 7 * nx + 7)) st0 st0 := Fr.rf
  refine ws_aload_n 0 C dX0_record_0 rfl ?_
  refine ws_get 1 C dX0_record_1 fX0_11 hH rfl rfl ?_
  refine ws_aload_n 4 C dX0_record_4 rfl ?_
  refine ws_get 5 C dX0_record_5 fX0_17 hH rfl rfl ?_
  refine ws_aald 8 C dX0_record_8 hH 1 rfl (vp_in_nI (by omega) (by decide)) (ad κ (33 + 7 * nx)) ((congrArg g (nI_clamp (by omega))).trans (h2 nx h3)) ?_
  refine ws_aload_n 9 C dX0_record_9 rfl ?_
  refine ws_callV0 10 C dX0_record_10 vX0_25 (c_X3_copyFrom ⟨_, _, _, _, _, _, hT, hRT⟩ hB hR (by omega)) rfl hT rfl rfl ⟨by decide, by decide⟩ ⟨Nat.zero_le _, Nat.zero_le _⟩ rfl rfl rfl (kV (fun u10 h10 => ?_))
  obtain ⟨⟨t1, t2, t3, t4, t5, t6, hT, hRT⟩, hfr⟩ := h10
  have hH := hfr.ob hH (fun q (g1 : 31 ≤ q) (g2 : q < 31 + 2) => (show ¬ (33 + 7 * nx ≤ q ∧ q < 33 + 7 * nx + 7) from by omega))
  have hB := hfr.ob hB (fun q (g1 : 1 ≤ q) (g2 : q < 1 + 7) => (show ¬ (33 + 7 * nx ≤ q ∧ q < 33 + 7 * nx + 7) from by omega))
  have hF := hF.then hfr (fun q (hq : 33 + 7 * nx ≤ q ∧ q < 33 + 7 * nx + 7) => (show q = 31 ∨ (33 + 7 * nx ≤ q ∧ q < 33 + 7 * nx + 7) from by omega))
  refine ws_aload_n 13 C dX0_record_13 rfl ?_
  refine ws_aload_n 14 C dX0_record_14 rfl ?_
  refine ws_get 15 C dX0_record_15 fX0_17 hH rfl rfl ?_
  refine ws_iconst 18 C dX0_record_18 (nI 1) (by decide) ?_
  refine ws_iadd 19 C dX0_record_19 (nI (nx + 1)) (nI_add _ _) ?_
  refine ws_bipush 20 C dX0_record_20 (nI 6) (by decide) ?_
  refine ws_irem 22 C dX0_record_22 (by decide) (nI ((nx + 1) % 6)) (pk_rem (by omega) (by omega) (by omega)) ?_
  refine ws_put 23 C dX0_record_23 fX0_17 q0_1 hH rfl (Nat.le_of_ble_eq_true rfl) rfl rfl (fun st1 est1 => ?_)
  have hH : Ob z st1 31 (bHs κ 31 g (nI ((nx + 1) % 6)) (nI n)) := Ob.put' (j := 0) hH est1 rfl
  have hB := hB.ne' (L := 7) est1 rfl (by omega)
  have hT := hT.ne' (L := 7) est1 rfl (by omega)
  have hF := hF.put' est1 (show (31) = 31 ∨ (33 + 7 * nx ≤ (31) ∧ (31) < 33 + 7 * nx + 7) from by omega)
  refine ws_aload_n 26 C dX0_record_26 rfl ?_
  refine ws_get 27 C dX0_record_27 fX0_21 hH rfl rfl ?_
  refine ws_bipush 30 C dX0_record_30 (nI 6) (by decide) ?_
  refine ws_nicmp_ge 32 C 45 dX0_record_32 (by decide) (by omega) (by omega) (fun c32 => ?_) (fun c32 => ?_)
  · skip
    have hcn : hcnt n = n := (if_neg (by omega)).trans (by omega)
    rw [← hcn] at hH
    exact ws_vret 45 C dX0_record_45 rfl (Nat.le_refl _) (Nat.le_refl _) (by rw [hP]; exact ⟨rfl, ⟨HsP.push h2 h3 h4 h5 h6 (by first | exact hH | (rw [hcn]; exact hH)) ⟨_, _, _, _, _, _, hT, hRT⟩ hF, hF.weak (fun q (hq : q = 31 ∨ (33 + 7 * nx ≤ q ∧ q < 33 + 7 * nx + 7)) => (show 31 ≤ q ∧ q < 75 from by omega))⟩⟩)
  · skip
    have hcn : hcnt n = n + 1 := if_pos c32
    refine ws_aload_n 35 C dX0_record_35 rfl ?_
    refine ws_dup 36 C dX0_record_36 rfl ?_
    refine ws_get 37 C dX0_record_37 fX0_21 hH rfl rfl ?_
    refine ws_iconst 40 C dX0_record_40 (nI 1) (by decide) ?_
    refine ws_iadd 41 C dX0_record_41 (nI (n + 1)) (nI_add _ _) ?_
    refine ws_put 42 C dX0_record_42 fX0_21 q0_2 hH rfl (Nat.le_of_ble_eq_true rfl) rfl rfl (fun st2 est2 => ?_)
    have hH : Ob z st2 31 (bHs κ 31 g (nI ((nx + 1) % 6)) (nI (n + 1))) := Ob.put' (j := 0) hH est2 rfl
    have hB := hB.ne' (L := 7) est2 rfl (by omega)
    have hT := hT.ne' (L := 7) est2 rfl (by omega)
    have hF := hF.put' est2 (show (31) = 31 ∨ (33 + 7 * nx ≤ (31) ∧ (31) < 33 + 7 * nx + 7) from by omega)
    rw [← hcn] at hH
    exact ws_vret 45 C dX0_record_45 rfl (Nat.le_refl _) (Nat.le_refl _) (by rw [hP]; exact ⟨rfl, ⟨HsP.push h2 h3 h4 h5 h6 (by first | exact hH | (rw [hcn]; exact hH)) ⟨_, _, _, _, _, _, hT, hRT⟩ hF, hF.weak (fun q (hq : q = 31 ∨ (33 + 7 * nx ≤ q ∧ q < 33 + 7 * nx + 7)) => (show 31 ≤ q ∧ q < 75 from by omega))⟩⟩)

set_option maxRecDepth 100000 in
set_option maxHeartbeats 4000000 in
theorem c_X0_takeBack {hs : Nat → Mu} {n : Nat} (hHs : HsP κ z st0 hs n) (hn : 0 < n) (hS : ShA κ z st0 1) : CT zl κ yX0_takeBack cX0_takeBack 2 none (r0 2 39) z [.ref (ad κ 31), .ref (ad κ 1)] st0 (PV (fun u => (HsP κ z u hs (n - 1) ∧ ShP κ z u 1 (hs (n - 1))) ∧ Fr (fun q : Nat => (1 ≤ q ∧ q < 8) ∨ (31 ≤ q ∧ q < 75)) st0 u)) := by
  obtain ⟨P, hP⟩ : ∃ P : Option Value → St → Prop, P = (PV (fun u => (HsP κ z u hs (n - 1) ∧ ShP κ z u 1 (hs (n - 1))) ∧ Fr (fun q : Nat => (1 ≤ q ∧ q < 8) ∨ (31 ≤ q ∧ q < 75)) st0 u)) := ⟨_, rfl⟩
  rw [← hP]
  refine CT.of (by decide +kernel) (Nat.le_of_ble_eq_true rfl) (fun zp ze zs zm zar zbe zme zc C _ => ?_)
  have C : Cx zp zs zm zar zme zc κ cX0_takeBack 2 RX0 none := C
  refine ws_lv (lv2 := [some (.ref (ad κ 31)), some (.ref (ad κ 1))]) rfl ?_
  obtain ⟨g, nx, hH, h2, h3, h4, h5, h6⟩ := hHs
  obtain ⟨ν, t1, t2, t3, t4, t5, t6, hB, hRT⟩ := hS
  have hk := h6 (n - 1) (by omega)
  rw [show (nx + 6 - n + (n - 1)) % 6 = (nx + 6 - 1) % 6 from by omega] at hk
  obtain ⟨f1, f2, f3, f4, f5, f6, hT, hR⟩ := hk
  have hp6 := Nat.mod_lt (nx + 6 - 1) (show 6 > 0 by omega)
  have hF : Fr (fun q : Nat => q = 31 ∨ (1 ≤ q ∧ q < 1 + 7)) st0 st0 := Fr.rf
  refine ws_aload_n 0 C dX0_takeBack_0 rfl ?_
  refine ws_get 1 C dX0_takeBack_1 fX0_21 hH rfl rfl ?_
  refine ws_nif_ne 4 C 8 dX0_takeBack_4 (by decide) (by omega) (fun c4 => ?_) (fun c4 => ?_)
  · skip
    refine ws_aload_n 8 C dX0_takeBack_8 rfl ?_
    refine ws_aload_n 9 C dX0_takeBack_9 rfl ?_
    refine ws_get 10 C dX0_takeBack_10 fX0_17 hH rfl rfl ?_
    refine ws_bipush 13 C dX0_takeBack_13 (nI 6) (by decide) ?_
    refine ws_iadd 15 C dX0_takeBack_15 (nI (nx + 6)) (nI_add _ _) ?_
    refine ws_iconst 16 C dX0_takeBack_16 (nI 1) (by decide) ?_
    refine ws_isub 17 C dX0_takeBack_17 (nI (nx + 6 - 1)) (pk_sub (by omega)) ?_
    refine ws_bipush 18 C dX0_takeBack_18 (nI 6) (by decide) ?_
    refine ws_irem 20 C dX0_takeBack_20 (by decide) (nI ((nx + 6 - 1) % 6)) (pk_rem (by omega) (by omega) (by omega)) ?_
    refine ws_put 21 C dX0_takeBack_21 fX0_17 q0_1 hH rfl (Nat.le_of_ble_eq_true rfl) rfl rfl (fun st1 est1 => ?_)
    have hH : Ob z st1 31 (bHs κ 31 g (nI ((nx + 6 - 1) % 6)) (nI n)) := Ob.put' (j := 0) hH est1 rfl
    have hB := hB.ne' (L := 7) est1 rfl (by omega)
    have hT := hT.ne' (L := 7) est1 rfl (by omega)
    have hF := hF.put' est1 (show (31) = 31 ∨ (1 ≤ (31) ∧ (31) < 1 + 7) from by omega)
    refine ws_aload_n 24 C dX0_takeBack_24 rfl ?_
    refine ws_aload_n 25 C dX0_takeBack_25 rfl ?_
    refine ws_get 26 C dX0_takeBack_26 fX0_11 hH rfl rfl ?_
    refine ws_aload_n 29 C dX0_takeBack_29 rfl ?_
    refine ws_get 30 C dX0_takeBack_30 fX0_17 hH rfl rfl ?_
    refine ws_aald 33 C dX0_takeBack_33 hH 1 rfl (vp_in_nI (by omega) (by decide)) (ad κ (33 + 7 * ((nx + 6 - 1) % 6))) ((congrArg g (nI_clamp (by omega))).trans (h2 _ hp6)) ?_
    refine ws_callV0 34 C dX0_takeBack_34 vX0_25 (c_X3_copyFrom ⟨_, _, _, _, _, _, hB, hRT⟩ hT hR (by omega)) rfl hB rfl rfl ⟨by decide, by decide⟩ ⟨Nat.zero_le _, Nat.zero_le _⟩ rfl rfl rfl (kV (fun u34 h34 => ?_))
    obtain ⟨⟨t1, t2, t3, t4, t5, t6, hB, hRT⟩, hfr⟩ := h34
    have hH := hfr.ob hH (fun q (g1 : 31 ≤ q) (g2 : q < 31 + 2) => (show ¬ (1 ≤ q ∧ q < 1 + 7) from by omega))
    have hT := hfr.ob hT (fun q (g1 : 33 + 7 * ((nx + 6 - 1) % 6) ≤ q) (g2 : q < (33 + 7 * ((nx + 6 - 1) % 6)) + 7) => (show ¬ (1 ≤ q ∧ q < 1 + 7) from by omega))
    have hF := hF.then hfr (fun q (hq : 1 ≤ q ∧ q < 1 + 7) => (show q = 31 ∨ (1 ≤ q ∧ q < 1 + 7) from by omega))
    refine ws_aload_n 37 C dX0_takeBack_37 rfl ?_
    refine ws_dup 38 C dX0_takeBack_38 rfl ?_
    refine ws_get 39 C dX0_takeBack_39 fX0_21 hH rfl rfl ?_
    refine ws_iconst 42 C dX0_takeBack_42 (nI 1) (by decide) ?_
    refine ws_isub 43 C dX0_takeBack_43 (nI (n - 1)) (pk_sub (by omega)) ?_
    refine ws_put 44 C dX0_takeBack_44 fX0_21 q0_2 hH rfl (Nat.le_of_ble_eq_true rfl) rfl rfl (fun st2 est2 => ?_)
    have hH : Ob z st2 31 (bHs κ 31 g (nI ((nx + 6 - 1) % 6)) (nI (n - 1))) := Ob.put' (j := 0) hH est2 rfl
    have hB := hB.ne' (L := 7) est2 rfl (by omega)
    have hT := hT.ne' (L := 7) est2 rfl (by omega)
    have hF := hF.put' est2 (show (31) = 31 ∨ (1 ≤ (31) ∧ (31) < 1 + 7) from by omega)
    exact ws_vret 47 C dX0_takeBack_47 rfl (Nat.le_refl _) (Nat.le_refl _) (by rw [hP]; exact ⟨rfl, ⟨⟨HsP.pop h2 h3 h4 hn h5 h6 hH hF, ⟨_, _, _, _, _, _, hB, hRT⟩⟩, hF.weak (fun q (hq : q = 31 ∨ (1 ≤ q ∧ q < 1 + 7)) => (show (1 ≤ q ∧ q < 8) ∨ (31 ≤ q ∧ q < 75) from by omega))⟩⟩)
  · skip
    (exfalso; omega)

set_option maxRecDepth 100000 in
set_option maxHeartbeats 4000000 in
theorem c_X4_isSort {x : Int32} : CT zl κ yX4_isSort cX4_isSort 1 (some .boolean) (r0 0 0) z [.int (x)] st0 (PRi (bix x 8) st0) := by
  obtain ⟨P, hP⟩ : ∃ P : Option Value → St → Prop, P = (PRi (bix x 8) st0) := ⟨_, rfl⟩
  rw [← hP]
  refine CT.of (by decide +kernel) (Nat.le_of_ble_eq_true rfl) (fun zp ze zs zm zar zbe zme zc C _ => ?_)
  have C : Cx zp zs zm zar zme zc κ cX4_isSort 1 RX4 (some .boolean) := C
  refine ws_lv (lv2 := [some (.int (x))]) rfl ?_
  refine ws_iload_n 0 C dX4_isSort_0 rfl ?_
  refine ws_if_lt 1 C 14 dX4_isSort_1 (by decide)  (fun c1 => ?_) (fun c1 => ?_)
  · skip
    have hv : nI 0 = bix x 8 := (bix_n (ixv_n c1)).symm
    refine ws_iconst 14 C dX4_isSort_14 (nI 0) (by decide) ?_
    exact ws_zret 15 C rfl dX4_isSort_15 rfl (Nat.le_refl _) (Nat.le_refl _) (by rw [hP]; exact ⟨congrArg (fun z => some (Value.int z)) (hv), rfl⟩)
  · skip
    refine ws_iload_n 4 C dX4_isSort_4 rfl ?_
    refine ws_bipush 5 C dX4_isSort_5 (nI 8) (by decide) ?_
    refine ws_icmp_ge 7 C 14 dX4_isSort_7 (by decide)  (fun c7 => ?_) (fun c7 => ?_)
    · skip
      have hv : nI 0 = bix x 8 := (bix_n (ixv_g (Int32.not_lt.mpr c7))).symm
      refine ws_iconst 14 C dX4_isSort_14 (nI 0) (by decide) ?_
      exact ws_zret 15 C rfl dX4_isSort_15 rfl (Nat.le_refl _) (Nat.le_refl _) (by rw [hP]; exact ⟨congrArg (fun z => some (Value.int z)) (hv), rfl⟩)
    · skip
      have hv : nI 1 = bix x 8 := by obtain ⟨k, hk, e, e2⟩ := ixv_of (n := 8) (by decide) c1 (Int32.not_le.mp c7); exact (bix_s e2).symm
      refine ws_iconst 10 C dX4_isSort_10 (nI 1) (by decide) ?_
      refine ws_goto 11 C 15 dX4_isSort_11 (by decide) ?_
      exact ws_zret 15 C rfl dX4_isSort_15 rfl (Nat.le_refl _) (Nat.le_refl _) (by rw [hP]; exact ⟨congrArg (fun z => some (Value.int z)) (hv), rfl⟩)

set_option maxRecDepth 100000 in
set_option maxHeartbeats 4000000 in
theorem c_X4_isShare {x : Int32} : CT zl κ yX4_isShare cX4_isShare 1 (some .boolean) (r0 0 0) z [.int (x)] st0 (PRi (bix x 101) st0) := by
  obtain ⟨P, hP⟩ : ∃ P : Option Value → St → Prop, P = (PRi (bix x 101) st0) := ⟨_, rfl⟩
  rw [← hP]
  refine CT.of (by decide +kernel) (Nat.le_of_ble_eq_true rfl) (fun zp ze zs zm zar zbe zme zc C _ => ?_)
  have C : Cx zp zs zm zar zme zc κ cX4_isShare 1 RX4 (some .boolean) := C
  refine ws_lv (lv2 := [some (.int (x))]) rfl ?_
  refine ws_iload_n 0 C dX4_isShare_0 rfl ?_
  refine ws_if_lt 1 C 14 dX4_isShare_1 (by decide)  (fun c1 => ?_) (fun c1 => ?_)
  · skip
    have hv : nI 0 = bix x 101 := (bix_n (ixv_n c1)).symm
    refine ws_iconst 14 C dX4_isShare_14 (nI 0) (by decide) ?_
    exact ws_zret 15 C rfl dX4_isShare_15 rfl (Nat.le_refl _) (Nat.le_refl _) (by rw [hP]; exact ⟨congrArg (fun z => some (Value.int z)) (hv), rfl⟩)
  · skip
    refine ws_iload_n 4 C dX4_isShare_4 rfl ?_
    refine ws_bipush 5 C dX4_isShare_5 (nI 100) (by decide) ?_
    refine ws_icmp_gt 7 C 14 dX4_isShare_7 (by decide)  (fun c7 => ?_) (fun c7 => ?_)
    · skip
      have hv : nI 0 = bix x 101 := (bix_n (ixv_g (fun q => le100 q c7))).symm
      refine ws_iconst 14 C dX4_isShare_14 (nI 0) (by decide) ?_
      exact ws_zret 15 C rfl dX4_isShare_15 rfl (Nat.le_refl _) (Nat.le_refl _) (by rw [hP]; exact ⟨congrArg (fun z => some (Value.int z)) (hv), rfl⟩)
    · skip
      have hv : nI 1 = bix x 101 := by obtain ⟨k, hk, e, e2⟩ := ixv_of (n := 101) (by decide) c1 (lt101 c7); exact (bix_s e2).symm
      refine ws_iconst 10 C dX4_isShare_10 (nI 1) (by decide) ?_
      refine ws_goto 11 C 15 dX4_isShare_11 (by decide) ?_
      exact ws_zret 15 C rfl dX4_isShare_15 rfl (Nat.le_refl _) (Nat.le_refl _) (by rw [hP]; exact ⟨congrArg (fun z => some (Value.int z)) (hv), rfl⟩)

set_option maxRecDepth 100000 in
set_option maxHeartbeats 4000000 in
theorem c_X4_isWay {x : Int32} : CT zl κ yX4_isWay cX4_isWay 1 (some .boolean) (r0 0 0) z [.int (x)] st0 (PRi (bix x 2) st0) := by
  obtain ⟨P, hP⟩ : ∃ P : Option Value → St → Prop, P = (PRi (bix x 2) st0) := ⟨_, rfl⟩
  rw [← hP]
  refine CT.of (by decide +kernel) (Nat.le_of_ble_eq_true rfl) (fun zp ze zs zm zar zbe zme zc C _ => ?_)
  have C : Cx zp zs zm zar zme zc κ cX4_isWay 1 RX4 (some .boolean) := C
  refine ws_lv (lv2 := [some (.int (x))]) rfl ?_
  refine ws_iload_n 0 C dX4_isWay_0 rfl ?_
  refine ws_if_lt 1 C 13 dX4_isWay_1 (by decide)  (fun c1 => ?_) (fun c1 => ?_)
  · skip
    have hv : nI 0 = bix x 2 := (bix_n (ixv_n c1)).symm
    refine ws_iconst 13 C dX4_isWay_13 (nI 0) (by decide) ?_
    exact ws_zret 14 C rfl dX4_isWay_14 rfl (Nat.le_refl _) (Nat.le_refl _) (by rw [hP]; exact ⟨congrArg (fun z => some (Value.int z)) (hv), rfl⟩)
  · skip
    refine ws_iload_n 4 C dX4_isWay_4 rfl ?_
    refine ws_iconst 5 C dX4_isWay_5 (nI 2) (by decide) ?_
    refine ws_icmp_ge 6 C 13 dX4_isWay_6 (by decide)  (fun c6 => ?_) (fun c6 => ?_)
    · skip
      have hv : nI 0 = bix x 2 := (bix_n (ixv_g (Int32.not_lt.mpr c6))).symm
      refine ws_iconst 13 C dX4_isWay_13 (nI 0) (by decide) ?_
      exact ws_zret 14 C rfl dX4_isWay_14 rfl (Nat.le_refl _) (Nat.le_refl _) (by rw [hP]; exact ⟨congrArg (fun z => some (Value.int z)) (hv), rfl⟩)
    · skip
      have hv : nI 1 = bix x 2 := by obtain ⟨k, hk, e, e2⟩ := ixv_of (n := 2) (by decide) c1 (Int32.not_le.mp c6); exact (bix_s e2).symm
      refine ws_iconst 9 C dX4_isWay_9 (nI 1) (by decide) ?_
      refine ws_goto 10 C 14 dX4_isWay_10 (by decide) ?_
      exact ws_zret 14 C rfl dX4_isWay_14 rfl (Nat.le_refl _) (Nat.le_refl _) (by rw [hP]; exact ⟨congrArg (fun z => some (Value.int z)) (hv), rfl⟩)

set_option maxRecDepth 100000 in
set_option maxHeartbeats 4000000 in
theorem c_X4_isWord {μ : Mu} {x : Int32} (hO : Ob z st0 0 (bXo κ)) (hS : ShP κ z st0 1 μ) : CT zl κ yX4_isWord cX4_isWord 2 (some .boolean) (r0 0 0) z [.ref (ad κ 0), .int (x)] st0 (PRi (bix x (mn μ)) st0) := by
  obtain ⟨P, hP⟩ : ∃ P : Option Value → St → Prop, P = (PRi (bix x (mn μ)) st0) := ⟨_, rfl⟩
  rw [← hP]
  refine CT.of (by decide +kernel) (Nat.le_of_ble_eq_true rfl) (fun zp ze zs zm zar zbe zme zc C _ => ?_)
  have C : Cx zp zs zm zar zme zc κ cX4_isWord 2 RX4 (some .boolean) := C
  refine ws_lv (lv2 := [some (.ref (ad κ 0)), some (.int (x))]) rfl ?_
  obtain ⟨f1, f2, f3, f4, f5, f6, hB, hR⟩ := hS
  have h24 := hR.le
  refine ws_iload_n 0 C dX4_isWord_0 rfl ?_
  refine ws_if_lt 1 C 19 dX4_isWord_1 (by decide)  (fun c1 => ?_) (fun c1 => ?_)
  · skip
    have hv : nI 0 = bix x (mn μ) := (bix_n (ixv_n c1)).symm
    refine ws_iconst 19 C dX4_isWord_19 (nI 0) (by decide) ?_
    exact ws_zret 20 C rfl dX4_isWord_20 rfl (Nat.le_refl _) (Nat.le_refl _) (by rw [hP]; exact ⟨congrArg (fun z => some (Value.int z)) (hv), rfl⟩)
  · skip
    refine ws_iload_n 4 C dX4_isWord_4 rfl ?_
    refine ws_aload_n 5 C dX4_isWord_5 rfl ?_
    refine ws_get 6 C dX4_isWord_6 fX4_10 hO rfl rfl ?_
    refine ws_get 9 C dX4_isWord_9 fX4_85 hB rfl rfl ?_
    refine ws_icmp_ge 12 C 19 dX4_isWord_12 (by decide)  (fun c12 => ?_) (fun c12 => ?_)
    · skip
      have hv : nI 0 = bix x (mn μ) := (bix_n (ixv_g (Int32.not_lt.mpr c12))).symm
      refine ws_iconst 19 C dX4_isWord_19 (nI 0) (by decide) ?_
      exact ws_zret 20 C rfl dX4_isWord_20 rfl (Nat.le_refl _) (Nat.le_refl _) (by rw [hP]; exact ⟨congrArg (fun z => some (Value.int z)) (hv), rfl⟩)
    · skip
      have hv : nI 1 = bix x (mn μ) := by obtain ⟨k, hk, e, e2⟩ := ixv_of (n := mn μ) (by omega) c1 (Int32.not_le.mp c12); exact (bix_s e2).symm
      refine ws_iconst 15 C dX4_isWord_15 (nI 1) (by decide) ?_
      refine ws_goto 16 C 20 dX4_isWord_16 (by decide) ?_
      exact ws_zret 20 C rfl dX4_isWord_20 rfl (Nat.le_refl _) (Nat.le_refl _) (by rw [hP]; exact ⟨congrArg (fun z => some (Value.int z)) (hv), rfl⟩)

set_option maxRecDepth 100000 in
set_option maxHeartbeats 4000000 in
theorem c_X4_broken {μ : Mu} {way : Nat} (hw : way < 2) (hO : Ob z st0 0 (bXo κ)) (hS : ShP κ z st0 1 μ) (hLg : LyA κ z st0 15) (hLb : LyA κ z st0 22) : CT zl κ yX4_broken cX4_broken 3 (some (.object "HungStops$Layout")) (r0 6 133) z [.ref (ad κ 0), .int (nI way)] st0 (PA (fun rr u => (rr = ad κ (lid way) ∧ BrkP κ z u (lid way) μ (nxw μ way)) ∧ Fr (fun q : Nat => lid way ≤ q ∧ q < lid way + 7) st0 u)) := by
  obtain ⟨P, hP⟩ : ∃ P : Option Value → St → Prop, P = (PA (fun rr u => (rr = ad κ (lid way) ∧ BrkP κ z u (lid way) μ (nxw μ way)) ∧ Fr (fun q : Nat => lid way ≤ q ∧ q < lid way + 7) st0 u)) := ⟨_, rfl⟩
  rw [← hP]
  refine CT.of (by decide +kernel) (Nat.le_of_ble_eq_true rfl) (fun zp ze zs zm zar zbe zme zc C _ => ?_)
  have C : Cx zp zs zm zar zme zc κ cX4_broken 3 RX4 (some (.object "HungStops$Layout")) := C
  refine ws_lv (lv2 := [some (.ref (ad κ 0)), some (.int (nI way)), none]) rfl ?_
  obtain ⟨f1, f2, f3, f4, f5, f6, hB, hR⟩ := hS
  have hF : Fr (fun q : Nat => lid way ≤ q ∧ q < lid way + 7) st0 st0 := Fr.rf
  refine ws_iload_n 0 C dX4_broken_0 rfl ?_
  refine ws_nif_ne 1 C 11 dX4_broken_1 (by decide) (by omega) (fun c1 => ?_) (fun c1 => ?_)
  · skip
    have hl : lid way = 22 := if_neg c1
    obtain ⟨p, l, r, wn, m, sp, lo, s, ln, lf, nx, hL⟩ := hLb
    refine ws_aload_n 11 C dX4_broken_11 rfl ?_
    refine ws_get 12 C dX4_broken_12 fX4_26 hO rfl rfl ?_
    refine ws_astore_n 15 C dX4_broken_15 rfl [some (.ref (ad κ 0)), some (.int (nI way)), some (.ref (ad κ 22))] rfl ?_
    refine ws_aload_n 16 C dX4_broken_16 rfl ?_
    refine ws_aload_n 17 C dX4_broken_17 rfl ?_
    refine ws_get 18 C dX4_broken_18 fX4_10 hO rfl rfl ?_
    refine ws_callV0 21 C dX4_broken_21 vX4_168 (c_X1_weigh hL hB hR (by omega)) rfl hL rfl rfl ⟨by decide, by decide⟩ ⟨Nat.zero_le _, Nat.zero_le _⟩ rfl rfl rfl (kV (fun u21 h21 => ?_))
    obtain ⟨⟨p, l, r, hL, hW⟩, hfr⟩ := h21
    have hO := hfr.ob hO (fun q (g1 : 0 ≤ q) (g2 : q < 0 + 1) => (show ¬ (22 ≤ q ∧ q < 22 + 7) from by omega))
    have hB := hfr.ob hB (fun q (g1 : 1 ≤ q) (g2 : q < 1 + 7) => (show ¬ (22 ≤ q ∧ q < 22 + 7) from by omega))
    have hF := hF.then hfr (fun q (hq : 22 ≤ q ∧ q < 22 + 7) => (show lid way ≤ q ∧ q < lid way + 7 from by omega))
    refine ws_iload_n 24 C dX4_broken_24 rfl ?_
    refine ws_nif_ne 25 C 35 dX4_broken_25 (by decide) (by omega) (fun c25 => ?_) (fun c25 => ?_)
    · skip
      refine ws_aload_n 35 C dX4_broken_35 rfl ?_
      refine ws_callV0 36 C dX4_broken_36 vX4_198 (c_X1_breakBest hL hW hR.ok) rfl hL rfl rfl ⟨by decide, by decide⟩ ⟨Nat.zero_le _, Nat.zero_le _⟩ rfl rfl rfl (kV (fun u36 h36 => ?_))
      obtain ⟨⟨s, lf, nx, hL, hb⟩, hfr⟩ := h36
      have hO := hfr.ob hO (fun q (g1 : 0 ≤ q) (g2 : q < 0 + 1) => (show ¬ (22 ≤ q ∧ q < 22 + 7) from by omega))
      have hB := hfr.ob hB (fun q (g1 : 1 ≤ q) (g2 : q < 1 + 7) => (show ¬ (22 ≤ q ∧ q < 22 + 7) from by omega))
      have hF := hF.then hfr (fun q (hq : 22 ≤ q ∧ q < 22 + 7) => (show lid way ≤ q ∧ q < lid way + 7 from by omega))
      refine ws_aload_n 39 C dX4_broken_39 rfl ?_
      exact ws_aret 40 C dX4_broken_40 rfl (Nat.le_refl _) (Nat.le_refl _) (by rw [hP]; exact ⟨_, rfl, ⟨⟨by rw [hl], by rw [hl, show nxw μ way = _ from (by first | exact if_pos c1 | exact if_neg c1)]; exact ⟨p, l, r, s, lf, nx, hL, hW, hb⟩⟩, hF⟩⟩)
    · skip
      (exfalso; omega)
  · skip
    have hl : lid way = 15 := if_pos c1
    obtain ⟨p, l, r, wn, m, sp, lo, s, ln, lf, nx, hL⟩ := hLg
    refine ws_aload_n 4 C dX4_broken_4 rfl ?_
    refine ws_get 5 C dX4_broken_5 fX4_22 hO rfl rfl ?_
    refine ws_goto 8 C 15 dX4_broken_8 (by decide) ?_
    refine ws_astore_n 15 C dX4_broken_15 rfl [some (.ref (ad κ 0)), some (.int (nI way)), some (.ref (ad κ 15))] rfl ?_
    refine ws_aload_n 16 C dX4_broken_16 rfl ?_
    refine ws_aload_n 17 C dX4_broken_17 rfl ?_
    refine ws_get 18 C dX4_broken_18 fX4_10 hO rfl rfl ?_
    refine ws_callV0 21 C dX4_broken_21 vX4_168 (c_X1_weigh hL hB hR (by omega)) rfl hL rfl rfl ⟨by decide, by decide⟩ ⟨Nat.zero_le _, Nat.zero_le _⟩ rfl rfl rfl (kV (fun u21 h21 => ?_))
    obtain ⟨⟨p, l, r, hL, hW⟩, hfr⟩ := h21
    have hO := hfr.ob hO (fun q (g1 : 0 ≤ q) (g2 : q < 0 + 1) => (show ¬ (15 ≤ q ∧ q < 15 + 7) from by omega))
    have hB := hfr.ob hB (fun q (g1 : 1 ≤ q) (g2 : q < 1 + 7) => (show ¬ (15 ≤ q ∧ q < 15 + 7) from by omega))
    have hF := hF.then hfr (fun q (hq : 15 ≤ q ∧ q < 15 + 7) => (show lid way ≤ q ∧ q < lid way + 7 from by omega))
    refine ws_iload_n 24 C dX4_broken_24 rfl ?_
    refine ws_nif_ne 25 C 35 dX4_broken_25 (by decide) (by omega) (fun c25 => ?_) (fun c25 => ?_)
    · skip
      (exfalso; omega)
    · skip
      refine ws_aload_n 28 C dX4_broken_28 rfl ?_
      refine ws_callV0 29 C dX4_broken_29 vX4_177 (c_X1_fillGreedily hL hW hR.ok) rfl hL rfl rfl ⟨by decide, by decide⟩ ⟨Nat.zero_le _, Nat.zero_le _⟩ rfl rfl rfl (kV (fun u29 h29 => ?_))
      obtain ⟨⟨s, hL, hb⟩, hfr⟩ := h29
      have hO := hfr.ob hO (fun q (g1 : 0 ≤ q) (g2 : q < 0 + 1) => (show ¬ (15 ≤ q ∧ q < 15 + 7) from by omega))
      have hB := hfr.ob hB (fun q (g1 : 1 ≤ q) (g2 : q < 1 + 7) => (show ¬ (15 ≤ q ∧ q < 15 + 7) from by omega))
      have hF := hF.then hfr (fun q (hq : 15 ≤ q ∧ q < 15 + 7) => (show lid way ≤ q ∧ q < lid way + 7 from by omega))
      refine ws_goto 32 C 39 dX4_broken_32 (by decide) ?_
      refine ws_aload_n 39 C dX4_broken_39 rfl ?_
      exact ws_aret 40 C dX4_broken_40 rfl (Nat.le_refl _) (Nat.le_refl _) (by rw [hP]; exact ⟨_, rfl, ⟨⟨by rw [hl], by rw [hl, show nxw μ way = _ from (by first | exact if_pos c1 | exact if_neg c1)]; exact ⟨p, l, r, s, lf, nx, hL, hW, hb⟩⟩, hF⟩⟩)

set_option maxRecDepth 100000 in
set_option maxHeartbeats 4000000 in
theorem c_X4_leastBadnessOf {μ : Mu} (hO : Ob z st0 0 (bXo κ)) (hS : ShP κ z st0 8 μ) (hLb : LyA κ z st0 22) : CT zl κ yX4_leastBadnessOf cX4_leastBadnessOf 2 (some .int) (r0 5 111) z [.ref (ad κ 0), .ref (ad κ 8)] st0 (PI (fun rr u => (rr = lbd μ ∧ LyA κ z u 22) ∧ Fr (fun q : Nat => 22 ≤ q ∧ q < 29) st0 u)) := by
  obtain ⟨P, hP⟩ : ∃ P : Option Value → St → Prop, P = (PI (fun rr u => (rr = lbd μ ∧ LyA κ z u 22) ∧ Fr (fun q : Nat => 22 ≤ q ∧ q < 29) st0 u)) := ⟨_, rfl⟩
  rw [← hP]
  refine CT.of (by decide +kernel) (Nat.le_of_ble_eq_true rfl) (fun zp ze zs zm zar zbe zme zc C _ => ?_)
  have C : Cx zp zs zm zar zme zc κ cX4_leastBadnessOf 2 RX4 (some .int) := C
  refine ws_lv (lv2 := [some (.ref (ad κ 0)), some (.ref (ad κ 8))]) rfl ?_
  obtain ⟨f1, f2, f3, f4, f5, f6, hB, hR⟩ := hS
  obtain ⟨p, l, r, wn, m, sp, lo, s, ln, lf, nx, hL⟩ := hLb
  have hF : Fr (fun q : Nat => 22 ≤ q ∧ q < 29) st0 st0 := Fr.rf
  refine ws_aload_n 0 C dX4_leastBadnessOf_0 rfl ?_
  refine ws_get 1 C dX4_leastBadnessOf_1 fX4_26 hO rfl rfl ?_
  refine ws_aload_n 4 C dX4_leastBadnessOf_4 rfl ?_
  refine ws_callV0 5 C dX4_leastBadnessOf_5 vX4_168 (c_X1_weigh hL hB hR (by omega)) rfl hL rfl rfl ⟨by decide, by decide⟩ ⟨Nat.zero_le _, Nat.zero_le _⟩ rfl rfl rfl (kV (fun u5 h5 => ?_))
  obtain ⟨⟨p, l, r, hL, hW⟩, hfr⟩ := h5
  have hO := hfr.ob hO (fun q (g1 : 0 ≤ q) (g2 : q < 0 + 1) => (show ¬ (22 ≤ q ∧ q < 22 + 7) from by omega))
  have hB := hfr.ob hB (fun q (g1 : 8 ≤ q) (g2 : q < 8 + 7) => (show ¬ (22 ≤ q ∧ q < 22 + 7) from by omega))
  have hF := hF.then hfr (fun q (hq : 22 ≤ q ∧ q < 22 + 7) => (show 22 ≤ q ∧ q < 29 from by omega))
  refine ws_aload_n 8 C dX4_leastBadnessOf_8 rfl ?_
  refine ws_get 9 C dX4_leastBadnessOf_9 fX4_26 hO rfl rfl ?_
  refine ws_callV0 12 C dX4_leastBadnessOf_12 vX4_201 (c_X1_leastBadness hL hW hR.ok) rfl hL rfl rfl ⟨by decide, by decide⟩ ⟨Nat.zero_le _, Nat.zero_le _⟩ rfl rfl rfl (kI' (fun r12 u12 h12 => ?_))
  obtain ⟨⟨hr, lf, nx, hL, -⟩, hfr⟩ := h12
  have hO := hfr.ob hO (fun q (g1 : 0 ≤ q) (g2 : q < 0 + 1) => (show ¬ (22 ≤ q ∧ q < 22 + 7) from by omega))
  have hB := hfr.ob hB (fun q (g1 : 8 ≤ q) (g2 : q < 8 + 7) => (show ¬ (22 ≤ q ∧ q < 22 + 7) from by omega))
  have hF := hF.then hfr (fun q (hq : 22 ≤ q ∧ q < 22 + 7) => (show 22 ≤ q ∧ q < 29 from by omega))
  exact ws_iret 15 C  dX4_leastBadnessOf_15 rfl (Nat.le_refl _) (Nat.le_refl _) (by rw [hP]; exact ⟨r12, rfl, ⟨⟨hr, _, _, _, _, _, _, _, _, _, _, _, hL⟩, hF⟩⟩)
end
end
section
section
variable {zl : Launch} {κ : Kt} {z : Nat} {st0 : St}
set_option maxRecDepth 100000 in
set_option maxHeartbeats 4000000 in
theorem c_X4_set {S : Sg} (hX : XI κ z st0 S) {x y : Int32} : CT zl κ yX4_set cX4_set 4 (some .int) (r0 3 60) z [.ref (ad κ 0), .int (x), .int (y)] st0 (PX κ z st0 (fSet S x y)) := by
  obtain ⟨P, hP⟩ : ∃ P : Option Value → St → Prop, P = (PX κ z st0 (fSet S x y)) := ⟨_, rfl⟩
  rw [← hP]
  refine CT.of (by decide +kernel) (Nat.le_of_ble_eq_true rfl) (fun zp ze zs zm zar zbe zme zc C _ => ?_)
  have C : Cx zp zs zm zar zme zc κ cX4_set 4 RX4 (some .int) := C
  refine ws_lv (lv2 := [some (.ref (ad κ 0)), some (.int (x)), some (.int (y)), none]) rfl ?_
  obtain ⟨hO, hS1, hS8, hLg, hLb, hPd, hHs, hSl⟩ := hX
  have hF : Fr (fun q : Nat => q < 91) st0 st0 := Fr.rf
  refine ws_iload_n 0 C dX4_set_0 rfl ?_
  refine ws_if_lt 1 C 9 dX4_set_1 (by decide)  (fun c1 => ?_) (fun c1 => ?_)
  · skip
    have hn := ixv_n (n := 4) c1
    refine ws_sipush 9 C dX4_set_9 ((-1002)) (by decide) ?_
    exact ws_iret 12 C  dX4_set_12 rfl (Nat.le_refl _) (Nat.le_refl _) (by rw [hP]; exact PX_ret (fSet_n hn) ⟨hO, hS1, hS8, hLg, hLb, hPd, hHs, hSl⟩ hF)
  · skip
    refine ws_iload_n 4 C dX4_set_4 rfl ?_
    refine ws_iconst 5 C dX4_set_5 (nI 4) (by decide) ?_
    refine ws_icmp_lt 6 C 13 dX4_set_6 (by decide)  (fun c6 => ?_) (fun c6 => ?_)
    · skip
      obtain ⟨k, hk, hxk, hix⟩ := ixv_of (n := 4) (by decide) c1 c6
      refine ws_wk (lv2 := [some (.ref (ad κ 0)), some (.int (nI k)), some (.int (y)), none]) ⟨rfl, (congrArg Value.int hxk.symm), rfl, trivial⟩ ?_
      refine ws_iload_n 13 C dX4_set_13 rfl ?_
      refine ws_gstL 14 C dX4_set_14 k129 ?_
      refine ws_iload_n 17 C dX4_set_17 rfl ?_
      refine ws_staL 18 C dX4_set_18 (vp_in_nI (by omega) (by decide)) (lsv k) (congrArg lsv (nI_clamp (by omega))) ?_
      refine ws_icmp_lt 19 C 31 dX4_set_19 (by decide)  (fun c19 => ?_) (fun c19 => ?_)
      · skip
        have hb : ¬ (lsv k ≤ y ∧ y ≤ gsv k) := fun q => Int32.not_lt.mpr q.1 c19
        refine ws_sipush 31 C dX4_set_31 ((-1002)) (by decide) ?_
        exact ws_iret 34 C  dX4_set_34 rfl (Nat.le_refl _) (Nat.le_refl _) (by rw [hP]; exact PX_ret (fSet_b hix hb) ⟨hO, hS1, hS8, hLg, hLb, hPd, hHs, hSl⟩ hF)
      · skip
        refine ws_iload_n 22 C dX4_set_22 rfl ?_
        refine ws_gstG 23 C dX4_set_23 k131 ?_
        refine ws_iload_n 26 C dX4_set_26 rfl ?_
        refine ws_staG 27 C dX4_set_27 (vp_in_nI (by omega) (by decide)) (gsv k) (congrArg gsv (nI_clamp (by omega))) ?_
        refine ws_icmp_le 28 C 35 dX4_set_28 (by decide)  (fun c28 => ?_) (fun c28 => ?_)
        · skip
          refine ws_aload_n 35 C dX4_set_35 rfl ?_
          obtain ⟨g, nx, hH, -⟩ := id hHs
          refine ws_get 36 C dX4_set_36 fX4_39 hO rfl rfl ?_
          refine ws_aload_n 39 C dX4_set_39 rfl ?_
          refine ws_get 40 C dX4_set_40 fX4_10 hO rfl rfl ?_
          refine ws_callV0 43 C dX4_set_43 vX4_58 (c_X0_record hHs hS1) rfl hH rfl rfl ⟨by decide, by decide⟩ ⟨Nat.zero_le _, Nat.zero_le _⟩ rfl rfl rfl (kV (fun u43 h43 => ?_))
          obtain ⟨hHs, hfr⟩ := h43
          have hS1 := hS1.fr hfr (fun q (g1 : 1 ≤ q) (g2 : q < 8) => (show ¬ (31 ≤ q ∧ q < 75) from by omega))
          have hS8 := hS8.fr hfr (fun q (g1 : 8 ≤ q) (g2 : q < 15) => (show ¬ (31 ≤ q ∧ q < 75) from by omega))
          have hLg := hLg.fr hfr (fun q (g1 : 15 ≤ q) (g2 : q < 22) => (show ¬ (31 ≤ q ∧ q < 75) from by omega))
          have hLb := hLb.fr hfr (fun q (g1 : 22 ≤ q) (g2 : q < 29) => (show ¬ (31 ≤ q ∧ q < 75) from by omega))
          have hPd := hPd.fr hfr (fun q (g1 : 29 ≤ q) (g2 : q < 31) => (show ¬ (31 ≤ q ∧ q < 75) from by omega))
          have hSl := hSl.fr hfr (fun q (g1 : 75 ≤ q) (g2 : q < 91) => (show ¬ (31 ≤ q ∧ q < 75) from by omega))
          have hO := hfr.ob hO (fun q (g1 : 0 ≤ q) (g2 : q < 0 + 1) => (show ¬ (31 ≤ q ∧ q < 75) from by omega))
          have hF := hF.then hfr (fun q (hq : 31 ≤ q ∧ q < 75) => (show q < 91 from by omega))
          obtain ⟨f1, f2, f3, f4, f5, f6, hB, hR⟩ := id hS1
          have h24 := hR.le
          refine ws_aload_n 46 C dX4_set_46 rfl ?_
          refine ws_get 47 C dX4_set_47 fX4_10 hO rfl rfl ?_
          refine ws_get 50 C dX4_set_50 fX4_62 hB rfl rfl ?_
          refine ws_iload_n 53 C dX4_set_53 rfl ?_
          refine ws_iald 54 C dX4_set_54 hB 1 rfl (vp_in_nI (by omega) (by decide)) (mv (sM S) 0 k) ((congrArg f1 (nI_clamp (by omega))).trans (hR.set hk)) ?_
          refine ws_istore_n 55 C dX4_set_55 rfl [some (.ref (ad κ 0)), some (.int (nI k)), some (.int (y)), some (.int (mv (sM S) 0 k))] rfl ?_
          refine ws_aload_n 56 C dX4_set_56 rfl ?_
          refine ws_get 57 C dX4_set_57 fX4_10 hO rfl rfl ?_
          refine ws_get 60 C dX4_set_60 fX4_62 hB rfl rfl ?_
          refine ws_iload_n 63 C dX4_set_63 rfl ?_
          refine ws_iload_n 64 C dX4_set_64 rfl ?_
          refine ws_iast 65 C dX4_set_65 hB 1 rfl (vp_in_nI (by omega) (by decide)) k (nI_clamp (by omega)) (y) rfl (fun st1 est1 => ?_)
          have hO := hO.ne' (L := 1) est1 rfl (by omega)
          have hB : Ob z st1 1 (bSh κ 1 (upd f1 k (y)) f2 f3 f4 f5 f6 (nI (mn (sM S)))) := Ob.put' (j := 1) hB est1 rfl
          have hS8 := hS8.fr (Fr.one est1) (fun q (g1 : 8 ≤ q) (g2 : q < 15) => (show ¬ (q = 2) from by omega))
          have hLg := hLg.fr (Fr.one est1) (fun q (g1 : 15 ≤ q) (g2 : q < 22) => (show ¬ (q = 2) from by omega))
          have hLb := hLb.fr (Fr.one est1) (fun q (g1 : 22 ≤ q) (g2 : q < 29) => (show ¬ (q = 2) from by omega))
          have hPd := hPd.fr (Fr.one est1) (fun q (g1 : 29 ≤ q) (g2 : q < 31) => (show ¬ (q = 2) from by omega))
          have hHs := hHs.fr (Fr.one est1) (fun q (g1 : 31 ≤ q) (g2 : q < 75) => (show ¬ (q = 2) from by omega))
          have hSl := hSl.fr (Fr.one est1) (fun q (g1 : 75 ≤ q) (g2 : q < 91) => (show ¬ (q = 2) from by omega))
          have hF := hF.put' est1 (show (2) < 91 from by omega)
          refine ws_iload_n 66 C dX4_set_66 rfl ?_
          exact ws_iret 67 C  dX4_set_67 rfl (Nat.le_refl _) (Nat.le_refl _) (by rw [hP]; exact PX_ret (fSet_s hix (Int32.not_lt.mp c19) c28) ⟨hO, ⟨_, _, _, _, _, _, hB, Rp_set hR⟩, hS8, hLg, hLb, hPd, hHs, hSl⟩ hF)
        · skip
          have hb : ¬ (lsv k ≤ y ∧ y ≤ gsv k) := fun q => c28 q.2
          refine ws_sipush 31 C dX4_set_31 ((-1002)) (by decide) ?_
          exact ws_iret 34 C  dX4_set_34 rfl (Nat.le_refl _) (Nat.le_refl _) (by rw [hP]; exact PX_ret (fSet_b hix hb) ⟨hO, hS1, hS8, hLg, hLb, hPd, hHs, hSl⟩ hF)
    · skip
      have hn := ixv_g (n := 4) c6
      refine ws_sipush 9 C dX4_set_9 ((-1002)) (by decide) ?_
      exact ws_iret 12 C  dX4_set_12 rfl (Nat.le_refl _) (Nat.le_refl _) (by rw [hP]; exact PX_ret (fSet_n hn) ⟨hO, hS1, hS8, hLg, hLb, hPd, hHs, hSl⟩ hF)

set_option maxRecDepth 100000 in
set_option maxHeartbeats 4000000 in
theorem c_X4_sort {S : Sg} (hX : XI κ z st0 S) {x w l r : Int32} : CT zl κ yX4_sort cX4_sort 6 (some .int) (r0 3 60) z [.ref (ad κ 0), .int (x), .int (w), .int (l), .int (r)] st0 (PX κ z st0 (fSort S x w l r)) := by
  obtain ⟨P, hP⟩ : ∃ P : Option Value → St → Prop, P = (PX κ z st0 (fSort S x w l r)) := ⟨_, rfl⟩
  rw [← hP]
  refine CT.of (by decide +kernel) (Nat.le_of_ble_eq_true rfl) (fun zp ze zs zm zar zbe zme zc C _ => ?_)
  have C : Cx zp zs zm zar zme zc κ cX4_sort 6 RX4 (some .int) := C
  refine ws_lv (lv2 := [some (.ref (ad κ 0)), some (.int (x)), some (.int (w)), some (.int (l)), some (.int (r)), none]) rfl ?_
  obtain ⟨hO, hS1, hS8, hLg, hLb, hPd, hHs, hSl⟩ := hX
  have hF : Fr (fun q : Nat => q < 91) st0 st0 := Fr.rf
  refine ws_iload_n 0 C dX4_sort_0 rfl ?_
  refine ws_callS0 1 C dX4_sort_1 vX4_65 (c_X4_isSort) rfl ⟨by decide, by decide⟩ ⟨Nat.zero_le _, Nat.zero_le _⟩ rfl rfl rfl (kR ?_)
  refine ws_if_ne 4 C 11 dX4_sort_4 (by decide)  (fun c4 => ?_) (fun c4 => ?_)
  · skip
    obtain ⟨q, hq, hxq, hix⟩ := bix_1 (n := 8) (by decide) c4
    refine ws_wk (lv2 := [some (.ref (ad κ 0)), some (.int (nI q)), some (.int (w)), some (.int (l)), some (.int (r)), none]) ⟨rfl, (congrArg Value.int hxq.symm), rfl, rfl, rfl, trivial⟩ ?_
    refine ws_iload_n 11 C dX4_sort_11 rfl ?_
    refine ws_iconst 12 C dX4_sort_12 (nI 1) (by decide) ?_
    refine ws_icmp_lt 13 C 37 dX4_sort_13 (by decide)  (fun c13 => ?_) (fun c13 => ?_)
    · skip
      have hb : ¬ ((nI 1 ≤ w ∧ w ≤ nI 20) ∧ ixv l 101 ≠ none ∧ ixv r 101 ≠ none) := fun q => Int32.not_lt.mpr q.1.1 c13
      refine ws_sipush 37 C dX4_sort_37 ((-1002)) (by decide) ?_
      exact ws_iret 40 C  dX4_sort_40 rfl (Nat.le_refl _) (Nat.le_refl _) (by rw [hP]; exact PX_ret (fSort_b hix hb) ⟨hO, hS1, hS8, hLg, hLb, hPd, hHs, hSl⟩ hF)
    · skip
      refine ws_iload_n 16 C dX4_sort_16 rfl ?_
      refine ws_bipush 17 C dX4_sort_17 (nI 20) (by decide) ?_
      refine ws_icmp_gt 19 C 37 dX4_sort_19 (by decide)  (fun c19 => ?_) (fun c19 => ?_)
      · skip
        have hb : ¬ ((nI 1 ≤ w ∧ w ≤ nI 20) ∧ ixv l 101 ≠ none ∧ ixv r 101 ≠ none) := fun q => Int32.not_lt.mpr q.1.2 c19
        refine ws_sipush 37 C dX4_sort_37 ((-1002)) (by decide) ?_
        exact ws_iret 40 C  dX4_sort_40 rfl (Nat.le_refl _) (Nat.le_refl _) (by rw [hP]; exact PX_ret (fSort_b hix hb) ⟨hO, hS1, hS8, hLg, hLb, hPd, hHs, hSl⟩ hF)
      · skip
        refine ws_iload_n 22 C dX4_sort_22 rfl ?_
        refine ws_callS0 23 C dX4_sort_23 vX4_69 (c_X4_isShare) rfl ⟨by decide, by decide⟩ ⟨Nat.zero_le _, Nat.zero_le _⟩ rfl rfl rfl (kR ?_)
        refine ws_if_eq 26 C 37 dX4_sort_26 (by decide)  (fun c26 => ?_) (fun c26 => ?_)
        · skip
          have hb : ¬ ((nI 1 ≤ w ∧ w ≤ nI 20) ∧ ixv l 101 ≠ none ∧ ixv r 101 ≠ none) := fun q => q.2.1 (bix_0 c26)
          refine ws_sipush 37 C dX4_sort_37 ((-1002)) (by decide) ?_
          exact ws_iret 40 C  dX4_sort_40 rfl (Nat.le_refl _) (Nat.le_refl _) (by rw [hP]; exact PX_ret (fSort_b hix hb) ⟨hO, hS1, hS8, hLg, hLb, hPd, hHs, hSl⟩ hF)
        · skip
          refine ws_iload 29 C dX4_sort_29 rfl ?_
          refine ws_callS0 31 C dX4_sort_31 vX4_69 (c_X4_isShare) rfl ⟨by decide, by decide⟩ ⟨Nat.zero_le _, Nat.zero_le _⟩ rfl rfl rfl (kR ?_)
          refine ws_if_ne 34 C 41 dX4_sort_34 (by decide)  (fun c34 => ?_) (fun c34 => ?_)
          · skip
            refine ws_aload_n 41 C dX4_sort_41 rfl ?_
            obtain ⟨g, nx, hH, -⟩ := id hHs
            refine ws_get 42 C dX4_sort_42 fX4_39 hO rfl rfl ?_
            refine ws_aload_n 45 C dX4_sort_45 rfl ?_
            refine ws_get 46 C dX4_sort_46 fX4_10 hO rfl rfl ?_
            refine ws_callV0 49 C dX4_sort_49 vX4_58 (c_X0_record hHs hS1) rfl hH rfl rfl ⟨by decide, by decide⟩ ⟨Nat.zero_le _, Nat.zero_le _⟩ rfl rfl rfl (kV (fun u49 h49 => ?_))
            obtain ⟨hHs, hfr⟩ := h49
            have hS1 := hS1.fr hfr (fun q (g1 : 1 ≤ q) (g2 : q < 8) => (show ¬ (31 ≤ q ∧ q < 75) from by omega))
            have hS8 := hS8.fr hfr (fun q (g1 : 8 ≤ q) (g2 : q < 15) => (show ¬ (31 ≤ q ∧ q < 75) from by omega))
            have hLg := hLg.fr hfr (fun q (g1 : 15 ≤ q) (g2 : q < 22) => (show ¬ (31 ≤ q ∧ q < 75) from by omega))
            have hLb := hLb.fr hfr (fun q (g1 : 22 ≤ q) (g2 : q < 29) => (show ¬ (31 ≤ q ∧ q < 75) from by omega))
            have hPd := hPd.fr hfr (fun q (g1 : 29 ≤ q) (g2 : q < 31) => (show ¬ (31 ≤ q ∧ q < 75) from by omega))
            have hSl := hSl.fr hfr (fun q (g1 : 75 ≤ q) (g2 : q < 91) => (show ¬ (31 ≤ q ∧ q < 75) from by omega))
            have hO := hfr.ob hO (fun q (g1 : 0 ≤ q) (g2 : q < 0 + 1) => (show ¬ (31 ≤ q ∧ q < 75) from by omega))
            have hF := hF.then hfr (fun q (hq : 31 ≤ q ∧ q < 75) => (show q < 91 from by omega))
            obtain ⟨f1, f2, f3, f4, f5, f6, hB, hR⟩ := id hS1
            have h24 := hR.le
            refine ws_aload_n 52 C dX4_sort_52 rfl ?_
            refine ws_get 53 C dX4_sort_53 fX4_10 hO rfl rfl ?_
            refine ws_get 56 C dX4_sort_56 fX4_72 hB rfl rfl ?_
            refine ws_iload_n 59 C dX4_sort_59 rfl ?_
            refine ws_iald 60 C dX4_sort_60 hB 2 rfl (vp_in_nI (by omega) (by decide)) (mv (sM S) 1 q) ((congrArg f2 (nI_clamp (by omega))).trans (hR.wid hq)) ?_
            refine ws_istore 61 C dX4_sort_61 rfl [some (.ref (ad κ 0)), some (.int (nI q)), some (.int (w)), some (.int (l)), some (.int (r)), some (.int (mv (sM S) 1 q))] rfl ?_
            refine ws_aload_n 63 C dX4_sort_63 rfl ?_
            refine ws_get 64 C dX4_sort_64 fX4_10 hO rfl rfl ?_
            refine ws_get 67 C dX4_sort_67 fX4_72 hB rfl rfl ?_
            refine ws_iload_n 70 C dX4_sort_70 rfl ?_
            refine ws_iload_n 71 C dX4_sort_71 rfl ?_
            refine ws_iast 72 C dX4_sort_72 hB 2 rfl (vp_in_nI (by omega) (by decide)) q (nI_clamp (by omega)) (w) rfl (fun st1 est1 => ?_)
            have hO := hO.ne' (L := 1) est1 rfl (by omega)
            have hB : Ob z st1 1 (bSh κ 1 f1 (upd f2 q (w)) f3 f4 f5 f6 (nI (mn (sM S)))) := Ob.put' (j := 2) hB est1 rfl
            have hS8 := hS8.fr (Fr.one est1) (fun q (g1 : 8 ≤ q) (g2 : q < 15) => (show ¬ (q = 3) from by omega))
            have hLg := hLg.fr (Fr.one est1) (fun q (g1 : 15 ≤ q) (g2 : q < 22) => (show ¬ (q = 3) from by omega))
            have hLb := hLb.fr (Fr.one est1) (fun q (g1 : 22 ≤ q) (g2 : q < 29) => (show ¬ (q = 3) from by omega))
            have hPd := hPd.fr (Fr.one est1) (fun q (g1 : 29 ≤ q) (g2 : q < 31) => (show ¬ (q = 3) from by omega))
            have hHs := hHs.fr (Fr.one est1) (fun q (g1 : 31 ≤ q) (g2 : q < 75) => (show ¬ (q = 3) from by omega))
            have hSl := hSl.fr (Fr.one est1) (fun q (g1 : 75 ≤ q) (g2 : q < 91) => (show ¬ (q = 3) from by omega))
            have hF := hF.put' est1 (show (3) < 91 from by omega)
            refine ws_aload_n 73 C dX4_sort_73 rfl ?_
            refine ws_get 74 C dX4_sort_74 fX4_10 hO rfl rfl ?_
            refine ws_get 77 C dX4_sort_77 fX4_75 hB rfl rfl ?_
            refine ws_iload_n 80 C dX4_sort_80 rfl ?_
            refine ws_iload_n 81 C dX4_sort_81 rfl ?_
            refine ws_iast 82 C dX4_sort_82 hB 3 rfl (vp_in_nI (by omega) (by decide)) q (nI_clamp (by omega)) (l) rfl (fun st2 est2 => ?_)
            have hO := hO.ne' (L := 1) est2 rfl (by omega)
            have hB : Ob z st2 1 (bSh κ 1 f1 (upd f2 q (w)) (upd f3 q (l)) f4 f5 f6 (nI (mn (sM S)))) := Ob.put' (j := 3) hB est2 rfl
            have hS8 := hS8.fr (Fr.one est2) (fun q (g1 : 8 ≤ q) (g2 : q < 15) => (show ¬ (q = 4) from by omega))
            have hLg := hLg.fr (Fr.one est2) (fun q (g1 : 15 ≤ q) (g2 : q < 22) => (show ¬ (q = 4) from by omega))
            have hLb := hLb.fr (Fr.one est2) (fun q (g1 : 22 ≤ q) (g2 : q < 29) => (show ¬ (q = 4) from by omega))
            have hPd := hPd.fr (Fr.one est2) (fun q (g1 : 29 ≤ q) (g2 : q < 31) => (show ¬ (q = 4) from by omega))
            have hHs := hHs.fr (Fr.one est2) (fun q (g1 : 31 ≤ q) (g2 : q < 75) => (show ¬ (q = 4) from by omega))
            have hSl := hSl.fr (Fr.one est2) (fun q (g1 : 75 ≤ q) (g2 : q < 91) => (show ¬ (q = 4) from by omega))
            have hF := hF.put' est2 (show (4) < 91 from by omega)
            refine ws_aload_n 83 C dX4_sort_83 rfl ?_
            refine ws_get 84 C dX4_sort_84 fX4_10 hO rfl rfl ?_
            refine ws_get 87 C dX4_sort_87 fX4_78 hB rfl rfl ?_
            refine ws_iload_n 90 C dX4_sort_90 rfl ?_
            refine ws_iload 91 C dX4_sort_91 rfl ?_
            refine ws_iast 93 C dX4_sort_93 hB 4 rfl (vp_in_nI (by omega) (by decide)) q (nI_clamp (by omega)) (r) rfl (fun st3 est3 => ?_)
            have hO := hO.ne' (L := 1) est3 rfl (by omega)
            have hB : Ob z st3 1 (bSh κ 1 f1 (upd f2 q (w)) (upd f3 q (l)) (upd f4 q (r)) f5 f6 (nI (mn (sM S)))) := Ob.put' (j := 4) hB est3 rfl
            have hS8 := hS8.fr (Fr.one est3) (fun q (g1 : 8 ≤ q) (g2 : q < 15) => (show ¬ (q = 5) from by omega))
            have hLg := hLg.fr (Fr.one est3) (fun q (g1 : 15 ≤ q) (g2 : q < 22) => (show ¬ (q = 5) from by omega))
            have hLb := hLb.fr (Fr.one est3) (fun q (g1 : 22 ≤ q) (g2 : q < 29) => (show ¬ (q = 5) from by omega))
            have hPd := hPd.fr (Fr.one est3) (fun q (g1 : 29 ≤ q) (g2 : q < 31) => (show ¬ (q = 5) from by omega))
            have hHs := hHs.fr (Fr.one est3) (fun q (g1 : 31 ≤ q) (g2 : q < 75) => (show ¬ (q = 5) from by omega))
            have hSl := hSl.fr (Fr.one est3) (fun q (g1 : 75 ≤ q) (g2 : q < 91) => (show ¬ (q = 5) from by omega))
            have hF := hF.put' est3 (show (5) < 91 from by omega)
            refine ws_iload 94 C dX4_sort_94 rfl ?_
            exact ws_iret 96 C  dX4_sort_96 rfl (Nat.le_refl _) (Nat.le_refl _) (by rw [hP]; exact PX_ret (fSort_s hix ⟨⟨Int32.not_lt.mp c13, Int32.not_lt.mp c19⟩, bix_ne c26, bix_ne c34⟩) ⟨hO, ⟨_, _, _, _, _, _, hB, Rp_sort hR⟩, hS8, hLg, hLb, hPd, hHs, hSl⟩ hF)
          · skip
            have hb : ¬ ((nI 1 ≤ w ∧ w ≤ nI 20) ∧ ixv l 101 ≠ none ∧ ixv r 101 ≠ none) := fun q => q.2.2 (bix_0 c34)
            refine ws_sipush 37 C dX4_sort_37 ((-1002)) (by decide) ?_
            exact ws_iret 40 C  dX4_sort_40 rfl (Nat.le_refl _) (Nat.le_refl _) (by rw [hP]; exact PX_ret (fSort_b hix hb) ⟨hO, hS1, hS8, hLg, hLb, hPd, hHs, hSl⟩ hF)
  · skip
    have hn := bix_0 c4
    refine ws_sipush 7 C dX4_sort_7 ((-1001)) (by decide) ?_
    exact ws_iret 10 C  dX4_sort_10 rfl (Nat.le_refl _) (Nat.le_refl _) (by rw [hP]; exact PX_ret (fSort_n hn) ⟨hO, hS1, hS8, hLg, hLb, hPd, hHs, hSl⟩ hF)

set_option maxRecDepth 100000 in
set_option maxHeartbeats 4000000 in
theorem c_X4_read {S : Sg} (hX : XI κ z st0 S) : CT zl κ yX4_read cX4_read 1 (some .int) (r0 3 60) z [.ref (ad κ 0)] st0 (PX κ z st0 (fRead S)) := by
  obtain ⟨P, hP⟩ : ∃ P : Option Value → St → Prop, P = (PX κ z st0 (fRead S)) := ⟨_, rfl⟩
  rw [← hP]
  refine CT.of (by decide +kernel) (Nat.le_of_ble_eq_true rfl) (fun zp ze zs zm zar zbe zme zc C _ => ?_)
  have C : Cx zp zs zm zar zme zc κ cX4_read 1 RX4 (some .int) := C
  refine ws_lv (lv2 := [some (.ref (ad κ 0))]) rfl ?_
  obtain ⟨hO, hS1, hS8, hLg, hLb, hPd, hHs, hSl⟩ := hX
  have hF : Fr (fun q : Nat => q < 91) st0 st0 := Fr.rf
  refine ws_aload_n 0 C dX4_read_0 rfl ?_
  obtain ⟨t, hP2, hpd⟩ := id hPd
  have h60 := hpd.1
  have hwl := wno_le (sPt S) (sPn S)
  refine ws_get 1 C dX4_read_1 fX4_32 hO rfl rfl ?_
  refine ws_callV0 4 C dX4_read_4 vX4_81 (c_X2_firstFault hP2 hpd) rfl hP2 rfl rfl ⟨by decide, by decide⟩ ⟨Nat.zero_le _, Nat.zero_le _⟩ rfl rfl rfl (kR ?_)
  refine ws_sipush 7 C dX4_read_7 ((-1006)) (by decide) ?_
  refine ws_icmp_eq 10 C 17 dX4_read_10 (by decide)  (fun c10 => ?_) (fun c10 => ?_)
  · skip
    refine ws_aload_n 17 C dX4_read_17 rfl ?_
    obtain ⟨f1, f2, f3, f4, f5, f6, hB, hR⟩ := id hS1
    have h24 := hR.le
    refine ws_get 18 C dX4_read_18 fX4_10 hO rfl rfl ?_
    refine ws_get 21 C dX4_read_21 fX4_85 hB rfl rfl ?_
    refine ws_aload_n 24 C dX4_read_24 rfl ?_
    refine ws_get 25 C dX4_read_25 fX4_32 hO rfl rfl ?_
    refine ws_callV0 28 C dX4_read_28 vX4_89 (c_X2_countWords hP2 hpd) rfl hP2 rfl rfl ⟨by decide, by decide⟩ ⟨Nat.zero_le _, Nat.zero_le _⟩ rfl rfl rfl (kR ?_)
    refine ws_iadd 31 C dX4_read_31 (nI (mn (sM S) + wno (sPt S) (sPn S))) (nI_add _ _) ?_
    refine ws_bipush 32 C dX4_read_32 (nI 24) (by decide) ?_
    refine ws_nicmp_le 34 C 41 dX4_read_34 (by decide) (by omega) (by omega) (fun c34 => ?_) (fun c34 => ?_)
    · skip
      refine ws_aload_n 41 C dX4_read_41 rfl ?_
      obtain ⟨g, nx, hH, -⟩ := id hHs
      refine ws_get 42 C dX4_read_42 fX4_39 hO rfl rfl ?_
      refine ws_aload_n 45 C dX4_read_45 rfl ?_
      refine ws_get 46 C dX4_read_46 fX4_10 hO rfl rfl ?_
      refine ws_callV0 49 C dX4_read_49 vX4_58 (c_X0_record hHs hS1) rfl hH rfl rfl ⟨by decide, by decide⟩ ⟨Nat.zero_le _, Nat.zero_le _⟩ rfl rfl rfl (kV (fun u49 h49 => ?_))
      obtain ⟨hHs, hfr⟩ := h49
      have hS1 := hS1.fr hfr (fun q (g1 : 1 ≤ q) (g2 : q < 8) => (show ¬ (31 ≤ q ∧ q < 75) from by omega))
      have hS8 := hS8.fr hfr (fun q (g1 : 8 ≤ q) (g2 : q < 15) => (show ¬ (31 ≤ q ∧ q < 75) from by omega))
      have hLg := hLg.fr hfr (fun q (g1 : 15 ≤ q) (g2 : q < 22) => (show ¬ (31 ≤ q ∧ q < 75) from by omega))
      have hLb := hLb.fr hfr (fun q (g1 : 22 ≤ q) (g2 : q < 29) => (show ¬ (31 ≤ q ∧ q < 75) from by omega))
      have hPd := hPd.fr hfr (fun q (g1 : 29 ≤ q) (g2 : q < 31) => (show ¬ (31 ≤ q ∧ q < 75) from by omega))
      have hSl := hSl.fr hfr (fun q (g1 : 75 ≤ q) (g2 : q < 91) => (show ¬ (31 ≤ q ∧ q < 75) from by omega))
      have hO := hfr.ob hO (fun q (g1 : 0 ≤ q) (g2 : q < 0 + 1) => (show ¬ (31 ≤ q ∧ q < 75) from by omega))
      have hP2 := hfr.ob hP2 (fun q (g1 : 29 ≤ q) (g2 : q < 29 + 2) => (show ¬ (31 ≤ q ∧ q < 75) from by omega))
      have hB := hfr.ob hB (fun q (g1 : 1 ≤ q) (g2 : q < 1 + 7) => (show ¬ (31 ≤ q ∧ q < 75) from by omega))
      have hF := hF.then hfr (fun q (hq : 31 ≤ q ∧ q < 75) => (show q < 91 from by omega))
      refine ws_aload_n 52 C dX4_read_52 rfl ?_
      refine ws_get 53 C dX4_read_53 fX4_32 hO rfl rfl ?_
      refine ws_aload_n 56 C dX4_read_56 rfl ?_
      refine ws_get 57 C dX4_read_57 fX4_10 hO rfl rfl ?_
      refine ws_callV0 60 C dX4_read_60 vX4_92 (c_X2_addWordsTo hP2 hpd hB hR (by omega) (flt_no h60 c10) c34) rfl hP2 rfl rfl ⟨by decide, by decide⟩ ⟨Nat.zero_le _, Nat.zero_le _⟩ rfl rfl rfl (kV (fun u60 h60 => ?_))
      obtain ⟨hS1, hfr⟩ := h60
      have hS8 := hS8.fr hfr (fun q (g1 : 8 ≤ q) (g2 : q < 15) => (show ¬ (1 ≤ q ∧ q < 1 + 7) from by omega))
      have hLg := hLg.fr hfr (fun q (g1 : 15 ≤ q) (g2 : q < 22) => (show ¬ (1 ≤ q ∧ q < 1 + 7) from by omega))
      have hLb := hLb.fr hfr (fun q (g1 : 22 ≤ q) (g2 : q < 29) => (show ¬ (1 ≤ q ∧ q < 1 + 7) from by omega))
      have hPd := hPd.fr hfr (fun q (g1 : 29 ≤ q) (g2 : q < 31) => (show ¬ (1 ≤ q ∧ q < 1 + 7) from by omega))
      have hHs := hHs.fr hfr (fun q (g1 : 31 ≤ q) (g2 : q < 75) => (show ¬ (1 ≤ q ∧ q < 1 + 7) from by omega))
      have hSl := hSl.fr hfr (fun q (g1 : 75 ≤ q) (g2 : q < 91) => (show ¬ (1 ≤ q ∧ q < 1 + 7) from by omega))
      have hO := hfr.ob hO (fun q (g1 : 0 ≤ q) (g2 : q < 0 + 1) => (show ¬ (1 ≤ q ∧ q < 1 + 7) from by omega))
      have hP2 := hfr.ob hP2 (fun q (g1 : 29 ≤ q) (g2 : q < 29 + 2) => (show ¬ (1 ≤ q ∧ q < 1 + 7) from by omega))
      have hF := hF.then hfr (fun q (hq : 1 ≤ q ∧ q < 1 + 7) => (show q < 91 from by omega))
      refine ws_aload_n 63 C dX4_read_63 rfl ?_
      refine ws_get 64 C dX4_read_64 fX4_32 hO rfl rfl ?_
      refine ws_iconst 67 C dX4_read_67 (nI 0) (by decide) ?_
      refine ws_put 68 C dX4_read_68 fX4_95 q2_1 hP2 rfl (Nat.le_of_ble_eq_true rfl) rfl rfl (fun st1 est1 => ?_)
      have hO := hO.ne' (L := 1) est1 rfl (by omega)
      have hP2 : Ob z st1 29 (bPd κ 29 t (nI 0)) := Ob.put' (j := 0) hP2 est1 rfl
      have hS1 := hS1.fr (Fr.one est1) (fun q (g1 : 1 ≤ q) (g2 : q < 8) => (show ¬ (q = 29) from by omega))
      have hS8 := hS8.fr (Fr.one est1) (fun q (g1 : 8 ≤ q) (g2 : q < 15) => (show ¬ (q = 29) from by omega))
      have hLg := hLg.fr (Fr.one est1) (fun q (g1 : 15 ≤ q) (g2 : q < 22) => (show ¬ (q = 29) from by omega))
      have hLb := hLb.fr (Fr.one est1) (fun q (g1 : 22 ≤ q) (g2 : q < 29) => (show ¬ (q = 29) from by omega))
      have hHs := hHs.fr (Fr.one est1) (fun q (g1 : 31 ≤ q) (g2 : q < 75) => (show ¬ (q = 29) from by omega))
      have hSl := hSl.fr (Fr.one est1) (fun q (g1 : 75 ≤ q) (g2 : q < 91) => (show ¬ (q = 29) from by omega))
      have hF := hF.put' est1 (show (29) < 91 from by omega)
      refine ws_aload_n 71 C dX4_read_71 rfl ?_
      obtain ⟨k1, k2, k3, k4, k5, k6, hB, hR2⟩ := id hS1
      refine ws_get 72 C dX4_read_72 fX4_10 hO rfl rfl ?_
      refine ws_get 75 C dX4_read_75 fX4_85 hB rfl rfl ?_
      exact ws_iret 78 C  dX4_read_78 rfl (Nat.le_refl _) (Nat.le_refl _) (by rw [hP]; exact PX_ret (fRead_s c10 c34) ⟨hO, hS1, hS8, hLg, hLb, ⟨t, hP2, Nat.zero_le _, hpd.2.1, fun k hk => absurd hk (Nat.not_lt_zero k)⟩, hHs, hSl⟩ hF)
    · skip
      refine ws_sipush 37 C dX4_read_37 ((-1004)) (by decide) ?_
      exact ws_iret 40 C  dX4_read_40 rfl (Nat.le_refl _) (Nat.le_refl _) (by rw [hP]; exact PX_ret (fRead_t c10 (by omega)) ⟨hO, hS1, hS8, hLg, hLb, hPd, hHs, hSl⟩ hF)
  · skip
    refine ws_sipush 13 C dX4_read_13 ((-1003)) (by decide) ?_
    exact ws_iret 16 C  dX4_read_16 rfl (Nat.le_refl _) (Nat.le_refl _) (by rw [hP]; exact PX_ret (fRead_b c10) ⟨hO, hS1, hS8, hLg, hLb, hPd, hHs, hSl⟩ hF)

set_option maxRecDepth 100000 in
set_option maxHeartbeats 4000000 in
theorem c_X4_drop {S : Sg} (hX : XI κ z st0 S) {x : Int32} : CT zl κ yX4_drop cX4_drop 3 (some .int) (r0 3 67) z [.ref (ad κ 0), .int (x)] st0 (PX κ z st0 (fDrop S x)) := by
  obtain ⟨P, hP⟩ : ∃ P : Option Value → St → Prop, P = (PX κ z st0 (fDrop S x)) := ⟨_, rfl⟩
  rw [← hP]
  refine CT.of (by decide +kernel) (Nat.le_of_ble_eq_true rfl) (fun zp ze zs zm zar zbe zme zc C _ => ?_)
  have C : Cx zp zs zm zar zme zc κ cX4_drop 3 RX4 (some .int) := C
  refine ws_lv (lv2 := [some (.ref (ad κ 0)), some (.int (x)), none]) rfl ?_
  obtain ⟨hO, hS1, hS8, hLg, hLb, hPd, hHs, hSl⟩ := hX
  have hF : Fr (fun q : Nat => q < 91) st0 st0 := Fr.rf
  obtain ⟨f1, f2, f3, f4, f5, f6, hB, hR⟩ := id hS1
  have h24 := hR.le
  refine ws_aload_n 0 C dX4_drop_0 rfl ?_
  refine ws_iload_n 1 C dX4_drop_1 rfl ?_
  refine ws_callV0 2 C dX4_drop_2 vX4_98 (c_X4_isWord hO hS1) rfl hO rfl rfl ⟨by decide, by decide⟩ ⟨Nat.zero_le _, Nat.zero_le _⟩ rfl rfl rfl (kR ?_)
  refine ws_if_ne 5 C 12 dX4_drop_5 (by decide)  (fun c5 => ?_) (fun c5 => ?_)
  · skip
    obtain ⟨i, hi, hxi, hix⟩ := bix_1 (n := mn (sM S)) (by omega) c5
    refine ws_wk (lv2 := [some (.ref (ad κ 0)), some (.int (nI i)), none]) ⟨rfl, (congrArg Value.int hxi.symm), trivial⟩ ?_
    refine ws_aload_n 12 C dX4_drop_12 rfl ?_
    obtain ⟨g, nx, hH, -⟩ := id hHs
    refine ws_get 13 C dX4_drop_13 fX4_39 hO rfl rfl ?_
    refine ws_aload_n 16 C dX4_drop_16 rfl ?_
    refine ws_get 17 C dX4_drop_17 fX4_10 hO rfl rfl ?_
    refine ws_callV0 20 C dX4_drop_20 vX4_58 (c_X0_record hHs hS1) rfl hH rfl rfl ⟨by decide, by decide⟩ ⟨Nat.zero_le _, Nat.zero_le _⟩ rfl rfl rfl (kV (fun u20 h20 => ?_))
    obtain ⟨hHs, hfr⟩ := h20
    have hS1 := hS1.fr hfr (fun q (g1 : 1 ≤ q) (g2 : q < 8) => (show ¬ (31 ≤ q ∧ q < 75) from by omega))
    have hS8 := hS8.fr hfr (fun q (g1 : 8 ≤ q) (g2 : q < 15) => (show ¬ (31 ≤ q ∧ q < 75) from by omega))
    have hLg := hLg.fr hfr (fun q (g1 : 15 ≤ q) (g2 : q < 22) => (show ¬ (31 ≤ q ∧ q < 75) from by omega))
    have hLb := hLb.fr hfr (fun q (g1 : 22 ≤ q) (g2 : q < 29) => (show ¬ (31 ≤ q ∧ q < 75) from by omega))
    have hPd := hPd.fr hfr (fun q (g1 : 29 ≤ q) (g2 : q < 31) => (show ¬ (31 ≤ q ∧ q < 75) from by omega))
    have hSl := hSl.fr hfr (fun q (g1 : 75 ≤ q) (g2 : q < 91) => (show ¬ (31 ≤ q ∧ q < 75) from by omega))
    have hO := hfr.ob hO (fun q (g1 : 0 ≤ q) (g2 : q < 0 + 1) => (show ¬ (31 ≤ q ∧ q < 75) from by omega))
    have hF := hF.then hfr (fun q (hq : 31 ≤ q ∧ q < 75) => (show q < 91 from by omega))
    refine ws_aload_n 23 C dX4_drop_23 rfl ?_
    obtain ⟨f1, f2, f3, f4, f5, f6, hB, hR⟩ := id hS1
    have h24 := hR.le
    refine ws_get 24 C dX4_drop_24 fX4_10 hO rfl rfl ?_
    refine ws_iload_n 27 C dX4_drop_27 rfl ?_
    refine ws_callV0 28 C dX4_drop_28 vX4_101 (c_X3_widthOf hB hR hi) rfl hB rfl rfl ⟨by decide, by decide⟩ ⟨Nat.zero_le _, Nat.zero_le _⟩ rfl rfl rfl (kR ?_)
    refine ws_istore_n 31 C dX4_drop_31 rfl [some (.ref (ad κ 0)), some (.int (nI i)), some (.int (wd (sM S) i))] rfl ?_
    refine ws_aload_n 32 C dX4_drop_32 rfl ?_
    refine ws_get 33 C dX4_drop_33 fX4_10 hO rfl rfl ?_
    refine ws_iload_n 36 C dX4_drop_36 rfl ?_
    refine ws_callV0 37 C dX4_drop_37 vX4_105 (c_X3_takeOut hS1 hi) rfl hB rfl rfl ⟨by decide, by decide⟩ ⟨Nat.zero_le _, Nat.zero_le _⟩ rfl rfl rfl (kV (fun u37 h37 => ?_))
    obtain ⟨hS1, hfr⟩ := h37
    have hS8 := hS8.fr hfr (fun q (g1 : 8 ≤ q) (g2 : q < 15) => (show ¬ (1 ≤ q ∧ q < 1 + 7) from by omega))
    have hLg := hLg.fr hfr (fun q (g1 : 15 ≤ q) (g2 : q < 22) => (show ¬ (1 ≤ q ∧ q < 1 + 7) from by omega))
    have hLb := hLb.fr hfr (fun q (g1 : 22 ≤ q) (g2 : q < 29) => (show ¬ (1 ≤ q ∧ q < 1 + 7) from by omega))
    have hPd := hPd.fr hfr (fun q (g1 : 29 ≤ q) (g2 : q < 31) => (show ¬ (1 ≤ q ∧ q < 1 + 7) from by omega))
    have hHs := hHs.fr hfr (fun q (g1 : 31 ≤ q) (g2 : q < 75) => (show ¬ (1 ≤ q ∧ q < 1 + 7) from by omega))
    have hSl := hSl.fr hfr (fun q (g1 : 75 ≤ q) (g2 : q < 91) => (show ¬ (1 ≤ q ∧ q < 1 + 7) from by omega))
    have hO := hfr.ob hO (fun q (g1 : 0 ≤ q) (g2 : q < 0 + 1) => (show ¬ (1 ≤ q ∧ q < 1 + 7) from by omega))
    have hF := hF.then hfr (fun q (hq : 1 ≤ q ∧ q < 1 + 7) => (show q < 91 from by omega))
    refine ws_iload_n 40 C dX4_drop_40 rfl ?_
    exact ws_iret 41 C  dX4_drop_41 rfl (Nat.le_refl _) (Nat.le_refl _) (by rw [hP]; exact PX_ret (fDrop_s hix) ⟨hO, hS1, hS8, hLg, hLb, hPd, hHs, hSl⟩ hF)
  · skip
    have hn := bix_0 c5
    refine ws_sipush 8 C dX4_drop_8 ((-1001)) (by decide) ?_
    exact ws_iret 11 C  dX4_drop_11 rfl (Nat.le_refl _) (Nat.le_refl _) (by rw [hP]; exact PX_ret (fDrop_n hn) ⟨hO, hS1, hS8, hLg, hLb, hPd, hHs, hSl⟩ hF)

set_option maxRecDepth 100000 in
set_option maxHeartbeats 4000000 in
theorem c_X4_swap {S : Sg} (hX : XI κ z st0 S) {x y : Int32} : CT zl κ yX4_swap cX4_swap 3 (some .int) (r0 7 155) z [.ref (ad κ 0), .int (x), .int (y)] st0 (PX κ z st0 (fSwap S x y)) := by
  obtain ⟨P, hP⟩ : ∃ P : Option Value → St → Prop, P = (PX κ z st0 (fSwap S x y)) := ⟨_, rfl⟩
  rw [← hP]
  refine CT.of (by decide +kernel) (Nat.le_of_ble_eq_true rfl) (fun zp ze zs zm zar zbe zme zc C _ => ?_)
  have C : Cx zp zs zm zar zme zc κ cX4_swap 3 RX4 (some .int) := C
  refine ws_lv (lv2 := [some (.ref (ad κ 0)), some (.int (x)), some (.int (y))]) rfl ?_
  obtain ⟨hO, hS1, hS8, hLg, hLb, hPd, hHs, hSl⟩ := hX
  have hF : Fr (fun q : Nat => q < 91) st0 st0 := Fr.rf
  obtain ⟨f1, f2, f3, f4, f5, f6, hB, hR⟩ := id hS1
  have h24 := hR.le
  refine ws_aload_n 0 C dX4_swap_0 rfl ?_
  refine ws_iload_n 1 C dX4_swap_1 rfl ?_
  refine ws_callV0 2 C dX4_swap_2 vX4_98 (c_X4_isWord hO hS1) rfl hO rfl rfl ⟨by decide, by decide⟩ ⟨Nat.zero_le _, Nat.zero_le _⟩ rfl rfl rfl (kR ?_)
  refine ws_if_eq 5 C 16 dX4_swap_5 (by decide)  (fun c5 => ?_) (fun c5 => ?_)
  · skip
    have hf := fSwap_1 (y := y) (bix_0 c5)
    refine ws_sipush 16 C dX4_swap_16 ((-1001)) (by decide) ?_
    exact ws_iret 19 C  dX4_swap_19 rfl (Nat.le_refl _) (Nat.le_refl _) (by rw [hP]; exact PX_ret (hf) ⟨hO, hS1, hS8, hLg, hLb, hPd, hHs, hSl⟩ hF)
  · skip
    obtain ⟨i, hi, hxi, hix⟩ := bix_1 (n := mn (sM S)) (by omega) c5
    refine ws_wk (lv2 := [some (.ref (ad κ 0)), some (.int (nI i)), some (.int (y))]) ⟨rfl, (congrArg Value.int hxi.symm), rfl, trivial⟩ ?_
    refine ws_aload_n 8 C dX4_swap_8 rfl ?_
    refine ws_iload_n 9 C dX4_swap_9 rfl ?_
    refine ws_callV0 10 C dX4_swap_10 vX4_98 (c_X4_isWord hO hS1) rfl hO rfl rfl ⟨by decide, by decide⟩ ⟨Nat.zero_le _, Nat.zero_le _⟩ rfl rfl rfl (kR ?_)
    refine ws_if_ne 13 C 20 dX4_swap_13 (by decide)  (fun c13 => ?_) (fun c13 => ?_)
    · skip
      obtain ⟨j, hj, hyj, hjx⟩ := bix_1 (n := mn (sM S)) (by omega) c13
      refine ws_wk (lv2 := [some (.ref (ad κ 0)), some (.int (nI i)), some (.int (nI j))]) ⟨rfl, rfl, (congrArg Value.int hyj.symm), trivial⟩ ?_
      refine ws_iload_n 20 C dX4_swap_20 rfl ?_
      refine ws_iload_n 21 C dX4_swap_21 rfl ?_
      refine ws_nicmp_ne 22 C 29 dX4_swap_22 (by decide) (by omega) (by omega) (fun c22 => ?_) (fun c22 => ?_)
      · skip
        refine ws_aload_n 29 C dX4_swap_29 rfl ?_
        obtain ⟨g, nx, hH, -⟩ := id hHs
        refine ws_get 30 C dX4_swap_30 fX4_39 hO rfl rfl ?_
        refine ws_aload_n 33 C dX4_swap_33 rfl ?_
        refine ws_get 34 C dX4_swap_34 fX4_10 hO rfl rfl ?_
        refine ws_callV0 37 C dX4_swap_37 vX4_58 (c_X0_record hHs hS1) rfl hH rfl rfl ⟨by decide, by decide⟩ ⟨Nat.zero_le _, Nat.zero_le _⟩ rfl rfl rfl (kV (fun u37 h37 => ?_))
        obtain ⟨hHs, hfr⟩ := h37
        have hS1 := hS1.fr hfr (fun q (g1 : 1 ≤ q) (g2 : q < 8) => (show ¬ (31 ≤ q ∧ q < 75) from by omega))
        have hS8 := hS8.fr hfr (fun q (g1 : 8 ≤ q) (g2 : q < 15) => (show ¬ (31 ≤ q ∧ q < 75) from by omega))
        have hLg := hLg.fr hfr (fun q (g1 : 15 ≤ q) (g2 : q < 22) => (show ¬ (31 ≤ q ∧ q < 75) from by omega))
        have hLb := hLb.fr hfr (fun q (g1 : 22 ≤ q) (g2 : q < 29) => (show ¬ (31 ≤ q ∧ q < 75) from by omega))
        have hPd := hPd.fr hfr (fun q (g1 : 29 ≤ q) (g2 : q < 31) => (show ¬ (31 ≤ q ∧ q < 75) from by omega))
        have hSl := hSl.fr hfr (fun q (g1 : 75 ≤ q) (g2 : q < 91) => (show ¬ (31 ≤ q ∧ q < 75) from by omega))
        have hO := hfr.ob hO (fun q (g1 : 0 ≤ q) (g2 : q < 0 + 1) => (show ¬ (31 ≤ q ∧ q < 75) from by omega))
        have hF := hF.then hfr (fun q (hq : 31 ≤ q ∧ q < 75) => (show q < 91 from by omega))
        refine ws_aload_n 40 C dX4_swap_40 rfl ?_
        obtain ⟨f1, f2, f3, f4, f5, f6, hB, hR⟩ := id hS1
        have h24 := hR.le
        refine ws_get 41 C dX4_swap_41 fX4_10 hO rfl rfl ?_
        refine ws_iload_n 44 C dX4_swap_44 rfl ?_
        refine ws_iload_n 45 C dX4_swap_45 rfl ?_
        refine ws_callV0 46 C dX4_swap_46 vX4_109 (c_X3_exchange hS1 hi hj c22) rfl hB rfl rfl ⟨by decide, by decide⟩ ⟨Nat.zero_le _, Nat.zero_le _⟩ rfl rfl rfl (kV (fun u46 h46 => ?_))
        obtain ⟨hS1, hfr⟩ := h46
        have hS8 := hS8.fr hfr (fun q (g1 : 8 ≤ q) (g2 : q < 15) => (show ¬ (1 ≤ q ∧ q < 1 + 7) from by omega))
        have hLg := hLg.fr hfr (fun q (g1 : 15 ≤ q) (g2 : q < 22) => (show ¬ (1 ≤ q ∧ q < 1 + 7) from by omega))
        have hLb := hLb.fr hfr (fun q (g1 : 22 ≤ q) (g2 : q < 29) => (show ¬ (1 ≤ q ∧ q < 1 + 7) from by omega))
        have hPd := hPd.fr hfr (fun q (g1 : 29 ≤ q) (g2 : q < 31) => (show ¬ (1 ≤ q ∧ q < 1 + 7) from by omega))
        have hHs := hHs.fr hfr (fun q (g1 : 31 ≤ q) (g2 : q < 75) => (show ¬ (1 ≤ q ∧ q < 1 + 7) from by omega))
        have hSl := hSl.fr hfr (fun q (g1 : 75 ≤ q) (g2 : q < 91) => (show ¬ (1 ≤ q ∧ q < 1 + 7) from by omega))
        have hO := hfr.ob hO (fun q (g1 : 0 ≤ q) (g2 : q < 0 + 1) => (show ¬ (1 ≤ q ∧ q < 1 + 7) from by omega))
        have hF := hF.then hfr (fun q (hq : 1 ≤ q ∧ q < 1 + 7) => (show q < 91 from by omega))
        refine ws_aload_n 49 C dX4_swap_49 rfl ?_
        refine ws_iconst 50 C dX4_swap_50 (nI 0) (by decide) ?_
        refine ws_callV0 51 C dX4_swap_51 vX4_113 (c_X4_broken (by decide) hO hS1 hLg hLb) rfl hO rfl rfl ⟨by decide, by decide⟩ ⟨Nat.zero_le _, Nat.zero_le _⟩ rfl rfl rfl (kA (fun r51 u51 h51 => ?_))
        obtain ⟨⟨hr, hBk⟩, hfr⟩ := h51
        rw [show lid 0 = 15 from rfl] at hr hBk hfr
        subst hr
        have hLg := hBk.ly
        obtain ⟨p, l, r, s, lf, nx, hL, hW, hb⟩ := hBk
        have hS1 := hS1.fr hfr (fun q (g1 : 1 ≤ q) (g2 : q < 8) => (show ¬ (15 ≤ q ∧ q < 15 + 7) from by omega))
        have hS8 := hS8.fr hfr (fun q (g1 : 8 ≤ q) (g2 : q < 15) => (show ¬ (15 ≤ q ∧ q < 15 + 7) from by omega))
        have hLb := hLb.fr hfr (fun q (g1 : 22 ≤ q) (g2 : q < 29) => (show ¬ (15 ≤ q ∧ q < 15 + 7) from by omega))
        have hPd := hPd.fr hfr (fun q (g1 : 29 ≤ q) (g2 : q < 31) => (show ¬ (15 ≤ q ∧ q < 15 + 7) from by omega))
        have hHs := hHs.fr hfr (fun q (g1 : 31 ≤ q) (g2 : q < 75) => (show ¬ (15 ≤ q ∧ q < 15 + 7) from by omega))
        have hSl := hSl.fr hfr (fun q (g1 : 75 ≤ q) (g2 : q < 91) => (show ¬ (15 ≤ q ∧ q < 15 + 7) from by omega))
        have hO := hfr.ob hO (fun q (g1 : 0 ≤ q) (g2 : q < 0 + 1) => (show ¬ (15 ≤ q ∧ q < 15 + 7) from by omega))
        have hF := hF.then hfr (fun q (hq : 15 ≤ q ∧ q < 15 + 7) => (show q < 91 from by omega))
        refine ws_get 54 C dX4_swap_54 fX4_117 hL rfl rfl ?_
        exact ws_iret 57 C  dX4_swap_57 rfl (Nat.le_refl _) (Nat.le_refl _) (by rw [hP]; exact PX_ret (fSwap_s hix hjx c22) ⟨hO, hS1, hS8, hLg, hLb, hPd, hHs, hSl⟩ hF)
      · skip
        refine ws_sipush 25 C dX4_swap_25 ((-1002)) (by decide) ?_
        exact ws_iret 28 C  dX4_swap_28 rfl (Nat.le_refl _) (Nat.le_refl _) (by rw [hP]; exact PX_ret (fSwap_e hix hjx c22) ⟨hO, hS1, hS8, hLg, hLb, hPd, hHs, hSl⟩ hF)
    · skip
      have hf := fSwap_2 (x := x) (bix_0 c13)
      refine ws_sipush 16 C dX4_swap_16 ((-1001)) (by decide) ?_
      exact ws_iret 19 C  dX4_swap_19 rfl (Nat.le_refl _) (Nat.le_refl _) (by rw [hP]; exact PX_ret (hf) ⟨hO, hS1, hS8, hLg, hLb, hPd, hHs, hSl⟩ hF)

set_option maxRecDepth 100000 in
set_option maxHeartbeats 4000000 in
theorem c_X4_clear {S : Sg} (hX : XI κ z st0 S) : CT zl κ yX4_clear cX4_clear 2 (some .int) (r0 3 60) z [.ref (ad κ 0)] st0 (PX κ z st0 (fClear S)) := by
  obtain ⟨P, hP⟩ : ∃ P : Option Value → St → Prop, P = (PX κ z st0 (fClear S)) := ⟨_, rfl⟩
  rw [← hP]
  refine CT.of (by decide +kernel) (Nat.le_of_ble_eq_true rfl) (fun zp ze zs zm zar zbe zme zc C _ => ?_)
  have C : Cx zp zs zm zar zme zc κ cX4_clear 2 RX4 (some .int) := C
  refine ws_lv (lv2 := [some (.ref (ad κ 0)), none]) rfl ?_
  obtain ⟨hO, hS1, hS8, hLg, hLb, hPd, hHs, hSl⟩ := hX
  have hF : Fr (fun q : Nat => q < 91) st0 st0 := Fr.rf
  refine ws_aload_n 0 C dX4_clear_0 rfl ?_
  obtain ⟨g, nx, hH, -⟩ := id hHs
  refine ws_get 1 C dX4_clear_1 fX4_39 hO rfl rfl ?_
  refine ws_aload_n 4 C dX4_clear_4 rfl ?_
  refine ws_get 5 C dX4_clear_5 fX4_10 hO rfl rfl ?_
  refine ws_callV0 8 C dX4_clear_8 vX4_58 (c_X0_record hHs hS1) rfl hH rfl rfl ⟨by decide, by decide⟩ ⟨Nat.zero_le _, Nat.zero_le _⟩ rfl rfl rfl (kV (fun u8 h8 => ?_))
  obtain ⟨hHs, hfr⟩ := h8
  have hS1 := hS1.fr hfr (fun q (g1 : 1 ≤ q) (g2 : q < 8) => (show ¬ (31 ≤ q ∧ q < 75) from by omega))
  have hS8 := hS8.fr hfr (fun q (g1 : 8 ≤ q) (g2 : q < 15) => (show ¬ (31 ≤ q ∧ q < 75) from by omega))
  have hLg := hLg.fr hfr (fun q (g1 : 15 ≤ q) (g2 : q < 22) => (show ¬ (31 ≤ q ∧ q < 75) from by omega))
  have hLb := hLb.fr hfr (fun q (g1 : 22 ≤ q) (g2 : q < 29) => (show ¬ (31 ≤ q ∧ q < 75) from by omega))
  have hPd := hPd.fr hfr (fun q (g1 : 29 ≤ q) (g2 : q < 31) => (show ¬ (31 ≤ q ∧ q < 75) from by omega))
  have hSl := hSl.fr hfr (fun q (g1 : 75 ≤ q) (g2 : q < 91) => (show ¬ (31 ≤ q ∧ q < 75) from by omega))
  have hO := hfr.ob hO (fun q (g1 : 0 ≤ q) (g2 : q < 0 + 1) => (show ¬ (31 ≤ q ∧ q < 75) from by omega))
  have hF := hF.then hfr (fun q (hq : 31 ≤ q ∧ q < 75) => (show q < 91 from by omega))
  refine ws_aload_n 11 C dX4_clear_11 rfl ?_
  obtain ⟨f1, f2, f3, f4, f5, f6, hB, hR⟩ := id hS1
  have h24 := hR.le
  refine ws_get 12 C dX4_clear_12 fX4_10 hO rfl rfl ?_
  refine ws_get 15 C dX4_clear_15 fX4_85 hB rfl rfl ?_
  refine ws_istore_n 18 C dX4_clear_18 rfl [some (.ref (ad κ 0)), some (.int (nI (mn (sM S))))] rfl ?_
  refine ws_aload_n 19 C dX4_clear_19 rfl ?_
  refine ws_get 20 C dX4_clear_20 fX4_10 hO rfl rfl ?_
  refine ws_iconst 23 C dX4_clear_23 (nI 0) (by decide) ?_
  refine ws_put 24 C dX4_clear_24 fX4_85 q3_6 hB rfl (Nat.le_of_ble_eq_true rfl) rfl rfl (fun st1 est1 => ?_)
  have hO := hO.ne' (L := 1) est1 rfl (by omega)
  have hB : Ob z st1 1 (bSh κ 1 f1 f2 f3 f4 f5 f6 (nI 0)) := Ob.put' (j := 0) hB est1 rfl
  have hS8 := hS8.fr (Fr.one est1) (fun q (g1 : 8 ≤ q) (g2 : q < 15) => (show ¬ (q = 1) from by omega))
  have hLg := hLg.fr (Fr.one est1) (fun q (g1 : 15 ≤ q) (g2 : q < 22) => (show ¬ (q = 1) from by omega))
  have hLb := hLb.fr (Fr.one est1) (fun q (g1 : 22 ≤ q) (g2 : q < 29) => (show ¬ (q = 1) from by omega))
  have hPd := hPd.fr (Fr.one est1) (fun q (g1 : 29 ≤ q) (g2 : q < 31) => (show ¬ (q = 1) from by omega))
  have hHs := hHs.fr (Fr.one est1) (fun q (g1 : 31 ≤ q) (g2 : q < 75) => (show ¬ (q = 1) from by omega))
  have hSl := hSl.fr (Fr.one est1) (fun q (g1 : 75 ≤ q) (g2 : q < 91) => (show ¬ (q = 1) from by omega))
  have hF := hF.put' est1 (show (1) < 91 from by omega)
  refine ws_iload_n 27 C dX4_clear_27 rfl ?_
  exact ws_iret 28 C  dX4_clear_28 rfl (Nat.le_refl _) (Nat.le_refl _) (by rw [hP]; exact PX_ret (rfl) ⟨hO, ⟨_, _, _, _, _, _, hB, Rp_clear hR⟩, hS8, hLg, hLb, hPd, hHs, hSl⟩ hF)
end
end
