-- names, field tables, method names and codes: the program's own, as the task prints them (NAMES.whole, SKELETON's PART A)
-- ===== PART A: goes FIRST, ahead of the names: the tables' words, and 'selects' of the private methods out of them =====
/-- a private method of a class that the tables say can be made, by its rows of tables_1 -/
def lw_okq (q : MethodName × Nat) : Prop := (q.1.cls ≠ "java/lang/invoke/MethodHandle" ∧ q.1.cls ≠ "java/lang/invoke/VarHandle") ∧ Cond.instantiable q.1.cls q.2 ∈ tables_1 ∧ Cond.privateMethod q.1 ∈ tables_1 ∧ Cond.instanceMethod q.1 ∈ tables_1
theorem lw_p0 : lw_okq (⟨"HungStops", "isWord", "(I)Z"⟩, 8) := ⟨⟨by decide +kernel, by decide +kernel⟩, List.mem_of_getElem? (i := 10) (by decide +kernel), List.mem_of_getElem? (i := 218) (by decide +kernel), List.mem_of_getElem? (i := 219) (by decide +kernel)⟩
theorem lw_p1 : lw_okq (⟨"HungStops", "broken", "(I)LHungStops$Layout;"⟩, 8) := ⟨⟨by decide +kernel, by decide +kernel⟩, List.mem_of_getElem? (i := 10) (by decide +kernel), List.mem_of_getElem? (i := 250) (by decide +kernel), List.mem_of_getElem? (i := 251) (by decide +kernel)⟩
theorem lw_p2 : lw_okq (⟨"HungStops$Layout", "findFirstLine", "(I)V"⟩, 11) := ⟨⟨by decide +kernel, by decide +kernel⟩, List.mem_of_getElem? (i := 56) (by decide +kernel), List.mem_of_getElem? (i := 295) (by decide +kernel), List.mem_of_getElem? (i := 296) (by decide +kernel)⟩
theorem lw_p3 : lw_okq (⟨"HungStops$Layout", "badnessOf", "(II)I"⟩, 11) := ⟨⟨by decide +kernel, by decide +kernel⟩, List.mem_of_getElem? (i := 56) (by decide +kernel), List.mem_of_getElem? (i := 299) (by decide +kernel), List.mem_of_getElem? (i := 300) (by decide +kernel)⟩
theorem lw_p4 : lw_okq (⟨"HungStops", "leastBadnessOf", "(LHungStops$Sheet;)I"⟩, 8) := ⟨⟨by decide +kernel, by decide +kernel⟩, List.mem_of_getElem? (i := 10) (by decide +kernel), List.mem_of_getElem? (i := 400) (by decide +kernel), List.mem_of_getElem? (i := 401) (by decide +kernel)⟩
theorem lw_p5 : lw_okq (⟨"HungStopsModel", "changes", "()V"⟩, 18) := ⟨⟨by decide +kernel, by decide +kernel⟩, List.mem_of_getElem? (i := 445) (by decide +kernel), List.mem_of_getElem? (i := 519) (by decide +kernel), List.mem_of_getElem? (i := 520) (by decide +kernel)⟩
theorem lw_p6 : lw_okq (⟨"HungStopsModel", "isWord", "(I)Z"⟩, 18) := ⟨⟨by decide +kernel, by decide +kernel⟩, List.mem_of_getElem? (i := 445) (by decide +kernel), List.mem_of_getElem? (i := 536) (by decide +kernel), List.mem_of_getElem? (i := 537) (by decide +kernel)⟩
theorem lw_p7 : lw_okq (⟨"HungStopsModel", "widthOf", "(I)I"⟩, 18) := ⟨⟨by decide +kernel, by decide +kernel⟩, List.mem_of_getElem? (i := 445) (by decide +kernel), List.mem_of_getElem? (i := 540) (by decide +kernel), List.mem_of_getElem? (i := 541) (by decide +kernel)⟩
theorem lw_p8 : lw_okq (⟨"HungStopsModel", "signs", "(I)I"⟩, 18) := ⟨⟨by decide +kernel, by decide +kernel⟩, List.mem_of_getElem? (i := 445) (by decide +kernel), List.mem_of_getElem? (i := 544) (by decide +kernel), List.mem_of_getElem? (i := 545) (by decide +kernel)⟩
theorem lw_p9 : lw_okq (⟨"HungStopsModel", "signAt", "(II)I"⟩, 18) := ⟨⟨by decide +kernel, by decide +kernel⟩, List.mem_of_getElem? (i := 445) (by decide +kernel), List.mem_of_getElem? (i := 548) (by decide +kernel), List.mem_of_getElem? (i := 549) (by decide +kernel)⟩
theorem lw_p10 : lw_okq (⟨"HungStopsModel", "takesOut", "(I)V"⟩, 18) := ⟨⟨by decide +kernel, by decide +kernel⟩, List.mem_of_getElem? (i := 445) (by decide +kernel), List.mem_of_getElem? (i := 557) (by decide +kernel), List.mem_of_getElem? (i := 558) (by decide +kernel)⟩
theorem lw_p11 : lw_okq (⟨"HungStopsModel", "fills", "()V"⟩, 18) := ⟨⟨by decide +kernel, by decide +kernel⟩, List.mem_of_getElem? (i := 445) (by decide +kernel), List.mem_of_getElem? (i := 565) (by decide +kernel), List.mem_of_getElem? (i := 566) (by decide +kernel)⟩
theorem lw_p12 : lw_okq (⟨"HungStopsModel", "measures", "()V"⟩, 18) := ⟨⟨by decide +kernel, by decide +kernel⟩, List.mem_of_getElem? (i := 445) (by decide +kernel), List.mem_of_getElem? (i := 569) (by decide +kernel), List.mem_of_getElem? (i := 570) (by decide +kernel)⟩
theorem lw_p13 : lw_okq (⟨"HungStopsModel", "hangsLeft", "(I)I"⟩, 18) := ⟨⟨by decide +kernel, by decide +kernel⟩, List.mem_of_getElem? (i := 445) (by decide +kernel), List.mem_of_getElem? (i := 573) (by decide +kernel), List.mem_of_getElem? (i := 574) (by decide +kernel)⟩
theorem lw_p14 : lw_okq (⟨"HungStopsModel", "hang", "(II)I"⟩, 18) := ⟨⟨by decide +kernel, by decide +kernel⟩, List.mem_of_getElem? (i := 445) (by decide +kernel), List.mem_of_getElem? (i := 577) (by decide +kernel), List.mem_of_getElem? (i := 578) (by decide +kernel)⟩
theorem lw_p15 : lw_okq (⟨"HungStopsModel", "hangsRight", "(I)I"⟩, 18) := ⟨⟨by decide +kernel, by decide +kernel⟩, List.mem_of_getElem? (i := 445) (by decide +kernel), List.mem_of_getElem? (i := 581) (by decide +kernel), List.mem_of_getElem? (i := 582) (by decide +kernel)⟩
def lw_privs_1 : List (MethodName × Nat) := [(⟨"HungStops", "isWord", "(I)Z"⟩, 8), (⟨"HungStops", "broken", "(I)LHungStops$Layout;"⟩, 8), (⟨"HungStops$Layout", "findFirstLine", "(I)V"⟩, 11), (⟨"HungStops$Layout", "badnessOf", "(II)I"⟩, 11), (⟨"HungStops", "leastBadnessOf", "(LHungStops$Sheet;)I"⟩, 8), (⟨"HungStopsModel", "changes", "()V"⟩, 18), (⟨"HungStopsModel", "isWord", "(I)Z"⟩, 18), (⟨"HungStopsModel", "widthOf", "(I)I"⟩, 18), (⟨"HungStopsModel", "signs", "(I)I"⟩, 18), (⟨"HungStopsModel", "signAt", "(II)I"⟩, 18), (⟨"HungStopsModel", "takesOut", "(I)V"⟩, 18), (⟨"HungStopsModel", "fills", "()V"⟩, 18), (⟨"HungStopsModel", "measures", "()V"⟩, 18), (⟨"HungStopsModel", "hangsLeft", "(I)I"⟩, 18), (⟨"HungStopsModel", "hang", "(II)I"⟩, 18), (⟨"HungStopsModel", "hangsRight", "(I)I"⟩, 18)]
theorem lw_r1 : ∀ q ∈ lw_privs_1, lw_okq q := List.forall_mem_cons.mpr ⟨lw_p0, List.forall_mem_cons.mpr ⟨lw_p1, List.forall_mem_cons.mpr ⟨lw_p2, List.forall_mem_cons.mpr ⟨lw_p3, List.forall_mem_cons.mpr ⟨lw_p4, List.forall_mem_cons.mpr ⟨lw_p5, List.forall_mem_cons.mpr ⟨lw_p6, List.forall_mem_cons.mpr ⟨lw_p7, List.forall_mem_cons.mpr ⟨lw_p8, List.forall_mem_cons.mpr ⟨lw_p9, List.forall_mem_cons.mpr ⟨lw_p10, List.forall_mem_cons.mpr ⟨lw_p11, List.forall_mem_cons.mpr ⟨lw_p12, List.forall_mem_cons.mpr ⟨lw_p13, List.forall_mem_cons.mpr ⟨lw_p14, List.forall_mem_cons.mpr ⟨lw_p15, fun _ h => absurd h List.not_mem_nil⟩⟩⟩⟩⟩⟩⟩⟩⟩⟩⟩⟩⟩⟩⟩⟩
theorem lw_p16 : lw_okq (⟨"HungStopsModel", "bodyOf", "(II)I"⟩, 18) := ⟨⟨by decide +kernel, by decide +kernel⟩, List.mem_of_getElem? (i := 445) (by decide +kernel), List.mem_of_getElem? (i := 585) (by decide +kernel), List.mem_of_getElem? (i := 586) (by decide +kernel)⟩
theorem lw_p17 : lw_okq (⟨"HungStopsModel", "widthOfLine", "(II)I"⟩, 18) := ⟨⟨by decide +kernel, by decide +kernel⟩, List.mem_of_getElem? (i := 445) (by decide +kernel), List.mem_of_getElem? (i := 589) (by decide +kernel), List.mem_of_getElem? (i := 590) (by decide +kernel)⟩
theorem lw_p18 : lw_okq (⟨"HungStopsModel", "often", "(I)I"⟩, 18) := ⟨⟨by decide +kernel, by decide +kernel⟩, List.mem_of_getElem? (i := 445) (by decide +kernel), List.mem_of_getElem? (i := 601) (by decide +kernel), List.mem_of_getElem? (i := 602) (by decide +kernel)⟩
theorem lw_p19 : lw_okq (⟨"HungStopsModel", "lineOf", "(II)I"⟩, 18) := ⟨⟨by decide +kernel, by decide +kernel⟩, List.mem_of_getElem? (i := 445) (by decide +kernel), List.mem_of_getElem? (i := 609) (by decide +kernel), List.mem_of_getElem? (i := 610) (by decide +kernel)⟩
theorem lw_p20 : lw_okq (⟨"HungStopsModel", "breaks", "(I)V"⟩, 18) := ⟨⟨by decide +kernel, by decide +kernel⟩, List.mem_of_getElem? (i := 445) (by decide +kernel), List.mem_of_getElem? (i := 613) (by decide +kernel), List.mem_of_getElem? (i := 614) (by decide +kernel)⟩
theorem lw_p21 : lw_okq (⟨"HungStopsModel", "breaksBest", "()V"⟩, 18) := ⟨⟨by decide +kernel, by decide +kernel⟩, List.mem_of_getElem? (i := 445) (by decide +kernel), List.mem_of_getElem? (i := 617) (by decide +kernel), List.mem_of_getElem? (i := 618) (by decide +kernel)⟩
theorem lw_p22 : lw_okq (⟨"HungStopsModel", "worksOutFrom", "(I)V"⟩, 18) := ⟨⟨by decide +kernel, by decide +kernel⟩, List.mem_of_getElem? (i := 445) (by decide +kernel), List.mem_of_getElem? (i := 621) (by decide +kernel), List.mem_of_getElem? (i := 622) (by decide +kernel)⟩
theorem lw_p23 : lw_okq (⟨"HungStopsModel", "badnessOf", "(II)I"⟩, 18) := ⟨⟨by decide +kernel, by decide +kernel⟩, List.mem_of_getElem? (i := 445) (by decide +kernel), List.mem_of_getElem? (i := 625) (by decide +kernel), List.mem_of_getElem? (i := 626) (by decide +kernel)⟩
theorem lw_p24 : lw_okq (⟨"HungStopsModel", "lastOf", "(I)I"⟩, 18) := ⟨⟨by decide +kernel, by decide +kernel⟩, List.mem_of_getElem? (i := 445) (by decide +kernel), List.mem_of_getElem? (i := 637) (by decide +kernel), List.mem_of_getElem? (i := 638) (by decide +kernel)⟩
theorem lw_p25 : lw_okq (⟨"HungStopsModel", "fits", "(I)Z"⟩, 18) := ⟨⟨by decide +kernel, by decide +kernel⟩, List.mem_of_getElem? (i := 445) (by decide +kernel), List.mem_of_getElem? (i := 641) (by decide +kernel), List.mem_of_getElem? (i := 642) (by decide +kernel)⟩
theorem lw_p26 : lw_okq (⟨"HungStopsModel", "bodyOfLine", "(I)I"⟩, 18) := ⟨⟨by decide +kernel, by decide +kernel⟩, List.mem_of_getElem? (i := 445) (by decide +kernel), List.mem_of_getElem? (i := 645) (by decide +kernel), List.mem_of_getElem? (i := 646) (by decide +kernel)⟩
theorem lw_p27 : lw_okq (⟨"HungStopsModel", "looksIndented", "(I)Z"⟩, 18) := ⟨⟨by decide +kernel, by decide +kernel⟩, List.mem_of_getElem? (i := 445) (by decide +kernel), List.mem_of_getElem? (i := 649) (by decide +kernel), List.mem_of_getElem? (i := 650) (by decide +kernel)⟩
theorem lw_p28 : lw_okq (⟨"HungStopsModel", "ofLines", "(I)I"⟩, 18) := ⟨⟨by decide +kernel, by decide +kernel⟩, List.mem_of_getElem? (i := 445) (by decide +kernel), List.mem_of_getElem? (i := 658) (by decide +kernel), List.mem_of_getElem? (i := 659) (by decide +kernel)⟩
theorem lw_p29 : lw_okq (⟨"HungStopsModel", "allSigns", "()I"⟩, 18) := ⟨⟨by decide +kernel, by decide +kernel⟩, List.mem_of_getElem? (i := 445) (by decide +kernel), List.mem_of_getElem? (i := 666) (by decide +kernel), List.mem_of_getElem? (i := 667) (by decide +kernel)⟩
theorem lw_p30 : lw_okq (⟨"HungStopsModel", "areAlike", "()I"⟩, 18) := ⟨⟨by decide +kernel, by decide +kernel⟩, List.mem_of_getElem? (i := 445) (by decide +kernel), List.mem_of_getElem? (i := 670) (by decide +kernel), List.mem_of_getElem? (i := 671) (by decide +kernel)⟩
theorem lw_p31 : lw_okq (⟨"HungStopsModel", "bestBadness", "()I"⟩, 18) := ⟨⟨by decide +kernel, by decide +kernel⟩, List.mem_of_getElem? (i := 445) (by decide +kernel), List.mem_of_getElem? (i := 687) (by decide +kernel), List.mem_of_getElem? (i := 688) (by decide +kernel)⟩
def lw_privs_2 : List (MethodName × Nat) := [(⟨"HungStopsModel", "bodyOf", "(II)I"⟩, 18), (⟨"HungStopsModel", "widthOfLine", "(II)I"⟩, 18), (⟨"HungStopsModel", "often", "(I)I"⟩, 18), (⟨"HungStopsModel", "lineOf", "(II)I"⟩, 18), (⟨"HungStopsModel", "breaks", "(I)V"⟩, 18), (⟨"HungStopsModel", "breaksBest", "()V"⟩, 18), (⟨"HungStopsModel", "worksOutFrom", "(I)V"⟩, 18), (⟨"HungStopsModel", "badnessOf", "(II)I"⟩, 18), (⟨"HungStopsModel", "lastOf", "(I)I"⟩, 18), (⟨"HungStopsModel", "fits", "(I)Z"⟩, 18), (⟨"HungStopsModel", "bodyOfLine", "(I)I"⟩, 18), (⟨"HungStopsModel", "looksIndented", "(I)Z"⟩, 18), (⟨"HungStopsModel", "ofLines", "(I)I"⟩, 18), (⟨"HungStopsModel", "allSigns", "()I"⟩, 18), (⟨"HungStopsModel", "areAlike", "()I"⟩, 18), (⟨"HungStopsModel", "bestBadness", "()I"⟩, 18)]
theorem lw_r2 : ∀ q ∈ lw_privs_2, lw_okq q := List.forall_mem_cons.mpr ⟨lw_p16, List.forall_mem_cons.mpr ⟨lw_p17, List.forall_mem_cons.mpr ⟨lw_p18, List.forall_mem_cons.mpr ⟨lw_p19, List.forall_mem_cons.mpr ⟨lw_p20, List.forall_mem_cons.mpr ⟨lw_p21, List.forall_mem_cons.mpr ⟨lw_p22, List.forall_mem_cons.mpr ⟨lw_p23, List.forall_mem_cons.mpr ⟨lw_p24, List.forall_mem_cons.mpr ⟨lw_p25, List.forall_mem_cons.mpr ⟨lw_p26, List.forall_mem_cons.mpr ⟨lw_p27, List.forall_mem_cons.mpr ⟨lw_p28, List.forall_mem_cons.mpr ⟨lw_p29, List.forall_mem_cons.mpr ⟨lw_p30, List.forall_mem_cons.mpr ⟨lw_p31, fun _ h => absurd h List.not_mem_nil⟩⟩⟩⟩⟩⟩⟩⟩⟩⟩⟩⟩⟩⟩⟩⟩
theorem lw_p32 : lw_okq (⟨"HungStopsModel", "keeps", "()V"⟩, 18) := ⟨⟨by decide +kernel, by decide +kernel⟩, List.mem_of_getElem? (i := 445) (by decide +kernel), List.mem_of_getElem? (i := 695) (by decide +kernel), List.mem_of_getElem? (i := 696) (by decide +kernel)⟩
theorem lw_p33 : lw_okq (⟨"HungStopsModel", "comesBack", "()V"⟩, 18) := ⟨⟨by decide +kernel, by decide +kernel⟩, List.mem_of_getElem? (i := 445) (by decide +kernel), List.mem_of_getElem? (i := 699) (by decide +kernel), List.mem_of_getElem? (i := 700) (by decide +kernel)⟩
theorem lw_p34 : lw_okq (⟨"HungStopsModel", "wordEnd", "(I)I"⟩, 18) := ⟨⟨by decide +kernel, by decide +kernel⟩, List.mem_of_getElem? (i := 445) (by decide +kernel), List.mem_of_getElem? (i := 721) (by decide +kernel), List.mem_of_getElem? (i := 722) (by decide +kernel)⟩
def lw_privs_3 : List (MethodName × Nat) := [(⟨"HungStopsModel", "keeps", "()V"⟩, 18), (⟨"HungStopsModel", "comesBack", "()V"⟩, 18), (⟨"HungStopsModel", "wordEnd", "(I)I"⟩, 18)]
theorem lw_r3 : ∀ q ∈ lw_privs_3, lw_okq q := List.forall_mem_cons.mpr ⟨lw_p32, List.forall_mem_cons.mpr ⟨lw_p33, List.forall_mem_cons.mpr ⟨lw_p34, fun _ h => absurd h List.not_mem_nil⟩⟩⟩
def lw_privs : List (MethodName × Nat) := lw_privs_1 ++ (lw_privs_2 ++ (lw_privs_3))
def lw_tbl : List Cond := k2_sels lw_privs ++ tables_1
theorem lw_privs_ok : ∀ q ∈ lw_privs, lw_okq q := by
  show ∀ q ∈ lw_privs_1 ++ (lw_privs_2 ++ (lw_privs_3)), lw_okq q
  exact List.forall_mem_append.mpr ⟨lw_r1, List.forall_mem_append.mpr ⟨lw_r2, lw_r3⟩⟩
def RX0 : String := "HungStops$History"
def TX0 : u_T := fun k => match k with
  | 0 => ("HungStops$History", "states", "[LHungStops$Sheet;", true)
  | 1 => ("HungStops$History", "next", "I", false)
  | _ => ("HungStops$History", "size", "I", false)
def tyX0 : Nat → FieldType := fun k => match k with
  | 0 => .array (.object "HungStops$Sheet")
  | 1 => .int
  | _ => .int
theorem nmX0 : ∀ a, a < 3 → ∀ b, b < 3 → a ≠ b → (TX0 a).2.1 ≠ (TX0 b).2.1 := by decide +kernel
theorem tyX0_ok : ∀ k, k < 3 → parseFieldDescriptor (TX0 k).2.2.1 = some (tyX0 k) := by decide +kernel
abbrev cX0_init : ByteArray := prog_2_method_1_code
def yX0_init : MethodName := ⟨RX0, "<init>", "()V"⟩
abbrev cX0_record : ByteArray := prog_2_method_2_code
def yX0_record : MethodName := ⟨RX0, "record", "(LHungStops$Sheet;)V"⟩
abbrev cX0_takeBack : ByteArray := prog_2_method_3_code
def yX0_takeBack : MethodName := ⟨RX0, "takeBack", "(LHungStops$Sheet;)V"⟩
def RX1 : String := "HungStops$Layout"
def TX1 : u_T := fun k => match k with
  | 0 => ("HungStops$Layout", "places", "[I", true)
  | 1 => ("HungStops$Layout", "leftHangs", "[I", true)
  | 2 => ("HungStops$Layout", "rightHangs", "[I", true)
  | 3 => ("HungStops$Layout", "words", "I", false)
  | 4 => ("HungStops$Layout", "measure", "I", false)
  | 5 => ("HungStops$Layout", "space", "I", false)
  | 6 => ("HungStops$Layout", "loose", "I", false)
  | 7 => ("HungStops$Layout", "starts", "[I", true)
  | 8 => ("HungStops$Layout", "lines", "I", false)
  | 9 => ("HungStops$Layout", "leastFrom", "[I", true)
  | _ => ("HungStops$Layout", "nextStart", "[I", true)
def tyX1 : Nat → FieldType := fun k => match k with
  | 0 => .array .int
  | 1 => .array .int
  | 2 => .array .int
  | 3 => .int
  | 4 => .int
  | 5 => .int
  | 6 => .int
  | 7 => .array .int
  | 8 => .int
  | 9 => .array .int
  | _ => .array .int
theorem nmX1 : ∀ a, a < 11 → ∀ b, b < 11 → a ≠ b → (TX1 a).2.1 ≠ (TX1 b).2.1 := by decide +kernel
theorem tyX1_ok : ∀ k, k < 11 → parseFieldDescriptor (TX1 k).2.2.1 = some (tyX1 k) := by decide +kernel
abbrev cX1_init : ByteArray := prog_3_method_1_code
def yX1_init : MethodName := ⟨RX1, "<init>", "()V"⟩
abbrev cX1_weigh : ByteArray := prog_3_method_2_code
def yX1_weigh : MethodName := ⟨RX1, "weigh", "(LHungStops$Sheet;)V"⟩
abbrev cX1_widthFrom : ByteArray := prog_3_method_3_code
def yX1_widthFrom : MethodName := ⟨RX1, "widthFrom", "(II)I"⟩
abbrev cX1_bodyOf : ByteArray := prog_3_method_4_code
def yX1_bodyOf : MethodName := ⟨RX1, "bodyOf", "(II)I"⟩
abbrev cX1_fillGreedily : ByteArray := prog_3_method_5_code
def yX1_fillGreedily : MethodName := ⟨RX1, "fillGreedily", "()V"⟩
abbrev cX1_breakBest : ByteArray := prog_3_method_6_code
def yX1_breakBest : MethodName := ⟨RX1, "breakBest", "()V"⟩
abbrev cX1_leastBadness : ByteArray := prog_3_method_7_code
def yX1_leastBadness : MethodName := ⟨RX1, "leastBadness", "()I"⟩
abbrev cX1_findFirstLine : ByteArray := prog_3_method_8_code
def yX1_findFirstLine : MethodName := ⟨RX1, "findFirstLine", "(I)V"⟩
abbrev cX1_badnessOf : ByteArray := prog_3_method_9_code
def yX1_badnessOf : MethodName := ⟨RX1, "badnessOf", "(II)I"⟩
abbrev cX1_lineWith : ByteArray := prog_3_method_10_code
def yX1_lineWith : MethodName := ⟨RX1, "lineWith", "(I)I"⟩
abbrev cX1_lastWord : ByteArray := prog_3_method_11_code
def yX1_lastWord : MethodName := ⟨RX1, "lastWord", "(I)I"⟩
abbrev cX1_bodyOfLine : ByteArray := prog_3_method_12_code
def yX1_bodyOfLine : MethodName := ⟨RX1, "bodyOfLine", "(I)I"⟩
abbrev cX1_fits : ByteArray := prog_3_method_13_code
def yX1_fits : MethodName := ⟨RX1, "fits", "(I)Z"⟩
abbrev cX1_looksIndented : ByteArray := prog_3_method_14_code
def yX1_looksIndented : MethodName := ⟨RX1, "looksIndented", "(I)Z"⟩
abbrev cX1_tellLine : ByteArray := prog_3_method_15_code
def yX1_tellLine : MethodName := ⟨RX1, "tellLine", "(II)I"⟩
abbrev cX1_badness : ByteArray := prog_3_method_16_code
def yX1_badness : MethodName := ⟨RX1, "badness", "()I"⟩
abbrev cX1_countIndented : ByteArray := prog_3_method_17_code
def yX1_countIndented : MethodName := ⟨RX1, "countIndented", "()I"⟩
abbrev cX1_countUnfit : ByteArray := prog_3_method_18_code
def yX1_countUnfit : MethodName := ⟨RX1, "countUnfit", "()I"⟩
abbrev cX1_greatestBody : ByteArray := prog_3_method_19_code
def yX1_greatestBody : MethodName := ⟨RX1, "greatestBody", "()I"⟩
abbrev cX1_breaksLike : ByteArray := prog_3_method_20_code
def yX1_breaksLike : MethodName := ⟨RX1, "breaksLike", "(LHungStops$Layout;)Z"⟩
def RX2 : String := "HungStops$Pad"
def TX2 : u_T := fun k => match k with
  | 0 => ("HungStops$Pad", "text", "[C", true)
  | _ => ("HungStops$Pad", "length", "I", false)
def tyX2 : Nat → FieldType := fun k => match k with
  | 0 => .array .char
  | _ => .int
theorem nmX2 : ∀ a, a < 2 → ∀ b, b < 2 → a ≠ b → (TX2 a).2.1 ≠ (TX2 b).2.1 := by decide +kernel
theorem tyX2_ok : ∀ k, k < 2 → parseFieldDescriptor (TX2 k).2.2.1 = some (tyX2 k) := by decide +kernel
abbrev cX2_init : ByteArray := prog_4_method_1_code
def yX2_init : MethodName := ⟨RX2, "<init>", "()V"⟩
abbrev cX2_lengthOf : ByteArray := prog_4_method_2_code
def yX2_lengthOf : MethodName := ⟨RX2, "lengthOf", "(J)I"⟩
abbrev cX2_append : ByteArray := prog_4_method_3_code
def yX2_append : MethodName := ⟨RX2, "append", "(JI)V"⟩
abbrev cX2_firstFault : ByteArray := prog_4_method_4_code
def yX2_firstFault : MethodName := ⟨RX2, "firstFault", "()I"⟩
abbrev cX2_countWords : ByteArray := prog_4_method_5_code
def yX2_countWords : MethodName := ⟨RX2, "countWords", "()I"⟩
abbrev cX2_addWordsTo : ByteArray := prog_4_method_6_code
def yX2_addWordsTo : MethodName := ⟨RX2, "addWordsTo", "(LHungStops$Sheet;)V"⟩
def RX3 : String := "HungStops$Sheet"
def TX3 : u_T := fun k => match k with
  | 0 => ("HungStops$Sheet", "settings", "[I", true)
  | 1 => ("HungStops$Sheet", "widths", "[I", true)
  | 2 => ("HungStops$Sheet", "lefts", "[I", true)
  | 3 => ("HungStops$Sheet", "rights", "[I", true)
  | 4 => ("HungStops$Sheet", "signs", "[C", true)
  | 5 => ("HungStops$Sheet", "lengths", "[I", true)
  | _ => ("HungStops$Sheet", "words", "I", false)
def tyX3 : Nat → FieldType := fun k => match k with
  | 0 => .array .int
  | 1 => .array .int
  | 2 => .array .int
  | 3 => .array .int
  | 4 => .array .char
  | 5 => .array .int
  | _ => .int
theorem nmX3 : ∀ a, a < 7 → ∀ b, b < 7 → a ≠ b → (TX3 a).2.1 ≠ (TX3 b).2.1 := by decide +kernel
theorem tyX3_ok : ∀ k, k < 7 → parseFieldDescriptor (TX3 k).2.2.1 = some (tyX3 k) := by decide +kernel
abbrev cX3_init : ByteArray := prog_5_method_1_code
def yX3_init : MethodName := ⟨RX3, "<init>", "()V"⟩
abbrev cX3_copyFrom : ByteArray := prog_5_method_2_code
def yX3_copyFrom : MethodName := ⟨RX3, "copyFrom", "(LHungStops$Sheet;)V"⟩
abbrev cX3_beginWord : ByteArray := prog_5_method_3_code
def yX3_beginWord : MethodName := ⟨RX3, "beginWord", "()V"⟩
abbrev cX3_addSign : ByteArray := prog_5_method_4_code
def yX3_addSign : MethodName := ⟨RX3, "addSign", "(C)V"⟩
abbrev cX3_takeOut : ByteArray := prog_5_method_5_code
def yX3_takeOut : MethodName := ⟨RX3, "takeOut", "(I)V"⟩
abbrev cX3_exchange : ByteArray := prog_5_method_6_code
def yX3_exchange : MethodName := ⟨RX3, "exchange", "(II)V"⟩
abbrev cX3_signAt : ByteArray := prog_5_method_7_code
def yX3_signAt : MethodName := ⟨RX3, "signAt", "(II)C"⟩
abbrev cX3_sortAt : ByteArray := prog_5_method_8_code
def yX3_sortAt : MethodName := ⟨RX3, "sortAt", "(II)I"⟩
abbrev cX3_widthOf : ByteArray := prog_5_method_9_code
def yX3_widthOf : MethodName := ⟨RX3, "widthOf", "(I)I"⟩
abbrev cX3_countSigns : ByteArray := prog_5_method_10_code
def yX3_countSigns : MethodName := ⟨RX3, "countSigns", "()I"⟩
abbrev cX3_countOf : ByteArray := prog_5_method_11_code
def yX3_countOf : MethodName := ⟨RX3, "countOf", "(I)I"⟩
abbrev cX3_hangAtLeft : ByteArray := prog_5_method_12_code
def yX3_hangAtLeft : MethodName := ⟨RX3, "hangAtLeft", "(I)I"⟩
abbrev cX3_hangAtRight : ByteArray := prog_5_method_13_code
def yX3_hangAtRight : MethodName := ⟨RX3, "hangAtRight", "(I)I"⟩
abbrev cX3_leftHangOf : ByteArray := prog_5_method_14_code
def yX3_leftHangOf : MethodName := ⟨RX3, "leftHangOf", "(I)I"⟩
abbrev cX3_rightHangOf : ByteArray := prog_5_method_15_code
def yX3_rightHangOf : MethodName := ⟨RX3, "rightHangOf", "(I)I"⟩
def RX4 : String := "HungStops"
def TX4 : u_T := fun k => match k with
  | 0 => ("HungStops", "now", "LHungStops$Sheet;", true)
  | 1 => ("HungStops", "trial", "LHungStops$Sheet;", true)
  | 2 => ("HungStops", "greedy", "LHungStops$Layout;", true)
  | 3 => ("HungStops", "best", "LHungStops$Layout;", true)
  | 4 => ("HungStops", "pad", "LHungStops$Pad;", true)
  | 5 => ("HungStops", "history", "LHungStops$History;", true)
  | 6 => ("HungStops", "slots", "[LHungStops$Sheet;", true)
  | _ => ("HungStops", "filled", "[Z", true)
def tyX4 : Nat → FieldType := fun k => match k with
  | 0 => .object "HungStops$Sheet"
  | 1 => .object "HungStops$Sheet"
  | 2 => .object "HungStops$Layout"
  | 3 => .object "HungStops$Layout"
  | 4 => .object "HungStops$Pad"
  | 5 => .object "HungStops$History"
  | 6 => .array (.object "HungStops$Sheet")
  | _ => .array .boolean
theorem nmX4 : ∀ a, a < 8 → ∀ b, b < 8 → a ≠ b → (TX4 a).2.1 ≠ (TX4 b).2.1 := by decide +kernel
theorem tyX4_ok : ∀ k, k < 8 → parseFieldDescriptor (TX4 k).2.2.1 = some (tyX4 k) := by decide +kernel
abbrev cX4_init : ByteArray := prog_1_method_1_code
def yX4_init : MethodName := ⟨RX4, "<init>", "()V"⟩
abbrev cX4_set : ByteArray := prog_1_method_2_code
def yX4_set : MethodName := ⟨RX4, "set", "(II)I"⟩
abbrev cX4_sort : ByteArray := prog_1_method_3_code
def yX4_sort : MethodName := ⟨RX4, "sort", "(IIII)I"⟩
abbrev cX4_read : ByteArray := prog_1_method_4_code
def yX4_read : MethodName := ⟨RX4, "read", "()I"⟩
abbrev cX4_drop : ByteArray := prog_1_method_5_code
def yX4_drop : MethodName := ⟨RX4, "drop", "(I)I"⟩
abbrev cX4_swap : ByteArray := prog_1_method_6_code
def yX4_swap : MethodName := ⟨RX4, "swap", "(II)I"⟩
abbrev cX4_clear : ByteArray := prog_1_method_7_code
def yX4_clear : MethodName := ⟨RX4, "clear", "()I"⟩
abbrev cX4_sortOf : ByteArray := prog_1_method_8_code
def yX4_sortOf : MethodName := ⟨RX4, "sortOf", "(II)I"⟩
abbrev cX4_word : ByteArray := prog_1_method_9_code
def yX4_word : MethodName := ⟨RX4, "word", "(II)I"⟩
abbrev cX4_line : ByteArray := prog_1_method_10_code
def yX4_line : MethodName := ⟨RX4, "line", "(III)I"⟩
abbrev cX4_lines : ByteArray := prog_1_method_11_code
def yX4_lines : MethodName := ⟨RX4, "lines", "(II)I"⟩
abbrev cX4_count : ByteArray := prog_1_method_12_code
def yX4_count : MethodName := ⟨RX4, "count", "(I)I"⟩
abbrev cX4_body : ByteArray := prog_1_method_13_code
def yX4_body : MethodName := ⟨RX4, "body", "(II)I"⟩
abbrev cX4_leastMeasure : ByteArray := prog_1_method_14_code
def yX4_leastMeasure : MethodName := ⟨RX4, "leastMeasure", "(I)I"⟩
abbrev cX4_bestShare : ByteArray := prog_1_method_15_code
def yX4_bestShare : MethodName := ⟨RX4, "bestShare", "(I)I"⟩
abbrev cX4_worstWord : ByteArray := prog_1_method_16_code
def yX4_worstWord : MethodName := ⟨RX4, "worstWord", "()I"⟩
abbrev cX4_put : ByteArray := prog_1_method_17_code
def yX4_put : MethodName := ⟨RX4, "put", "(J)I"⟩
abbrev cX4_wipe : ByteArray := prog_1_method_18_code
def yX4_wipe : MethodName := ⟨RX4, "wipe", "()I"⟩
abbrev cX4_fault : ByteArray := prog_1_method_19_code
def yX4_fault : MethodName := ⟨RX4, "fault", "()I"⟩
abbrev cX4_undo : ByteArray := prog_1_method_20_code
def yX4_undo : MethodName := ⟨RX4, "undo", "()I"⟩
abbrev cX4_save : ByteArray := prog_1_method_21_code
def yX4_save : MethodName := ⟨RX4, "save", "(I)I"⟩
abbrev cX4_restore : ByteArray := prog_1_method_22_code
def yX4_restore : MethodName := ⟨RX4, "restore", "(I)I"⟩
abbrev cX4_isSort : ByteArray := prog_1_method_23_code
def yX4_isSort : MethodName := ⟨RX4, "isSort", "(I)Z"⟩
abbrev cX4_isShare : ByteArray := prog_1_method_24_code
def yX4_isShare : MethodName := ⟨RX4, "isShare", "(I)Z"⟩
abbrev cX4_isWay : ByteArray := prog_1_method_25_code
def yX4_isWay : MethodName := ⟨RX4, "isWay", "(I)Z"⟩
abbrev cX4_isWord : ByteArray := prog_1_method_26_code
def yX4_isWord : MethodName := ⟨RX4, "isWord", "(I)Z"⟩
abbrev cX4_sortWith : ByteArray := prog_1_method_27_code
def yX4_sortWith : MethodName := ⟨RX4, "sortWith", "(I)I"⟩
abbrev cX4_broken : ByteArray := prog_1_method_28_code
def yX4_broken : MethodName := ⟨RX4, "broken", "(I)LHungStops$Layout;"⟩
abbrev cX4_leastBadnessOf : ByteArray := prog_1_method_29_code
def yX4_leastBadnessOf : MethodName := ⟨RX4, "leastBadnessOf", "(LHungStops$Sheet;)I"⟩
def RX5 : String := "HungStopsModel"
def TX5 : u_T := fun k => match k with
  | 0 => ("HungStopsModel", "all", "[I", true)
  | 1 => ("HungStopsModel", "kept", "[I", true)
  | 2 => ("HungStopsModel", "history", "[I", true)
  | 3 => ("HungStopsModel", "historyLong", "I", false)
  | 4 => ("HungStopsModel", "slots", "[I", true)
  | 5 => ("HungStopsModel", "isSaved", "[I", true)
  | 6 => ("HungStopsModel", "ahead", "[I", true)
  | 7 => ("HungStopsModel", "lefts", "[I", true)
  | 8 => ("HungStopsModel", "rights", "[I", true)
  | 9 => ("HungStopsModel", "starts", "[I", true)
  | 10 => ("HungStopsModel", "lines", "I", false)
  | 11 => ("HungStopsModel", "least", "[I", true)
  | 12 => ("HungStopsModel", "takes", "[I", true)
  | 13 => ("HungStopsModel", "text", "[I", true)
  | 14 => ("HungStopsModel", "textLong", "I", false)
  | 15 => ("HungStopsModel", "begins", "[I", true)
  | 16 => ("HungStopsModel", "lengths", "[I", true)
  | _ => ("HungStopsModel", "read", "I", false)
def tyX5 : Nat → FieldType := fun k => match k with
  | 0 => .array .int
  | 1 => .array .int
  | 2 => .array .int
  | 3 => .int
  | 4 => .array .int
  | 5 => .array .int
  | 6 => .array .int
  | 7 => .array .int
  | 8 => .array .int
  | 9 => .array .int
  | 10 => .int
  | 11 => .array .int
  | 12 => .array .int
  | 13 => .array .int
  | 14 => .int
  | 15 => .array .int
  | 16 => .array .int
  | _ => .int
theorem nmX5 : ∀ a, a < 18 → ∀ b, b < 18 → a ≠ b → (TX5 a).2.1 ≠ (TX5 b).2.1 := by decide +kernel
theorem tyX5_ok : ∀ k, k < 18 → parseFieldDescriptor (TX5 k).2.2.1 = some (tyX5 k) := by decide +kernel
abbrev cX5_init : ByteArray := prog_7_method_1_code
def yX5_init : MethodName := ⟨RX5, "<init>", "()V"⟩
abbrev cX5_in : ByteArray := prog_7_method_3_code
def yX5_in : MethodName := ⟨RX5, "in", "(JJJ)Z"⟩
abbrev cX5_changes : ByteArray := prog_7_method_4_code
def yX5_changes : MethodName := ⟨RX5, "changes", "()V"⟩
abbrev cX5_keeps : ByteArray := prog_7_method_5_code
def yX5_keeps : MethodName := ⟨RX5, "keeps", "()V"⟩
abbrev cX5_comesBack : ByteArray := prog_7_method_6_code
def yX5_comesBack : MethodName := ⟨RX5, "comesBack", "()V"⟩
abbrev cX5_isSort : ByteArray := prog_7_method_7_code
def yX5_isSort : MethodName := ⟨RX5, "isSort", "(I)Z"⟩
abbrev cX5_sortBy : ByteArray := prog_7_method_8_code
def yX5_sortBy : MethodName := ⟨RX5, "sortBy", "(I)I"⟩
abbrev cX5_isWord : ByteArray := prog_7_method_9_code
def yX5_isWord : MethodName := ⟨RX5, "isWord", "(I)Z"⟩
abbrev cX5_signs : ByteArray := prog_7_method_10_code
def yX5_signs : MethodName := ⟨RX5, "signs", "(I)I"⟩
abbrev cX5_signAt : ByteArray := prog_7_method_11_code
def yX5_signAt : MethodName := ⟨RX5, "signAt", "(II)I"⟩
abbrev cX5_widthOf : ByteArray := prog_7_method_12_code
def yX5_widthOf : MethodName := ⟨RX5, "widthOf", "(I)I"⟩
abbrev cX5_hang : ByteArray := prog_7_method_13_code
def yX5_hang : MethodName := ⟨RX5, "hang", "(II)I"⟩
abbrev cX5_hangsLeft : ByteArray := prog_7_method_14_code
def yX5_hangsLeft : MethodName := ⟨RX5, "hangsLeft", "(I)I"⟩
abbrev cX5_hangsRight : ByteArray := prog_7_method_15_code
def yX5_hangsRight : MethodName := ⟨RX5, "hangsRight", "(I)I"⟩
abbrev cX5_measures : ByteArray := prog_7_method_16_code
def yX5_measures : MethodName := ⟨RX5, "measures", "()V"⟩
abbrev cX5_widthOfLine : ByteArray := prog_7_method_17_code
def yX5_widthOfLine : MethodName := ⟨RX5, "widthOfLine", "(II)I"⟩
abbrev cX5_bodyOf : ByteArray := prog_7_method_18_code
def yX5_bodyOf : MethodName := ⟨RX5, "bodyOf", "(II)I"⟩
abbrev cX5_badnessOf : ByteArray := prog_7_method_19_code
def yX5_badnessOf : MethodName := ⟨RX5, "badnessOf", "(II)I"⟩
abbrev cX5_fills : ByteArray := prog_7_method_20_code
def yX5_fills : MethodName := ⟨RX5, "fills", "()V"⟩
abbrev cX5_worksOutFrom : ByteArray := prog_7_method_21_code
def yX5_worksOutFrom : MethodName := ⟨RX5, "worksOutFrom", "(I)V"⟩
abbrev cX5_breaksBest : ByteArray := prog_7_method_22_code
def yX5_breaksBest : MethodName := ⟨RX5, "breaksBest", "()V"⟩
abbrev cX5_breaks : ByteArray := prog_7_method_23_code
def yX5_breaks : MethodName := ⟨RX5, "breaks", "(I)V"⟩
abbrev cX5_bestBadness : ByteArray := prog_7_method_24_code
def yX5_bestBadness : MethodName := ⟨RX5, "bestBadness", "()I"⟩
abbrev cX5_lastOf : ByteArray := prog_7_method_25_code
def yX5_lastOf : MethodName := ⟨RX5, "lastOf", "(I)I"⟩
abbrev cX5_bodyOfLine : ByteArray := prog_7_method_26_code
def yX5_bodyOfLine : MethodName := ⟨RX5, "bodyOfLine", "(I)I"⟩
abbrev cX5_fits : ByteArray := prog_7_method_27_code
def yX5_fits : MethodName := ⟨RX5, "fits", "(I)Z"⟩
abbrev cX5_looksIndented : ByteArray := prog_7_method_28_code
def yX5_looksIndented : MethodName := ⟨RX5, "looksIndented", "(I)Z"⟩
abbrev cX5_isSetting : ByteArray := prog_7_method_29_code
def yX5_isSetting : MethodName := ⟨RX5, "isSetting", "(II)Z"⟩
abbrev cX5_set : ByteArray := prog_7_method_30_code
def yX5_set : MethodName := ⟨RX5, "set", "(II)I"⟩
abbrev cX5_sort : ByteArray := prog_7_method_31_code
def yX5_sort : MethodName := ⟨RX5, "sort", "(IIII)I"⟩
abbrev cX5_takesOut : ByteArray := prog_7_method_32_code
def yX5_takesOut : MethodName := ⟨RX5, "takesOut", "(I)V"⟩
abbrev cX5_drop : ByteArray := prog_7_method_33_code
def yX5_drop : MethodName := ⟨RX5, "drop", "(I)I"⟩
abbrev cX5_swap : ByteArray := prog_7_method_34_code
def yX5_swap : MethodName := ⟨RX5, "swap", "(II)I"⟩
abbrev cX5_clear : ByteArray := prog_7_method_35_code
def yX5_clear : MethodName := ⟨RX5, "clear", "()I"⟩
abbrev cX5_often : ByteArray := prog_7_method_36_code
def yX5_often : MethodName := ⟨RX5, "often", "(I)I"⟩
abbrev cX5_sortOf : ByteArray := prog_7_method_37_code
def yX5_sortOf : MethodName := ⟨RX5, "sortOf", "(II)I"⟩
abbrev cX5_lineOf : ByteArray := prog_7_method_38_code
def yX5_lineOf : MethodName := ⟨RX5, "lineOf", "(II)I"⟩
abbrev cX5_word : ByteArray := prog_7_method_39_code
def yX5_word : MethodName := ⟨RX5, "word", "(II)I"⟩
abbrev cX5_isWay : ByteArray := prog_7_method_40_code
def yX5_isWay : MethodName := ⟨RX5, "isWay", "(I)Z"⟩
abbrev cX5_line : ByteArray := prog_7_method_41_code
def yX5_line : MethodName := ⟨RX5, "line", "(III)I"⟩
abbrev cX5_ofLines : ByteArray := prog_7_method_42_code
def yX5_ofLines : MethodName := ⟨RX5, "ofLines", "(I)I"⟩
abbrev cX5_lines : ByteArray := prog_7_method_43_code
def yX5_lines : MethodName := ⟨RX5, "lines", "(II)I"⟩
abbrev cX5_areAlike : ByteArray := prog_7_method_44_code
def yX5_areAlike : MethodName := ⟨RX5, "areAlike", "()I"⟩
abbrev cX5_allSigns : ByteArray := prog_7_method_45_code
def yX5_allSigns : MethodName := ⟨RX5, "allSigns", "()I"⟩
abbrev cX5_count : ByteArray := prog_7_method_46_code
def yX5_count : MethodName := ⟨RX5, "count", "(I)I"⟩
abbrev cX5_body : ByteArray := prog_7_method_47_code
def yX5_body : MethodName := ⟨RX5, "body", "(II)I"⟩
abbrev cX5_leastMeasure : ByteArray := prog_7_method_48_code
def yX5_leastMeasure : MethodName := ⟨RX5, "leastMeasure", "(I)I"⟩
abbrev cX5_bestShare : ByteArray := prog_7_method_49_code
def yX5_bestShare : MethodName := ⟨RX5, "bestShare", "(I)I"⟩
abbrev cX5_worstWord : ByteArray := prog_7_method_50_code
def yX5_worstWord : MethodName := ⟨RX5, "worstWord", "()I"⟩
abbrev cX5_charactersOf : ByteArray := prog_7_method_51_code
def yX5_charactersOf : MethodName := ⟨RX5, "charactersOf", "(J)I"⟩
abbrev cX5_put : ByteArray := prog_7_method_52_code
def yX5_put : MethodName := ⟨RX5, "put", "(J)I"⟩
abbrev cX5_wipe : ByteArray := prog_7_method_53_code
def yX5_wipe : MethodName := ⟨RX5, "wipe", "()I"⟩
abbrev cX5_wordEnd : ByteArray := prog_7_method_54_code
def yX5_wordEnd : MethodName := ⟨RX5, "wordEnd", "(I)I"⟩
abbrev cX5_fault : ByteArray := prog_7_method_55_code
def yX5_fault : MethodName := ⟨RX5, "fault", "()I"⟩
abbrev cX5_read : ByteArray := prog_7_method_56_code
def yX5_read : MethodName := ⟨RX5, "read", "()I"⟩
abbrev cX5_undo : ByteArray := prog_7_method_57_code
def yX5_undo : MethodName := ⟨RX5, "undo", "()I"⟩
abbrev cX5_isSlot : ByteArray := prog_7_method_58_code
def yX5_isSlot : MethodName := ⟨RX5, "isSlot", "(I)Z"⟩
abbrev cX5_save : ByteArray := prog_7_method_59_code
def yX5_save : MethodName := ⟨RX5, "save", "(I)I"⟩
abbrev cX5_restore : ByteArray := prog_7_method_60_code
def yX5_restore : MethodName := ⟨RX5, "restore", "(I)I"⟩
def RL : String := "HungStopsLaw"
abbrev cL_law : ByteArray := code
def yL_law : MethodName := ⟨RL, "law", "([I)Z"⟩
def gT : List Cond := lw_tbl.filter goodWord
theorem gT_mem {w : Cond} (h : w ∈ lw_tbl) (g : goodWord w = true) : w ∈ gT := List.mem_filter.mpr ⟨h, g⟩
theorem gT_i {w : Cond} (i : Nat) (h : lw_tbl[i]? = some w) (g : goodWord w = true) : w ∈ gT := gT_mem (List.mem_of_getElem? h) g
theorem gT_all : ∀ w ∈ gT, w ∈ gT ∧ ((w.onTables && w.keeps) = true ∨ ∃ ty, w = .arrayClass ty) := fun w h => ⟨h, good_of_word (List.mem_filter.mp h).2⟩
abbrev kcl : List vw_C := [(RX0, TX0, 3), (RX1, TX1, 11), (RX2, TX2, 2), (RX3, TX3, 7), (RX4, TX4, 8), (RX5, TX5, 18)]
