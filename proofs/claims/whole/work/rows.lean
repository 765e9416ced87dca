section
-- ===== PART A: goes FIRST, ahead of the names: the tables' words, and 'selects' of the private methods out of them =====
/-- a private method of a class that the tables say can be made, by its rows of tables_1 -/
def lw_okq (q : MethodName × Nat) : Prop := (q.1.cls ≠ "java/lang/invoke/MethodHandle" ∧ q.1.cls ≠ "java/lang/invoke/VarHandle") ∧ Cond.instantiable q.1.cls q.2 ∈ tables_1 ∧ Cond.privateMethod q.1 ∈ tables_1 ∧ Cond.instanceMethod q.1 ∈ tables_1
theorem lw_p0 : lw_okq (⟨"BaggageHall", "nextLine", "(I)I"⟩, 3) := ⟨⟨by decide +kernel, by decide +kernel⟩, List.mem_of_getElem? (i := 9) (by decide +kernel), List.mem_of_getElem? (i := 250) (by decide +kernel), List.mem_of_getElem? (i := 251) (by decide +kernel)⟩
theorem lw_p1 : lw_okq (⟨"BaggageHall$Hall", "placeAct", "(IIII)I"⟩, 9) := ⟨⟨by decide +kernel, by decide +kernel⟩, List.mem_of_getElem? (i := 62) (by decide +kernel), List.mem_of_getElem? (i := 258) (by decide +kernel), List.mem_of_getElem? (i := 259) (by decide +kernel)⟩
theorem lw_p2 : lw_okq (⟨"BaggageHall$Hall", "beltAct", "(IIII)I"⟩, 9) := ⟨⟨by decide +kernel, by decide +kernel⟩, List.mem_of_getElem? (i := 62) (by decide +kernel), List.mem_of_getElem? (i := 266) (by decide +kernel), List.mem_of_getElem? (i := 267) (by decide +kernel)⟩
theorem lw_p3 : lw_okq (⟨"BaggageHall$Hall", "lay", "(LBaggageHall$Row;II)I"⟩, 9) := ⟨⟨by decide +kernel, by decide +kernel⟩, List.mem_of_getElem? (i := 62) (by decide +kernel), List.mem_of_getElem? (i := 277) (by decide +kernel), List.mem_of_getElem? (i := 278) (by decide +kernel)⟩
theorem lw_p4 : lw_okq (⟨"BaggageHall$Hall", "pick", "(ILBaggageHall$Row;I)I"⟩, 9) := ⟨⟨by decide +kernel, by decide +kernel⟩, List.mem_of_getElem? (i := 62) (by decide +kernel), List.mem_of_getElem? (i := 301) (by decide +kernel), List.mem_of_getElem? (i := 302) (by decide +kernel)⟩
theorem lw_p5 : lw_okq (⟨"BaggageHall$Hall", "measure", "(ILBaggageHall$Row;)I"⟩, 9) := ⟨⟨by decide +kernel, by decide +kernel⟩, List.mem_of_getElem? (i := 62) (by decide +kernel), List.mem_of_getElem? (i := 305) (by decide +kernel), List.mem_of_getElem? (i := 306) (by decide +kernel)⟩
theorem lw_p6 : lw_okq (⟨"BaggageHall$Hall", "askItem", "(III)I"⟩, 9) := ⟨⟨by decide +kernel, by decide +kernel⟩, List.mem_of_getElem? (i := 62) (by decide +kernel), List.mem_of_getElem? (i := 310) (by decide +kernel), List.mem_of_getElem? (i := 311) (by decide +kernel)⟩
theorem lw_p7 : lw_okq (⟨"BaggageHall$Hall", "load", "(II)I"⟩, 9) := ⟨⟨by decide +kernel, by decide +kernel⟩, List.mem_of_getElem? (i := 62) (by decide +kernel), List.mem_of_getElem? (i := 326) (by decide +kernel), List.mem_of_getElem? (i := 327) (by decide +kernel)⟩
theorem lw_p8 : lw_okq (⟨"BaggageHall$Hall", "asKind", "(II)I"⟩, 9) := ⟨⟨by decide +kernel, by decide +kernel⟩, List.mem_of_getElem? (i := 62) (by decide +kernel), List.mem_of_getElem? (i := 330) (by decide +kernel), List.mem_of_getElem? (i := 331) (by decide +kernel)⟩
theorem lw_p9 : lw_okq (⟨"BaggageHall$Hall", "counterAct", "(IIII)I"⟩, 9) := ⟨⟨by decide +kernel, by decide +kernel⟩, List.mem_of_getElem? (i := 62) (by decide +kernel), List.mem_of_getElem? (i := 334) (by decide +kernel), List.mem_of_getElem? (i := 335) (by decide +kernel)⟩
theorem lw_p10 : lw_okq (⟨"BaggageHall$Hall", "count", "(LBaggageHall$Row;I)I"⟩, 9) := ⟨⟨by decide +kernel, by decide +kernel⟩, List.mem_of_getElem? (i := 62) (by decide +kernel), List.mem_of_getElem? (i := 338) (by decide +kernel), List.mem_of_getElem? (i := 339) (by decide +kernel)⟩
theorem lw_p11 : lw_okq (⟨"BaggageHall$Hall", "readCount", "(ILBaggageHall$Row;I)I"⟩, 9) := ⟨⟨by decide +kernel, by decide +kernel⟩, List.mem_of_getElem? (i := 62) (by decide +kernel), List.mem_of_getElem? (i := 342) (by decide +kernel), List.mem_of_getElem? (i := 343) (by decide +kernel)⟩
theorem lw_p12 : lw_okq (⟨"BaggageHall$Hall", "newGrid", "(III)I"⟩, 9) := ⟨⟨by decide +kernel, by decide +kernel⟩, List.mem_of_getElem? (i := 62) (by decide +kernel), List.mem_of_getElem? (i := 346) (by decide +kernel), List.mem_of_getElem? (i := 347) (by decide +kernel)⟩
theorem lw_p13 : lw_okq (⟨"BaggageHall$Hall", "sumGrid", "(II)I"⟩, 9) := ⟨⟨by decide +kernel, by decide +kernel⟩, List.mem_of_getElem? (i := 62) (by decide +kernel), List.mem_of_getElem? (i := 351) (by decide +kernel), List.mem_of_getElem? (i := 352) (by decide +kernel)⟩
theorem lw_p14 : lw_okq (⟨"BaggageHall$Hall", "alarmAct", "(III)I"⟩, 9) := ⟨⟨by decide +kernel, by decide +kernel⟩, List.mem_of_getElem? (i := 62) (by decide +kernel), List.mem_of_getElem? (i := 355) (by decide +kernel), List.mem_of_getElem? (i := 356) (by decide +kernel)⟩
theorem lw_p15 : lw_okq (⟨"BaggageHallModel", "begin", "(I)V"⟩, 33) := ⟨⟨by decide +kernel, by decide +kernel⟩, List.mem_of_getElem? (i := 401) (by decide +kernel), List.mem_of_getElem? (i := 407) (by decide +kernel), List.mem_of_getElem? (i := 408) (by decide +kernel)⟩
def lw_privs_1 : List (MethodName × Nat) := [(⟨"BaggageHall", "nextLine", "(I)I"⟩, 3), (⟨"BaggageHall$Hall", "placeAct", "(IIII)I"⟩, 9), (⟨"BaggageHall$Hall", "beltAct", "(IIII)I"⟩, 9), (⟨"BaggageHall$Hall", "lay", "(LBaggageHall$Row;II)I"⟩, 9), (⟨"BaggageHall$Hall", "pick", "(ILBaggageHall$Row;I)I"⟩, 9), (⟨"BaggageHall$Hall", "measure", "(ILBaggageHall$Row;)I"⟩, 9), (⟨"BaggageHall$Hall", "askItem", "(III)I"⟩, 9), (⟨"BaggageHall$Hall", "load", "(II)I"⟩, 9), (⟨"BaggageHall$Hall", "asKind", "(II)I"⟩, 9), (⟨"BaggageHall$Hall", "counterAct", "(IIII)I"⟩, 9), (⟨"BaggageHall$Hall", "count", "(LBaggageHall$Row;I)I"⟩, 9), (⟨"BaggageHall$Hall", "readCount", "(ILBaggageHall$Row;I)I"⟩, 9), (⟨"BaggageHall$Hall", "newGrid", "(III)I"⟩, 9), (⟨"BaggageHall$Hall", "sumGrid", "(II)I"⟩, 9), (⟨"BaggageHall$Hall", "alarmAct", "(III)I"⟩, 9), (⟨"BaggageHallModel", "begin", "(I)V"⟩, 33)]
theorem lw_r1 : ∀ q ∈ lw_privs_1, lw_okq q := List.forall_mem_cons.mpr ⟨lw_p0, List.forall_mem_cons.mpr ⟨lw_p1, List.forall_mem_cons.mpr ⟨lw_p2, List.forall_mem_cons.mpr ⟨lw_p3, List.forall_mem_cons.mpr ⟨lw_p4, List.forall_mem_cons.mpr ⟨lw_p5, List.forall_mem_cons.mpr ⟨lw_p6, List.forall_mem_cons.mpr ⟨lw_p7, List.forall_mem_cons.mpr ⟨lw_p8, List.forall_mem_cons.mpr ⟨lw_p9, List.forall_mem_cons.mpr ⟨lw_p10, List.forall_mem_cons.mpr ⟨lw_p11, List.forall_mem_cons.mpr ⟨lw_p12, List.forall_mem_cons.mpr ⟨lw_p13, List.forall_mem_cons.mpr ⟨lw_p14, List.forall_mem_cons.mpr ⟨lw_p15, fun _ h => absurd h List.not_mem_nil⟩⟩⟩⟩⟩⟩⟩⟩⟩⟩⟩⟩⟩⟩⟩⟩
theorem lw_p16 : lw_okq (⟨"BaggageHallModel", "goOn", "()V"⟩, 33) := ⟨⟨by decide +kernel, by decide +kernel⟩, List.mem_of_getElem? (i := 401) (by decide +kernel), List.mem_of_getElem? (i := 539) (by decide +kernel), List.mem_of_getElem? (i := 540) (by decide +kernel)⟩
theorem lw_p17 : lw_okq (⟨"BaggageHallModel", "belts", "(IIII)V"⟩, 33) := ⟨⟨by decide +kernel, by decide +kernel⟩, List.mem_of_getElem? (i := 401) (by decide +kernel), List.mem_of_getElem? (i := 543) (by decide +kernel), List.mem_of_getElem? (i := 544) (by decide +kernel)⟩
theorem lw_p18 : lw_okq (⟨"BaggageHallModel", "isSize", "(I)Z"⟩, 33) := ⟨⟨by decide +kernel, by decide +kernel⟩, List.mem_of_getElem? (i := 401) (by decide +kernel), List.mem_of_getElem? (i := 547) (by decide +kernel), List.mem_of_getElem? (i := 548) (by decide +kernel)⟩
theorem lw_p19 : lw_okq (⟨"BaggageHallModel", "isThere", "(Z)Z"⟩, 33) := ⟨⟨by decide +kernel, by decide +kernel⟩, List.mem_of_getElem? (i := 401) (by decide +kernel), List.mem_of_getElem? (i := 551) (by decide +kernel), List.mem_of_getElem? (i := 552) (by decide +kernel)⟩
theorem lw_p20 : lw_okq (⟨"BaggageHallModel", "isIndex", "(II)Z"⟩, 33) := ⟨⟨by decide +kernel, by decide +kernel⟩, List.mem_of_getElem? (i := 401) (by decide +kernel), List.mem_of_getElem? (i := 555) (by decide +kernel), List.mem_of_getElem? (i := 556) (by decide +kernel)⟩
theorem lw_p21 : lw_okq (⟨"BaggageHallModel", "one", "(III)V"⟩, 33) := ⟨⟨by decide +kernel, by decide +kernel⟩, List.mem_of_getElem? (i := 401) (by decide +kernel), List.mem_of_getElem? (i := 562) (by decide +kernel), List.mem_of_getElem? (i := 563) (by decide +kernel)⟩
theorem lw_p22 : lw_okq (⟨"BaggageHallModel", "stamped", "(I)I"⟩, 33) := ⟨⟨by decide +kernel, by decide +kernel⟩, List.mem_of_getElem? (i := 401) (by decide +kernel), List.mem_of_getElem? (i := 566) (by decide +kernel), List.mem_of_getElem? (i := 567) (by decide +kernel)⟩
theorem lw_p23 : lw_okq (⟨"BaggageHallModel", "feed", "(II)V"⟩, 33) := ⟨⟨by decide +kernel, by decide +kernel⟩, List.mem_of_getElem? (i := 401) (by decide +kernel), List.mem_of_getElem? (i := 570) (by decide +kernel), List.mem_of_getElem? (i := 571) (by decide +kernel)⟩
theorem lw_p24 : lw_okq (⟨"BaggageHallModel", "counts", "(IIII)V"⟩, 33) := ⟨⟨by decide +kernel, by decide +kernel⟩, List.mem_of_getElem? (i := 401) (by decide +kernel), List.mem_of_getElem? (i := 574) (by decide +kernel), List.mem_of_getElem? (i := 575) (by decide +kernel)⟩
theorem lw_p25 : lw_okq (⟨"BaggageHallModel", "rest", "(IIII)V"⟩, 33) := ⟨⟨by decide +kernel, by decide +kernel⟩, List.mem_of_getElem? (i := 401) (by decide +kernel), List.mem_of_getElem? (i := 578) (by decide +kernel), List.mem_of_getElem? (i := 579) (by decide +kernel)⟩
theorem lw_p26 : lw_okq (⟨"BaggageHallModel", "fails", "(I)V"⟩, 33) := ⟨⟨by decide +kernel, by decide +kernel⟩, List.mem_of_getElem? (i := 401) (by decide +kernel), List.mem_of_getElem? (i := 582) (by decide +kernel), List.mem_of_getElem? (i := 583) (by decide +kernel)⟩
def lw_privs_2 : List (MethodName × Nat) := [(⟨"BaggageHallModel", "goOn", "()V"⟩, 33), (⟨"BaggageHallModel", "belts", "(IIII)V"⟩, 33), (⟨"BaggageHallModel", "isSize", "(I)Z"⟩, 33), (⟨"BaggageHallModel", "isThere", "(Z)Z"⟩, 33), (⟨"BaggageHallModel", "isIndex", "(II)Z"⟩, 33), (⟨"BaggageHallModel", "one", "(III)V"⟩, 33), (⟨"BaggageHallModel", "stamped", "(I)I"⟩, 33), (⟨"BaggageHallModel", "feed", "(II)V"⟩, 33), (⟨"BaggageHallModel", "counts", "(IIII)V"⟩, 33), (⟨"BaggageHallModel", "rest", "(IIII)V"⟩, 33), (⟨"BaggageHallModel", "fails", "(I)V"⟩, 33)]
theorem lw_r2 : ∀ q ∈ lw_privs_2, lw_okq q := List.forall_mem_cons.mpr ⟨lw_p16, List.forall_mem_cons.mpr ⟨lw_p17, List.forall_mem_cons.mpr ⟨lw_p18, List.forall_mem_cons.mpr ⟨lw_p19, List.forall_mem_cons.mpr ⟨lw_p20, List.forall_mem_cons.mpr ⟨lw_p21, List.forall_mem_cons.mpr ⟨lw_p22, List.forall_mem_cons.mpr ⟨lw_p23, List.forall_mem_cons.mpr ⟨lw_p24, List.forall_mem_cons.mpr ⟨lw_p25, List.forall_mem_cons.mpr ⟨lw_p26, fun _ h => absurd h List.not_mem_nil⟩⟩⟩⟩⟩⟩⟩⟩⟩⟩⟩
def lw_privs : List (MethodName × Nat) := lw_privs_1 ++ (lw_privs_2)
def lw_tbl : List Cond := k2_sels lw_privs ++ tables_1
theorem lw_privs_ok : ∀ q ∈ lw_privs, lw_okq q := by
  show ∀ q ∈ lw_privs_1 ++ (lw_privs_2), lw_okq q
  exact List.forall_mem_append.mpr ⟨lw_r1, lw_r2⟩
def RX0 : String := "BaggageHall$Hall"
def TX0 : u_T := fun k => match k with
  | 0 => ("BaggageHall$Hall", "registers", "[I", true)
  | 1 => ("BaggageHall$Hall", "places", "[I", true)
  | 2 => ("BaggageHall$Hall", "items", "LBaggageHall$Items;", true)
  | 3 => ("BaggageHall$Hall", "belts", "[LBaggageHall$Row;", true)
  | 4 => ("BaggageHall$Hall", "counters", "[LBaggageHall$Row;", true)
  | 5 => ("BaggageHall$Hall", "gridRows", "[I", true)
  | 6 => ("BaggageHall$Hall", "gridWidths", "[I", true)
  | 7 => ("BaggageHall$Hall", "alarmsThere", "[Z", true)
  | _ => ("BaggageHall$Hall", "alarmNumbers", "[I", true)
def tyX0 : Nat → FieldType := fun k => match k with
  | 0 => .array .int
  | 1 => .array .int
  | 2 => .object "BaggageHall$Items"
  | 3 => .array (.object "BaggageHall$Row")
  | 4 => .array (.object "BaggageHall$Row")
  | 5 => .array .int
  | 6 => .array .int
  | 7 => .array .boolean
  | _ => .array .int
abbrev wsX00 : List Cond := u_ws RX0 TX0 9
theorem nmX0 : ∀ a, a < 9 → ∀ b, b < 9 → a ≠ b → (TX0 a).2.1 ≠ (TX0 b).2.1 := by decide +kernel
theorem tyX0_ok : ∀ k, k < 9 → parseFieldDescriptor (TX0 k).2.2.1 = some (tyX0 k) := by decide +kernel
abbrev cX0_init : ByteArray := prog_2_method_1_code
def yX0_init : MethodName := ⟨RX0, "<init>", "()V"⟩
abbrev cX0_begin : ByteArray := prog_2_method_2_code
def yX0_begin : MethodName := ⟨RX0, "begin", "(I)V"⟩
abbrev cX0_firstPlaceOf : ByteArray := prog_2_method_3_code
def yX0_firstPlaceOf : MethodName := ⟨RX0, "firstPlaceOf", "(I)I"⟩
abbrev cX0_lineBehind : ByteArray := prog_2_method_4_code
def yX0_lineBehind : MethodName := ⟨RX0, "lineBehind", "(IIII)I"⟩
abbrev cX0_perform : ByteArray := prog_2_method_5_code
def yX0_perform : MethodName := ⟨RX0, "perform", "(IIII)I"⟩
abbrev cX0_placeAct : ByteArray := prog_2_method_6_code
def yX0_placeAct : MethodName := ⟨RX0, "placeAct", "(IIII)I"⟩
abbrev cX0_beltAct : ByteArray := prog_2_method_7_code
def yX0_beltAct : MethodName := ⟨RX0, "beltAct", "(IIII)I"⟩
abbrev cX0_lay : ByteArray := prog_2_method_8_code
def yX0_lay : MethodName := ⟨RX0, "lay", "(LBaggageHall$Row;II)I"⟩
abbrev cX0_pick : ByteArray := prog_2_method_9_code
def yX0_pick : MethodName := ⟨RX0, "pick", "(ILBaggageHall$Row;I)I"⟩
abbrev cX0_measure : ByteArray := prog_2_method_10_code
def yX0_measure : MethodName := ⟨RX0, "measure", "(ILBaggageHall$Row;)I"⟩
abbrev cX0_askItem : ByteArray := prog_2_method_11_code
def yX0_askItem : MethodName := ⟨RX0, "askItem", "(III)I"⟩
abbrev cX0_load : ByteArray := prog_2_method_12_code
def yX0_load : MethodName := ⟨RX0, "load", "(II)I"⟩
abbrev cX0_asKind : ByteArray := prog_2_method_13_code
def yX0_asKind : MethodName := ⟨RX0, "asKind", "(II)I"⟩
abbrev cX0_counterAct : ByteArray := prog_2_method_14_code
def yX0_counterAct : MethodName := ⟨RX0, "counterAct", "(IIII)I"⟩
abbrev cX0_count : ByteArray := prog_2_method_15_code
def yX0_count : MethodName := ⟨RX0, "count", "(LBaggageHall$Row;I)I"⟩
abbrev cX0_readCount : ByteArray := prog_2_method_16_code
def yX0_readCount : MethodName := ⟨RX0, "readCount", "(ILBaggageHall$Row;I)I"⟩
abbrev cX0_newGrid : ByteArray := prog_2_method_17_code
def yX0_newGrid : MethodName := ⟨RX0, "newGrid", "(III)I"⟩
abbrev cX0_sumGrid : ByteArray := prog_2_method_18_code
def yX0_sumGrid : MethodName := ⟨RX0, "sumGrid", "(II)I"⟩
abbrev cX0_alarmAct : ByteArray := prog_2_method_19_code
def yX0_alarmAct : MethodName := ⟨RX0, "alarmAct", "(III)I"⟩
def RX1 : String := "BaggageHall$Items"
def TX1 : u_T := fun k => match k with
  | 0 => ("BaggageHall$Items", "kinds", "[I", true)
  | 1 => ("BaggageHall$Items", "weights", "[I", true)
  | 2 => ("BaggageHall$Items", "stamps", "[I", true)
  | _ => ("BaggageHall$Items", "made", "I", false)
def tyX1 : Nat → FieldType := fun k => match k with
  | 0 => .array .int
  | 1 => .array .int
  | 2 => .array .int
  | _ => .int
abbrev wsX10 : List Cond := u_ws RX1 TX1 4
theorem nmX1 : ∀ a, a < 4 → ∀ b, b < 4 → a ≠ b → (TX1 a).2.1 ≠ (TX1 b).2.1 := by decide +kernel
theorem tyX1_ok : ∀ k, k < 4 → parseFieldDescriptor (TX1 k).2.2.1 = some (tyX1 k) := by decide +kernel
abbrev cX1_init : ByteArray := prog_3_method_1_code
def yX1_init : MethodName := ⟨RX1, "<init>", "()V"⟩
abbrev cX1_has : ByteArray := prog_3_method_2_code
def yX1_has : MethodName := ⟨RX1, "has", "(I)Z"⟩
abbrev cX1_add : ByteArray := prog_3_method_3_code
def yX1_add : MethodName := ⟨RX1, "add", "(II)I"⟩
abbrev cX1_stamp : ByteArray := prog_3_method_4_code
def yX1_stamp : MethodName := ⟨RX1, "stamp", "(I)I"⟩
abbrev cX1_isAlive : ByteArray := prog_3_method_5_code
def yX1_isAlive : MethodName := ⟨RX1, "isAlive", "(I)Z"⟩
abbrev cX1_feed : ByteArray := prog_3_method_6_code
def yX1_feed : MethodName := ⟨RX1, "feed", "(I)I"⟩
def RX2 : String := "BaggageHall$Plan"
def TX2 : u_T := fun k => match k with
  | 0 => ("BaggageHall$Plan", "ops", "[I", true)
  | 1 => ("BaggageHall$Plan", "firsts", "[I", true)
  | 2 => ("BaggageHall$Plan", "seconds", "[I", true)
  | 3 => ("BaggageHall$Plan", "thirds", "[I", true)
  | 4 => ("BaggageHall$Plan", "acts", "I", false)
  | 5 => ("BaggageHall$Plan", "guardFroms", "[I", true)
  | 6 => ("BaggageHall$Plan", "guardTos", "[I", true)
  | 7 => ("BaggageHall$Plan", "guardFailures", "[I", true)
  | 8 => ("BaggageHall$Plan", "guardLines", "[I", true)
  | _ => ("BaggageHall$Plan", "guards", "I", false)
def tyX2 : Nat → FieldType := fun k => match k with
  | 0 => .array .int
  | 1 => .array .int
  | 2 => .array .int
  | 3 => .array .int
  | 4 => .int
  | 5 => .array .int
  | 6 => .array .int
  | 7 => .array .int
  | 8 => .array .int
  | _ => .int
abbrev wsX20 : List Cond := u_ws RX2 TX2 10
theorem nmX2 : ∀ a, a < 10 → ∀ b, b < 10 → a ≠ b → (TX2 a).2.1 ≠ (TX2 b).2.1 := by decide +kernel
theorem tyX2_ok : ∀ k, k < 10 → parseFieldDescriptor (TX2 k).2.2.1 = some (tyX2 k) := by decide +kernel
abbrev cX2_init : ByteArray := prog_4_method_1_code
def yX2_init : MethodName := ⟨RX2, "<init>", "()V"⟩
abbrev cX2_isAct : ByteArray := prog_4_method_2_code
def yX2_isAct : MethodName := ⟨RX2, "isAct", "(IIII)Z"⟩
abbrev cX2_isGood : ByteArray := prog_4_method_3_code
def yX2_isGood : MethodName := ⟨RX2, "isGood", "(II)Z"⟩
abbrev cX2_addAct : ByteArray := prog_4_method_4_code
def yX2_addAct : MethodName := ⟨RX2, "addAct", "(IIII)I"⟩
abbrev cX2_addGuard : ByteArray := prog_4_method_5_code
def yX2_addGuard : MethodName := ⟨RX2, "addGuard", "(IIII)I"⟩
abbrev cX2_hasAct : ByteArray := prog_4_method_6_code
def yX2_hasAct : MethodName := ⟨RX2, "hasAct", "(I)Z"⟩
abbrev cX2_guardFor : ByteArray := prog_4_method_7_code
def yX2_guardFor : MethodName := ⟨RX2, "guardFor", "(II)I"⟩
def RX3 : String := "BaggageHall$Report"
def TX3 : u_T := fun k => match k with
  | 0 => ("BaggageHall$Report", "failure", "I", false)
  | 1 => ("BaggageHall$Report", "line", "I", false)
  | 2 => ("BaggageHall$Report", "alarm", "I", false)
  | 3 => ("BaggageHall$Report", "done", "I", false)
  | 4 => ("BaggageHall$Report", "allTaken", "I", false)
  | _ => ("BaggageHall$Report", "taken", "[I", true)
def tyX3 : Nat → FieldType := fun k => match k with
  | 0 => .int
  | 1 => .int
  | 2 => .int
  | 3 => .int
  | 4 => .int
  | _ => .array .int
abbrev wsX30 : List Cond := u_ws RX3 TX3 6
theorem nmX3 : ∀ a, a < 6 → ∀ b, b < 6 → a ≠ b → (TX3 a).2.1 ≠ (TX3 b).2.1 := by decide +kernel
theorem tyX3_ok : ∀ k, k < 6 → parseFieldDescriptor (TX3 k).2.2.1 = some (tyX3 k) := by decide +kernel
abbrev cX3_init : ByteArray := prog_5_method_1_code
def yX3_init : MethodName := ⟨RX3, "<init>", "()V"⟩
abbrev cX3_begin : ByteArray := prog_5_method_2_code
def yX3_begin : MethodName := ⟨RX3, "begin", "()V"⟩
def RX4 : String := "BaggageHall$Row"
def TX4 : u_T := fun k => match k with
  | 0 => ("BaggageHall$Row", "kind", "I", false)
  | 1 => ("BaggageHall$Row", "length", "I", false)
  | _ => ("BaggageHall$Row", "cells", "[I", true)
def tyX4 : Nat → FieldType := fun k => match k with
  | 0 => .int
  | 1 => .int
  | _ => .array .int
abbrev wsX40 : List Cond := u_ws RX4 TX4 3
theorem nmX4 : ∀ a, a < 3 → ∀ b, b < 3 → a ≠ b → (TX4 a).2.1 ≠ (TX4 b).2.1 := by decide +kernel
theorem tyX4_ok : ∀ k, k < 3 → parseFieldDescriptor (TX4 k).2.2.1 = some (tyX4 k) := by decide +kernel
abbrev cX4_init : ByteArray := prog_6_method_1_code
def yX4_init : MethodName := ⟨RX4, "<init>", "()V"⟩
abbrev cX4_isThere : ByteArray := prog_6_method_2_code
def yX4_isThere : MethodName := ⟨RX4, "isThere", "()Z"⟩
abbrev cX4_hasPlace : ByteArray := prog_6_method_3_code
def yX4_hasPlace : MethodName := ⟨RX4, "hasPlace", "(I)Z"⟩
abbrev cX4_remove : ByteArray := prog_6_method_4_code
def yX4_remove : MethodName := ⟨RX4, "remove", "()V"⟩
abbrev cX4_renew : ByteArray := prog_6_method_5_code
def yX4_renew : MethodName := ⟨RX4, "renew", "(III)I"⟩
abbrev cX4_placeFailure : ByteArray := prog_6_method_6_code
def yX4_placeFailure : MethodName := ⟨RX4, "placeFailure", "(I)I"⟩
def RX5 : String := "BaggageHall"
def TX5 : u_T := fun k => match k with
  | 0 => ("BaggageHall", "plan", "LBaggageHall$Plan;", true)
  | 1 => ("BaggageHall", "hall", "LBaggageHall$Hall;", true)
  | _ => ("BaggageHall", "report", "LBaggageHall$Report;", true)
def tyX5 : Nat → FieldType := fun k => match k with
  | 0 => .object "BaggageHall$Plan"
  | 1 => .object "BaggageHall$Hall"
  | _ => .object "BaggageHall$Report"
abbrev wsX50 : List Cond := u_ws RX5 TX5 3
theorem nmX5 : ∀ a, a < 3 → ∀ b, b < 3 → a ≠ b → (TX5 a).2.1 ≠ (TX5 b).2.1 := by decide +kernel
theorem tyX5_ok : ∀ k, k < 3 → parseFieldDescriptor (TX5 k).2.2.1 = some (tyX5 k) := by decide +kernel
abbrev cX5_init : ByteArray := prog_1_method_1_code
def yX5_init : MethodName := ⟨RX5, "<init>", "()V"⟩
abbrev cX5_act : ByteArray := prog_1_method_2_code
def yX5_act : MethodName := ⟨RX5, "act", "(IIII)I"⟩
abbrev cX5_guard : ByteArray := prog_1_method_3_code
def yX5_guard : MethodName := ⟨RX5, "guard", "(IIII)I"⟩
abbrev cX5_clear : ByteArray := prog_1_method_4_code
def yX5_clear : MethodName := ⟨RX5, "clear", "()I"⟩
abbrev cX5_run : ByteArray := prog_1_method_5_code
def yX5_run : MethodName := ⟨RX5, "run", "(II)I"⟩
abbrev cX5_told : ByteArray := prog_1_method_6_code
def yX5_told : MethodName := ⟨RX5, "told", "(I)I"⟩
abbrev cX5_caught : ByteArray := prog_1_method_7_code
def yX5_caught : MethodName := ⟨RX5, "caught", "(I)I"⟩
abbrev cX5_register : ByteArray := prog_1_method_8_code
def yX5_register : MethodName := ⟨RX5, "register", "(I)I"⟩
abbrev cX5_item : ByteArray := prog_1_method_9_code
def yX5_item : MethodName := ⟨RX5, "item", "(II)I"⟩
abbrev cX5_row : ByteArray := prog_1_method_10_code
def yX5_row : MethodName := ⟨RX5, "row", "(II)I"⟩
abbrev cX5_onBelt : ByteArray := prog_1_method_11_code
def yX5_onBelt : MethodName := ⟨RX5, "onBelt", "(II)I"⟩
abbrev cX5_counted : ByteArray := prog_1_method_12_code
def yX5_counted : MethodName := ⟨RX5, "counted", "(II)I"⟩
abbrev cX5_nextLine : ByteArray := prog_1_method_13_code
def yX5_nextLine : MethodName := ⟨RX5, "nextLine", "(I)I"⟩
abbrev cX5_isBelow : ByteArray := prog_1_method_14_code
def yX5_isBelow : MethodName := ⟨RX5, "isBelow", "(II)Z"⟩
abbrev cX5_isOf : ByteArray := prog_1_method_15_code
def yX5_isOf : MethodName := ⟨RX5, "isOf", "(II)Z"⟩
abbrev cX5_sizeFailure : ByteArray := prog_1_method_16_code
def yX5_sizeFailure : MethodName := ⟨RX5, "sizeFailure", "(I)I"⟩
def RX6 : String := "BaggageHallModel"
def TX6 : u_T := fun k => match k with
  | 0 => ("BaggageHallModel", "acts", "I", false)
  | 1 => ("BaggageHallModel", "op", "[I", true)
  | 2 => ("BaggageHallModel", "first", "[I", true)
  | 3 => ("BaggageHallModel", "second", "[I", true)
  | 4 => ("BaggageHallModel", "third", "[I", true)
  | 5 => ("BaggageHallModel", "guards", "I", false)
  | 6 => ("BaggageHallModel", "from", "[I", true)
  | 7 => ("BaggageHallModel", "to", "[I", true)
  | 8 => ("BaggageHallModel", "takes", "[I", true)
  | 9 => ("BaggageHallModel", "goesTo", "[I", true)
  | 10 => ("BaggageHallModel", "items", "I", false)
  | 11 => ("BaggageHallModel", "kind", "[I", true)
  | 12 => ("BaggageHallModel", "weight", "[I", true)
  | 13 => ("BaggageHallModel", "stamps", "[I", true)
  | 14 => ("BaggageHallModel", "place", "[I", true)
  | 15 => ("BaggageHallModel", "beltLong", "[I", true)
  | 16 => ("BaggageHallModel", "beltKind", "[I", true)
  | 17 => ("BaggageHallModel", "belt", "[I", true)
  | 18 => ("BaggageHallModel", "counterLong", "[I", true)
  | 19 => ("BaggageHallModel", "counter", "[I", true)
  | 20 => ("BaggageHallModel", "gridLong", "[I", true)
  | 21 => ("BaggageHallModel", "gridWide", "[I", true)
  | 22 => ("BaggageHallModel", "isAlarm", "[Z", true)
  | 23 => ("BaggageHallModel", "alarm", "[I", true)
  | 24 => ("BaggageHallModel", "register", "[I", true)
  | 25 => ("BaggageHallModel", "line", "I", false)
  | 26 => ("BaggageHallModel", "done", "I", false)
  | 27 => ("BaggageHallModel", "failure", "I", false)
  | 28 => ("BaggageHallModel", "failedBy", "I", false)
  | 29 => ("BaggageHallModel", "failedAt", "I", false)
  | 30 => ("BaggageHallModel", "raised", "I", false)
  | 31 => ("BaggageHallModel", "guarded", "I", false)
  | _ => ("BaggageHallModel", "caught", "[I", true)
def tyX6 : Nat → FieldType := fun k => match k with
  | 0 => .int
  | 1 => .array .int
  | 2 => .array .int
  | 3 => .array .int
  | 4 => .array .int
  | 5 => .int
  | 6 => .array .int
  | 7 => .array .int
  | 8 => .array .int
  | 9 => .array .int
  | 10 => .int
  | 11 => .array .int
  | 12 => .array .int
  | 13 => .array .int
  | 14 => .array .int
  | 15 => .array .int
  | 16 => .array .int
  | 17 => .array .int
  | 18 => .array .int
  | 19 => .array .int
  | 20 => .array .int
  | 21 => .array .int
  | 22 => .array .boolean
  | 23 => .array .int
  | 24 => .array .int
  | 25 => .int
  | 26 => .int
  | 27 => .int
  | 28 => .int
  | 29 => .int
  | 30 => .int
  | 31 => .int
  | _ => .array .int
abbrev wsX60 : List Cond := u_ws RX6 TX6 33
theorem nmX6 : ∀ a, a < 33 → ∀ b, b < 33 → a ≠ b → (TX6 a).2.1 ≠ (TX6 b).2.1 := by decide +kernel
theorem tyX6_ok : ∀ k, k < 33 → parseFieldDescriptor (TX6 k).2.2.1 = some (tyX6 k) := by decide +kernel
abbrev cX6_init : ByteArray := prog_8_method_1_code
def yX6_init : MethodName := ⟨RX6, "<init>", "()V"⟩
abbrev cX6_in : ByteArray := prog_8_method_3_code
def yX6_in : MethodName := ⟨RX6, "in", "(III)Z"⟩
abbrev cX6_begin : ByteArray := prog_8_method_4_code
def yX6_begin : MethodName := ⟨RX6, "begin", "(I)V"⟩
abbrev cX6_isPlace : ByteArray := prog_8_method_5_code
def yX6_isPlace : MethodName := ⟨RX6, "isPlace", "(I)Z"⟩
abbrev cX6_isRegister : ByteArray := prog_8_method_6_code
def yX6_isRegister : MethodName := ⟨RX6, "isRegister", "(I)Z"⟩
abbrev cX6_isRight : ByteArray := prog_8_method_7_code
def yX6_isRight : MethodName := ⟨RX6, "isRight", "(IIII)Z"⟩
abbrev cX6_act : ByteArray := prog_8_method_8_code
def yX6_act : MethodName := ⟨RX6, "act", "(IIII)I"⟩
abbrev cX6_guard : ByteArray := prog_8_method_9_code
def yX6_guard : MethodName := ⟨RX6, "guard", "(IIII)I"⟩
abbrev cX6_clear : ByteArray := prog_8_method_10_code
def yX6_clear : MethodName := ⟨RX6, "clear", "()I"⟩
abbrev cX6_isOf : ByteArray := prog_8_method_11_code
def yX6_isOf : MethodName := ⟨RX6, "isOf", "(II)Z"⟩
abbrev cX6_isSize : ByteArray := prog_8_method_12_code
def yX6_isSize : MethodName := ⟨RX6, "isSize", "(I)Z"⟩
abbrev cX6_isThere : ByteArray := prog_8_method_13_code
def yX6_isThere : MethodName := ⟨RX6, "isThere", "(Z)Z"⟩
abbrev cX6_isIndex : ByteArray := prog_8_method_14_code
def yX6_isIndex : MethodName := ⟨RX6, "isIndex", "(II)Z"⟩
abbrev cX6_belts : ByteArray := prog_8_method_15_code
def yX6_belts : MethodName := ⟨RX6, "belts", "(IIII)V"⟩
abbrev cX6_stamped : ByteArray := prog_8_method_16_code
def yX6_stamped : MethodName := ⟨RX6, "stamped", "(I)I"⟩
abbrev cX6_feed : ByteArray := prog_8_method_17_code
def yX6_feed : MethodName := ⟨RX6, "feed", "(II)V"⟩
abbrev cX6_one : ByteArray := prog_8_method_18_code
def yX6_one : MethodName := ⟨RX6, "one", "(III)V"⟩
abbrev cX6_counts : ByteArray := prog_8_method_19_code
def yX6_counts : MethodName := ⟨RX6, "counts", "(IIII)V"⟩
abbrev cX6_rest : ByteArray := prog_8_method_20_code
def yX6_rest : MethodName := ⟨RX6, "rest", "(IIII)V"⟩
abbrev cX6_goOn : ByteArray := prog_8_method_21_code
def yX6_goOn : MethodName := ⟨RX6, "goOn", "()V"⟩
abbrev cX6_fails : ByteArray := prog_8_method_22_code
def yX6_fails : MethodName := ⟨RX6, "fails", "(I)V"⟩
abbrev cX6_run : ByteArray := prog_8_method_23_code
def yX6_run : MethodName := ⟨RX6, "run", "(II)I"⟩
abbrev cX6_told : ByteArray := prog_8_method_24_code
def yX6_told : MethodName := ⟨RX6, "told", "(I)I"⟩
abbrev cX6_caught : ByteArray := prog_8_method_25_code
def yX6_caught : MethodName := ⟨RX6, "caught", "(I)I"⟩
abbrev cX6_register : ByteArray := prog_8_method_26_code
def yX6_register : MethodName := ⟨RX6, "register", "(I)I"⟩
abbrev cX6_item : ByteArray := prog_8_method_27_code
def yX6_item : MethodName := ⟨RX6, "item", "(II)I"⟩
abbrev cX6_row : ByteArray := prog_8_method_28_code
def yX6_row : MethodName := ⟨RX6, "row", "(II)I"⟩
abbrev cX6_onBelt : ByteArray := prog_8_method_29_code
def yX6_onBelt : MethodName := ⟨RX6, "onBelt", "(II)I"⟩
abbrev cX6_counted : ByteArray := prog_8_method_30_code
def yX6_counted : MethodName := ⟨RX6, "counted", "(II)I"⟩
def RL : String := "BaggageHallLaw"
abbrev cL_law : ByteArray := code
def yL_law : MethodName := ⟨RL, "law", "([I)Z"⟩
abbrev vwCl : List vw_C := [(RX0, TX0, 9), (RX1, TX1, 4), (RX2, TX2, 10), (RX3, TX3, 6), (RX4, TX4, 3), (RX5, TX5, 3), (RX6, TX6, 33)]
end
section
theorem dX0_init_0 : decode cX0_init 0 = .ok (.aload_n 0, 1) := by decide +kernel
theorem dX0_init_1 : decode cX0_init 1 = .ok (.invokespecial 3, 3) := by decide +kernel
theorem dX0_init_4 : decode cX0_init 4 = .ok (.aload_n 0, 1) := by decide +kernel
theorem dX0_init_5 : decode cX0_init 5 = .ok (.bipush 6, 2) := by decide +kernel
theorem dX0_init_7 : decode cX0_init 7 = .ok (.newarray .int, 2) := by decide +kernel
theorem dX0_init_9 : decode cX0_init 9 = .ok (.putfield 9, 3) := by decide +kernel
theorem dX0_init_12 : decode cX0_init 12 = .ok (.aload_n 0, 1) := by decide +kernel
theorem dX0_init_13 : decode cX0_init 13 = .ok (.bipush 8, 2) := by decide +kernel
theorem dX0_init_15 : decode cX0_init 15 = .ok (.newarray .int, 2) := by decide +kernel
theorem dX0_init_17 : decode cX0_init 17 = .ok (.putfield 15, 3) := by decide +kernel
theorem dX0_init_20 : decode cX0_init 20 = .ok (.aload_n 0, 1) := by decide +kernel
theorem dX0_init_21 : decode cX0_init 21 = .ok (.new 18, 3) := by decide +kernel
theorem dX0_init_24 : decode cX0_init 24 = .ok (.dup, 1) := by decide +kernel
theorem dX0_init_25 : decode cX0_init 25 = .ok (.invokespecial 20, 3) := by decide +kernel
theorem dX0_init_28 : decode cX0_init 28 = .ok (.putfield 21, 3) := by decide +kernel
theorem dX0_init_31 : decode cX0_init 31 = .ok (.aload_n 0, 1) := by decide +kernel
theorem dX0_init_32 : decode cX0_init 32 = .ok (.iconst 4, 1) := by decide +kernel
theorem dX0_init_33 : decode cX0_init 33 = .ok (.anewarray 25, 3) := by decide +kernel
theorem dX0_init_36 : decode cX0_init 36 = .ok (.putfield 27, 3) := by decide +kernel
theorem dX0_init_39 : decode cX0_init 39 = .ok (.aload_n 0, 1) := by decide +kernel
theorem dX0_init_40 : decode cX0_init 40 = .ok (.iconst 3, 1) := by decide +kernel
theorem dX0_init_41 : decode cX0_init 41 = .ok (.anewarray 25, 3) := by decide +kernel
theorem dX0_init_44 : decode cX0_init 44 = .ok (.putfield 31, 3) := by decide +kernel
theorem dX0_init_47 : decode cX0_init 47 = .ok (.aload_n 0, 1) := by decide +kernel
theorem dX0_init_48 : decode cX0_init 48 = .ok (.iconst 2, 1) := by decide +kernel
theorem dX0_init_49 : decode cX0_init 49 = .ok (.newarray .int, 2) := by decide +kernel
theorem dX0_init_51 : decode cX0_init 51 = .ok (.putfield 34, 3) := by decide +kernel
theorem dX0_init_54 : decode cX0_init 54 = .ok (.aload_n 0, 1) := by decide +kernel
theorem dX0_init_55 : decode cX0_init 55 = .ok (.iconst 2, 1) := by decide +kernel
theorem dX0_init_56 : decode cX0_init 56 = .ok (.newarray .int, 2) := by decide +kernel
theorem dX0_init_58 : decode cX0_init 58 = .ok (.putfield 37, 3) := by decide +kernel
theorem dX0_init_61 : decode cX0_init 61 = .ok (.aload_n 0, 1) := by decide +kernel
theorem dX0_init_62 : decode cX0_init 62 = .ok (.iconst 3, 1) := by decide +kernel
theorem dX0_init_63 : decode cX0_init 63 = .ok (.newarray .boolean, 2) := by decide +kernel
theorem dX0_init_65 : decode cX0_init 65 = .ok (.putfield 40, 3) := by decide +kernel
theorem dX0_init_68 : decode cX0_init 68 = .ok (.aload_n 0, 1) := by decide +kernel
theorem dX0_init_69 : decode cX0_init 69 = .ok (.iconst 3, 1) := by decide +kernel
theorem dX0_init_70 : decode cX0_init 70 = .ok (.newarray .int, 2) := by decide +kernel
theorem dX0_init_72 : decode cX0_init 72 = .ok (.putfield 44, 3) := by decide +kernel
theorem dX0_init_75 : decode cX0_init 75 = .ok (.iconst 0, 1) := by decide +kernel
theorem dX0_init_76 : decode cX0_init 76 = .ok (.istore_n 1, 1) := by decide +kernel
theorem dX0_init_77 : decode cX0_init 77 = .ok (.iload_n 1, 1) := by decide +kernel
theorem dX0_init_78 : decode cX0_init 78 = .ok (.iconst 4, 1) := by decide +kernel
theorem dX0_init_79 : decode cX0_init 79 = .ok (.if_icmp .ge 22, 3) := by decide +kernel
theorem dX0_init_82 : decode cX0_init 82 = .ok (.aload_n 0, 1) := by decide +kernel
theorem dX0_init_83 : decode cX0_init 83 = .ok (.getfield 27, 3) := by decide +kernel
theorem dX0_init_86 : decode cX0_init 86 = .ok (.iload_n 1, 1) := by decide +kernel
theorem dX0_init_87 : decode cX0_init 87 = .ok (.new 25, 3) := by decide +kernel
theorem dX0_init_90 : decode cX0_init 90 = .ok (.dup, 1) := by decide +kernel
theorem dX0_init_91 : decode cX0_init 91 = .ok (.invokespecial 47, 3) := by decide +kernel
theorem dX0_init_94 : decode cX0_init 94 = .ok (.aastore, 1) := by decide +kernel
theorem dX0_init_95 : decode cX0_init 95 = .ok (.iinc 1 1, 3) := by decide +kernel
theorem dX0_init_98 : decode cX0_init 98 = .ok (.goto (-21), 3) := by decide +kernel
theorem dX0_init_101 : decode cX0_init 101 = .ok (.iconst 0, 1) := by decide +kernel
theorem dX0_init_102 : decode cX0_init 102 = .ok (.istore_n 1, 1) := by decide +kernel
theorem dX0_init_103 : decode cX0_init 103 = .ok (.iload_n 1, 1) := by decide +kernel
theorem dX0_init_104 : decode cX0_init 104 = .ok (.iconst 3, 1) := by decide +kernel
theorem dX0_init_105 : decode cX0_init 105 = .ok (.if_icmp .ge 22, 3) := by decide +kernel
theorem dX0_init_108 : decode cX0_init 108 = .ok (.aload_n 0, 1) := by decide +kernel
theorem dX0_init_109 : decode cX0_init 109 = .ok (.getfield 31, 3) := by decide +kernel
theorem dX0_init_112 : decode cX0_init 112 = .ok (.iload_n 1, 1) := by decide +kernel
theorem dX0_init_113 : decode cX0_init 113 = .ok (.new 25, 3) := by decide +kernel
theorem dX0_init_116 : decode cX0_init 116 = .ok (.dup, 1) := by decide +kernel
theorem dX0_init_117 : decode cX0_init 117 = .ok (.invokespecial 47, 3) := by decide +kernel
theorem dX0_init_120 : decode cX0_init 120 = .ok (.aastore, 1) := by decide +kernel
theorem dX0_init_121 : decode cX0_init 121 = .ok (.iinc 1 1, 3) := by decide +kernel
theorem dX0_init_124 : decode cX0_init 124 = .ok (.goto (-21), 3) := by decide +kernel
theorem dX0_init_127 : decode cX0_init 127 = .ok (.aload_n 0, 1) := by decide +kernel
theorem dX0_init_128 : decode cX0_init 128 = .ok (.iconst 0, 1) := by decide +kernel
theorem dX0_init_129 : decode cX0_init 129 = .ok (.invokevirtual 48, 3) := by decide +kernel
theorem dX0_init_132 : decode cX0_init 132 = .ok (.return_, 1) := by decide +kernel
theorem dX0_begin_0 : decode cX0_begin 0 = .ok (.iconst 0, 1) := by decide +kernel
theorem dX0_begin_1 : decode cX0_begin 1 = .ok (.istore_n 2, 1) := by decide +kernel
theorem dX0_begin_2 : decode cX0_begin 2 = .ok (.iload_n 2, 1) := by decide +kernel
theorem dX0_begin_3 : decode cX0_begin 3 = .ok (.bipush 6, 2) := by decide +kernel
theorem dX0_begin_5 : decode cX0_begin 5 = .ok (.if_icmp .ge 16, 3) := by decide +kernel
theorem dX0_begin_8 : decode cX0_begin 8 = .ok (.aload_n 0, 1) := by decide +kernel
theorem dX0_begin_9 : decode cX0_begin 9 = .ok (.getfield 9, 3) := by decide +kernel
theorem dX0_begin_12 : decode cX0_begin 12 = .ok (.iload_n 2, 1) := by decide +kernel
theorem dX0_begin_13 : decode cX0_begin 13 = .ok (.iconst 0, 1) := by decide +kernel
theorem dX0_begin_14 : decode cX0_begin 14 = .ok (.iastore, 1) := by decide +kernel
theorem dX0_begin_15 : decode cX0_begin 15 = .ok (.iinc 2 1, 3) := by decide +kernel
theorem dX0_begin_18 : decode cX0_begin 18 = .ok (.goto (-16), 3) := by decide +kernel
theorem dX0_begin_21 : decode cX0_begin 21 = .ok (.aload_n 0, 1) := by decide +kernel
theorem dX0_begin_22 : decode cX0_begin 22 = .ok (.getfield 9, 3) := by decide +kernel
theorem dX0_begin_25 : decode cX0_begin 25 = .ok (.iconst 0, 1) := by decide +kernel
theorem dX0_begin_26 : decode cX0_begin 26 = .ok (.iload_n 1, 1) := by decide +kernel
theorem dX0_begin_27 : decode cX0_begin 27 = .ok (.iastore, 1) := by decide +kernel
theorem dX0_begin_28 : decode cX0_begin 28 = .ok (.aload_n 0, 1) := by decide +kernel
theorem dX0_begin_29 : decode cX0_begin 29 = .ok (.getfield 21, 3) := by decide +kernel
theorem dX0_begin_32 : decode cX0_begin 32 = .ok (.iconst 0, 1) := by decide +kernel
theorem dX0_begin_33 : decode cX0_begin 33 = .ok (.putfield 52, 3) := by decide +kernel
theorem dX0_begin_36 : decode cX0_begin 36 = .ok (.iconst 0, 1) := by decide +kernel
theorem dX0_begin_37 : decode cX0_begin 37 = .ok (.istore_n 2, 1) := by decide +kernel
theorem dX0_begin_38 : decode cX0_begin 38 = .ok (.iload_n 2, 1) := by decide +kernel
theorem dX0_begin_39 : decode cX0_begin 39 = .ok (.bipush 8, 2) := by decide +kernel
theorem dX0_begin_41 : decode cX0_begin 41 = .ok (.if_icmp .ge 16, 3) := by decide +kernel
theorem dX0_begin_44 : decode cX0_begin 44 = .ok (.aload_n 0, 1) := by decide +kernel
theorem dX0_begin_45 : decode cX0_begin 45 = .ok (.getfield 15, 3) := by decide +kernel
theorem dX0_begin_48 : decode cX0_begin 48 = .ok (.iload_n 2, 1) := by decide +kernel
theorem dX0_begin_49 : decode cX0_begin 49 = .ok (.iconst (-1), 1) := by decide +kernel
theorem dX0_begin_50 : decode cX0_begin 50 = .ok (.iastore, 1) := by decide +kernel
theorem dX0_begin_51 : decode cX0_begin 51 = .ok (.iinc 2 1, 3) := by decide +kernel
theorem dX0_begin_54 : decode cX0_begin 54 = .ok (.goto (-16), 3) := by decide +kernel
theorem dX0_begin_57 : decode cX0_begin 57 = .ok (.iconst 0, 1) := by decide +kernel
theorem dX0_begin_58 : decode cX0_begin 58 = .ok (.istore_n 2, 1) := by decide +kernel
theorem dX0_begin_59 : decode cX0_begin 59 = .ok (.iload_n 2, 1) := by decide +kernel
theorem dX0_begin_60 : decode cX0_begin 60 = .ok (.iconst 4, 1) := by decide +kernel
theorem dX0_begin_61 : decode cX0_begin 61 = .ok (.if_icmp .ge 18, 3) := by decide +kernel
theorem dX0_begin_64 : decode cX0_begin 64 = .ok (.aload_n 0, 1) := by decide +kernel
theorem dX0_begin_65 : decode cX0_begin 65 = .ok (.getfield 27, 3) := by decide +kernel
theorem dX0_begin_68 : decode cX0_begin 68 = .ok (.iload_n 2, 1) := by decide +kernel
theorem dX0_begin_69 : decode cX0_begin 69 = .ok (.aaload, 1) := by decide +kernel
theorem dX0_begin_70 : decode cX0_begin 70 = .ok (.invokevirtual 56, 3) := by decide +kernel
theorem dX0_begin_73 : decode cX0_begin 73 = .ok (.iinc 2 1, 3) := by decide +kernel
theorem dX0_begin_76 : decode cX0_begin 76 = .ok (.goto (-17), 3) := by decide +kernel
theorem dX0_begin_79 : decode cX0_begin 79 = .ok (.iconst 0, 1) := by decide +kernel
theorem dX0_begin_80 : decode cX0_begin 80 = .ok (.istore_n 2, 1) := by decide +kernel
theorem dX0_begin_81 : decode cX0_begin 81 = .ok (.iload_n 2, 1) := by decide +kernel
theorem dX0_begin_82 : decode cX0_begin 82 = .ok (.iconst 3, 1) := by decide +kernel
theorem dX0_begin_83 : decode cX0_begin 83 = .ok (.if_icmp .ge 18, 3) := by decide +kernel
theorem dX0_begin_86 : decode cX0_begin 86 = .ok (.aload_n 0, 1) := by decide +kernel
theorem dX0_begin_87 : decode cX0_begin 87 = .ok (.getfield 31, 3) := by decide +kernel
theorem dX0_begin_90 : decode cX0_begin 90 = .ok (.iload_n 2, 1) := by decide +kernel
theorem dX0_begin_91 : decode cX0_begin 91 = .ok (.aaload, 1) := by decide +kernel
theorem dX0_begin_92 : decode cX0_begin 92 = .ok (.invokevirtual 56, 3) := by decide +kernel
theorem dX0_begin_95 : decode cX0_begin 95 = .ok (.iinc 2 1, 3) := by decide +kernel
theorem dX0_begin_98 : decode cX0_begin 98 = .ok (.goto (-17), 3) := by decide +kernel
theorem dX0_begin_101 : decode cX0_begin 101 = .ok (.iconst 0, 1) := by decide +kernel
theorem dX0_begin_102 : decode cX0_begin 102 = .ok (.istore_n 2, 1) := by decide +kernel
theorem dX0_begin_103 : decode cX0_begin 103 = .ok (.iload_n 2, 1) := by decide +kernel
theorem dX0_begin_104 : decode cX0_begin 104 = .ok (.iconst 2, 1) := by decide +kernel
theorem dX0_begin_105 : decode cX0_begin 105 = .ok (.if_icmp .ge 16, 3) := by decide +kernel
theorem dX0_begin_108 : decode cX0_begin 108 = .ok (.aload_n 0, 1) := by decide +kernel
theorem dX0_begin_109 : decode cX0_begin 109 = .ok (.getfield 34, 3) := by decide +kernel
theorem dX0_begin_112 : decode cX0_begin 112 = .ok (.iload_n 2, 1) := by decide +kernel
theorem dX0_begin_113 : decode cX0_begin 113 = .ok (.iconst (-1), 1) := by decide +kernel
theorem dX0_begin_114 : decode cX0_begin 114 = .ok (.iastore, 1) := by decide +kernel
theorem dX0_begin_115 : decode cX0_begin 115 = .ok (.iinc 2 1, 3) := by decide +kernel
theorem dX0_begin_118 : decode cX0_begin 118 = .ok (.goto (-15), 3) := by decide +kernel
theorem dX0_begin_121 : decode cX0_begin 121 = .ok (.iconst 0, 1) := by decide +kernel
theorem dX0_begin_122 : decode cX0_begin 122 = .ok (.istore_n 2, 1) := by decide +kernel
theorem dX0_begin_123 : decode cX0_begin 123 = .ok (.iload_n 2, 1) := by decide +kernel
theorem dX0_begin_124 : decode cX0_begin 124 = .ok (.iconst 3, 1) := by decide +kernel
theorem dX0_begin_125 : decode cX0_begin 125 = .ok (.if_icmp .ge 16, 3) := by decide +kernel
theorem dX0_begin_128 : decode cX0_begin 128 = .ok (.aload_n 0, 1) := by decide +kernel
theorem dX0_begin_129 : decode cX0_begin 129 = .ok (.getfield 40, 3) := by decide +kernel
theorem dX0_begin_132 : decode cX0_begin 132 = .ok (.iload_n 2, 1) := by decide +kernel
theorem dX0_begin_133 : decode cX0_begin 133 = .ok (.iconst 0, 1) := by decide +kernel
theorem dX0_begin_134 : decode cX0_begin 134 = .ok (.bastore, 1) := by decide +kernel
theorem dX0_begin_135 : decode cX0_begin 135 = .ok (.iinc 2 1, 3) := by decide +kernel
theorem dX0_begin_138 : decode cX0_begin 138 = .ok (.goto (-15), 3) := by decide +kernel
theorem dX0_begin_141 : decode cX0_begin 141 = .ok (.return_, 1) := by decide +kernel
theorem dX0_firstPlaceOf_0 : decode cX0_firstPlaceOf 0 = .ok (.iconst 0, 1) := by decide +kernel
theorem dX0_firstPlaceOf_1 : decode cX0_firstPlaceOf 1 = .ok (.istore_n 2, 1) := by decide +kernel
theorem dX0_firstPlaceOf_2 : decode cX0_firstPlaceOf 2 = .ok (.iload_n 2, 1) := by decide +kernel
theorem dX0_firstPlaceOf_3 : decode cX0_firstPlaceOf 3 = .ok (.bipush 8, 2) := by decide +kernel
theorem dX0_firstPlaceOf_5 : decode cX0_firstPlaceOf 5 = .ok (.if_icmp .ge 21, 3) := by decide +kernel
theorem dX0_firstPlaceOf_8 : decode cX0_firstPlaceOf 8 = .ok (.aload_n 0, 1) := by decide +kernel
theorem dX0_firstPlaceOf_9 : decode cX0_firstPlaceOf 9 = .ok (.getfield 15, 3) := by decide +kernel
theorem dX0_firstPlaceOf_12 : decode cX0_firstPlaceOf 12 = .ok (.iload_n 2, 1) := by decide +kernel
theorem dX0_firstPlaceOf_13 : decode cX0_firstPlaceOf 13 = .ok (.iaload, 1) := by decide +kernel
theorem dX0_firstPlaceOf_14 : decode cX0_firstPlaceOf 14 = .ok (.iload_n 1, 1) := by decide +kernel
theorem dX0_firstPlaceOf_15 : decode cX0_firstPlaceOf 15 = .ok (.if_icmp .ne 5, 3) := by decide +kernel
theorem dX0_firstPlaceOf_18 : decode cX0_firstPlaceOf 18 = .ok (.iload_n 2, 1) := by decide +kernel
theorem dX0_firstPlaceOf_19 : decode cX0_firstPlaceOf 19 = .ok (.ireturn, 1) := by decide +kernel
theorem dX0_firstPlaceOf_20 : decode cX0_firstPlaceOf 20 = .ok (.iinc 2 1, 3) := by decide +kernel
theorem dX0_firstPlaceOf_23 : decode cX0_firstPlaceOf 23 = .ok (.goto (-21), 3) := by decide +kernel
theorem dX0_firstPlaceOf_26 : decode cX0_firstPlaceOf 26 = .ok (.iconst (-1), 1) := by decide +kernel
theorem dX0_firstPlaceOf_27 : decode cX0_firstPlaceOf 27 = .ok (.ireturn, 1) := by decide +kernel
theorem dX0_lineBehind_0 : decode cX0_lineBehind 0 = .ok (.iload_n 2, 1) := by decide +kernel
theorem dX0_lineBehind_1 : decode cX0_lineBehind 1 = .ok (.bipush 23, 2) := by decide +kernel
theorem dX0_lineBehind_3 : decode cX0_lineBehind 3 = .ok (.if_icmp .ne 5, 3) := by decide +kernel
theorem dX0_lineBehind_6 : decode cX0_lineBehind 6 = .ok (.iload_n 3, 1) := by decide +kernel
theorem dX0_lineBehind_7 : decode cX0_lineBehind 7 = .ok (.ireturn, 1) := by decide +kernel
theorem dX0_lineBehind_8 : decode cX0_lineBehind 8 = .ok (.iload_n 2, 1) := by decide +kernel
theorem dX0_lineBehind_9 : decode cX0_lineBehind 9 = .ok (.bipush 24, 2) := by decide +kernel
theorem dX0_lineBehind_11 : decode cX0_lineBehind 11 = .ok (.if_icmp .ne 18, 3) := by decide +kernel
theorem dX0_lineBehind_14 : decode cX0_lineBehind 14 = .ok (.aload_n 0, 1) := by decide +kernel
theorem dX0_lineBehind_15 : decode cX0_lineBehind 15 = .ok (.getfield 9, 3) := by decide +kernel
theorem dX0_lineBehind_18 : decode cX0_lineBehind 18 = .ok (.iload_n 3, 1) := by decide +kernel
theorem dX0_lineBehind_19 : decode cX0_lineBehind 19 = .ok (.iaload, 1) := by decide +kernel
theorem dX0_lineBehind_20 : decode cX0_lineBehind 20 = .ok (.iconst 1, 1) := by decide +kernel
theorem dX0_lineBehind_21 : decode cX0_lineBehind 21 = .ok (.if_icmp .ge 8, 3) := by decide +kernel
theorem dX0_lineBehind_24 : decode cX0_lineBehind 24 = .ok (.iload 4, 2) := by decide +kernel
theorem dX0_lineBehind_26 : decode cX0_lineBehind 26 = .ok (.goto 6, 3) := by decide +kernel
theorem dX0_lineBehind_29 : decode cX0_lineBehind 29 = .ok (.iload_n 1, 1) := by decide +kernel
theorem dX0_lineBehind_30 : decode cX0_lineBehind 30 = .ok (.iconst 1, 1) := by decide +kernel
theorem dX0_lineBehind_31 : decode cX0_lineBehind 31 = .ok (.iadd, 1) := by decide +kernel
theorem dX0_lineBehind_32 : decode cX0_lineBehind 32 = .ok (.ireturn, 1) := by decide +kernel
theorem dX0_perform_0 : decode cX0_perform 0 = .ok (.iload_n 1, 1) := by decide +kernel
theorem dX0_perform_1 : decode cX0_perform 1 = .ok (.tableswitch 234 0 22 #[107, 107, 107, 117, 117, 117, 117, 117, 127, 140, 127, 127, 157, 169, 169, 169, 179, 193, 200, 200, 200, 208, 217], 107) := by decide +kernel
theorem dX0_perform_108 : decode cX0_perform 108 = .ok (.aload_n 0, 1) := by decide +kernel
theorem dX0_perform_109 : decode cX0_perform 109 = .ok (.iload_n 1, 1) := by decide +kernel
theorem dX0_perform_110 : decode cX0_perform 110 = .ok (.iload_n 2, 1) := by decide +kernel
theorem dX0_perform_111 : decode cX0_perform 111 = .ok (.iload_n 3, 1) := by decide +kernel
theorem dX0_perform_112 : decode cX0_perform 112 = .ok (.iload 4, 2) := by decide +kernel
theorem dX0_perform_114 : decode cX0_perform 114 = .ok (.invokevirtual 59, 3) := by decide +kernel
theorem dX0_perform_117 : decode cX0_perform 117 = .ok (.ireturn, 1) := by decide +kernel
theorem dX0_perform_118 : decode cX0_perform 118 = .ok (.aload_n 0, 1) := by decide +kernel
theorem dX0_perform_119 : decode cX0_perform 119 = .ok (.iload_n 1, 1) := by decide +kernel
theorem dX0_perform_120 : decode cX0_perform 120 = .ok (.iload_n 2, 1) := by decide +kernel
theorem dX0_perform_121 : decode cX0_perform 121 = .ok (.iload_n 3, 1) := by decide +kernel
theorem dX0_perform_122 : decode cX0_perform 122 = .ok (.iload 4, 2) := by decide +kernel
theorem dX0_perform_124 : decode cX0_perform 124 = .ok (.invokevirtual 63, 3) := by decide +kernel
theorem dX0_perform_127 : decode cX0_perform 127 = .ok (.ireturn, 1) := by decide +kernel
theorem dX0_perform_128 : decode cX0_perform 128 = .ok (.aload_n 0, 1) := by decide +kernel
theorem dX0_perform_129 : decode cX0_perform 129 = .ok (.iload_n 1, 1) := by decide +kernel
theorem dX0_perform_130 : decode cX0_perform 130 = .ok (.iload_n 2, 1) := by decide +kernel
theorem dX0_perform_131 : decode cX0_perform 131 = .ok (.aload_n 0, 1) := by decide +kernel
theorem dX0_perform_132 : decode cX0_perform 132 = .ok (.getfield 15, 3) := by decide +kernel
theorem dX0_perform_135 : decode cX0_perform 135 = .ok (.iload_n 3, 1) := by decide +kernel
theorem dX0_perform_136 : decode cX0_perform 136 = .ok (.iaload, 1) := by decide +kernel
theorem dX0_perform_137 : decode cX0_perform 137 = .ok (.invokevirtual 66, 3) := by decide +kernel
theorem dX0_perform_140 : decode cX0_perform 140 = .ok (.ireturn, 1) := by decide +kernel
theorem dX0_perform_141 : decode cX0_perform 141 = .ok (.aload_n 0, 1) := by decide +kernel
theorem dX0_perform_142 : decode cX0_perform 142 = .ok (.aload_n 0, 1) := by decide +kernel
theorem dX0_perform_143 : decode cX0_perform 143 = .ok (.getfield 15, 3) := by decide +kernel
theorem dX0_perform_146 : decode cX0_perform 146 = .ok (.iload_n 2, 1) := by decide +kernel
theorem dX0_perform_147 : decode cX0_perform 147 = .ok (.iaload, 1) := by decide +kernel
theorem dX0_perform_148 : decode cX0_perform 148 = .ok (.aload_n 0, 1) := by decide +kernel
theorem dX0_perform_149 : decode cX0_perform 149 = .ok (.getfield 9, 3) := by decide +kernel
theorem dX0_perform_152 : decode cX0_perform 152 = .ok (.iload_n 3, 1) := by decide +kernel
theorem dX0_perform_153 : decode cX0_perform 153 = .ok (.iaload, 1) := by decide +kernel
theorem dX0_perform_154 : decode cX0_perform 154 = .ok (.invokevirtual 70, 3) := by decide +kernel
theorem dX0_perform_157 : decode cX0_perform 157 = .ok (.ireturn, 1) := by decide +kernel
theorem dX0_perform_158 : decode cX0_perform 158 = .ok (.aload_n 0, 1) := by decide +kernel
theorem dX0_perform_159 : decode cX0_perform 159 = .ok (.aload_n 0, 1) := by decide +kernel
theorem dX0_perform_160 : decode cX0_perform 160 = .ok (.getfield 15, 3) := by decide +kernel
theorem dX0_perform_163 : decode cX0_perform 163 = .ok (.iload_n 2, 1) := by decide +kernel
theorem dX0_perform_164 : decode cX0_perform 164 = .ok (.iaload, 1) := by decide +kernel
theorem dX0_perform_165 : decode cX0_perform 165 = .ok (.iload_n 3, 1) := by decide +kernel
theorem dX0_perform_166 : decode cX0_perform 166 = .ok (.invokevirtual 74, 3) := by decide +kernel
theorem dX0_perform_169 : decode cX0_perform 169 = .ok (.ireturn, 1) := by decide +kernel
theorem dX0_perform_170 : decode cX0_perform 170 = .ok (.aload_n 0, 1) := by decide +kernel
theorem dX0_perform_171 : decode cX0_perform 171 = .ok (.iload_n 1, 1) := by decide +kernel
theorem dX0_perform_172 : decode cX0_perform 172 = .ok (.iload_n 2, 1) := by decide +kernel
theorem dX0_perform_173 : decode cX0_perform 173 = .ok (.iload_n 3, 1) := by decide +kernel
theorem dX0_perform_174 : decode cX0_perform 174 = .ok (.iload 4, 2) := by decide +kernel
theorem dX0_perform_176 : decode cX0_perform 176 = .ok (.invokevirtual 77, 3) := by decide +kernel
theorem dX0_perform_179 : decode cX0_perform 179 = .ok (.ireturn, 1) := by decide +kernel
theorem dX0_perform_180 : decode cX0_perform 180 = .ok (.aload_n 0, 1) := by decide +kernel
theorem dX0_perform_181 : decode cX0_perform 181 = .ok (.iload_n 2, 1) := by decide +kernel
theorem dX0_perform_182 : decode cX0_perform 182 = .ok (.aload_n 0, 1) := by decide +kernel
theorem dX0_perform_183 : decode cX0_perform 183 = .ok (.getfield 9, 3) := by decide +kernel
theorem dX0_perform_186 : decode cX0_perform 186 = .ok (.iload_n 3, 1) := by decide +kernel
theorem dX0_perform_187 : decode cX0_perform 187 = .ok (.iaload, 1) := by decide +kernel
theorem dX0_perform_188 : decode cX0_perform 188 = .ok (.iload 4, 2) := by decide +kernel
theorem dX0_perform_190 : decode cX0_perform 190 = .ok (.invokevirtual 80, 3) := by decide +kernel
theorem dX0_perform_193 : decode cX0_perform 193 = .ok (.ireturn, 1) := by decide +kernel
theorem dX0_perform_194 : decode cX0_perform 194 = .ok (.aload_n 0, 1) := by decide +kernel
theorem dX0_perform_195 : decode cX0_perform 195 = .ok (.iload_n 2, 1) := by decide +kernel
theorem dX0_perform_196 : decode cX0_perform 196 = .ok (.iload_n 3, 1) := by decide +kernel
theorem dX0_perform_197 : decode cX0_perform 197 = .ok (.invokevirtual 83, 3) := by decide +kernel
theorem dX0_perform_200 : decode cX0_perform 200 = .ok (.ireturn, 1) := by decide +kernel
theorem dX0_perform_201 : decode cX0_perform 201 = .ok (.aload_n 0, 1) := by decide +kernel
theorem dX0_perform_202 : decode cX0_perform 202 = .ok (.iload_n 1, 1) := by decide +kernel
theorem dX0_perform_203 : decode cX0_perform 203 = .ok (.iload_n 2, 1) := by decide +kernel
theorem dX0_perform_204 : decode cX0_perform 204 = .ok (.iload_n 3, 1) := by decide +kernel
theorem dX0_perform_205 : decode cX0_perform 205 = .ok (.invokevirtual 86, 3) := by decide +kernel
theorem dX0_perform_208 : decode cX0_perform 208 = .ok (.ireturn, 1) := by decide +kernel
theorem dX0_perform_209 : decode cX0_perform 209 = .ok (.aload_n 0, 1) := by decide +kernel
theorem dX0_perform_210 : decode cX0_perform 210 = .ok (.getfield 9, 3) := by decide +kernel
theorem dX0_perform_213 : decode cX0_perform 213 = .ok (.iload_n 2, 1) := by decide +kernel
theorem dX0_perform_214 : decode cX0_perform 214 = .ok (.iload_n 3, 1) := by decide +kernel
theorem dX0_perform_215 : decode cX0_perform 215 = .ok (.iastore, 1) := by decide +kernel
theorem dX0_perform_216 : decode cX0_perform 216 = .ok (.iconst 0, 1) := by decide +kernel
theorem dX0_perform_217 : decode cX0_perform 217 = .ok (.ireturn, 1) := by decide +kernel
theorem dX0_perform_218 : decode cX0_perform 218 = .ok (.aload_n 0, 1) := by decide +kernel
theorem dX0_perform_219 : decode cX0_perform 219 = .ok (.getfield 9, 3) := by decide +kernel
theorem dX0_perform_222 : decode cX0_perform 222 = .ok (.iload_n 2, 1) := by decide +kernel
theorem dX0_perform_223 : decode cX0_perform 223 = .ok (.dup2, 1) := by decide +kernel
theorem dX0_perform_224 : decode cX0_perform 224 = .ok (.iaload, 1) := by decide +kernel
theorem dX0_perform_225 : decode cX0_perform 225 = .ok (.aload_n 0, 1) := by decide +kernel
theorem dX0_perform_226 : decode cX0_perform 226 = .ok (.getfield 9, 3) := by decide +kernel
theorem dX0_perform_229 : decode cX0_perform 229 = .ok (.iload_n 3, 1) := by decide +kernel
theorem dX0_perform_230 : decode cX0_perform 230 = .ok (.iaload, 1) := by decide +kernel
theorem dX0_perform_231 : decode cX0_perform 231 = .ok (.iadd, 1) := by decide +kernel
theorem dX0_perform_232 : decode cX0_perform 232 = .ok (.iastore, 1) := by decide +kernel
theorem dX0_perform_233 : decode cX0_perform 233 = .ok (.iconst 0, 1) := by decide +kernel
theorem dX0_perform_234 : decode cX0_perform 234 = .ok (.ireturn, 1) := by decide +kernel
theorem dX0_perform_235 : decode cX0_perform 235 = .ok (.iconst 0, 1) := by decide +kernel
theorem dX0_perform_236 : decode cX0_perform 236 = .ok (.ireturn, 1) := by decide +kernel
theorem dX0_placeAct_0 : decode cX0_placeAct 0 = .ok (.iload_n 1, 1) := by decide +kernel
theorem dX0_placeAct_1 : decode cX0_placeAct 1 = .ok (.ifCond .ne 27, 3) := by decide +kernel
theorem dX0_placeAct_4 : decode cX0_placeAct 4 = .ok (.aload_n 0, 1) := by decide +kernel
theorem dX0_placeAct_5 : decode cX0_placeAct 5 = .ok (.getfield 15, 3) := by decide +kernel
theorem dX0_placeAct_8 : decode cX0_placeAct 8 = .ok (.iload_n 2, 1) := by decide +kernel
theorem dX0_placeAct_9 : decode cX0_placeAct 9 = .ok (.aload_n 0, 1) := by decide +kernel
theorem dX0_placeAct_10 : decode cX0_placeAct 10 = .ok (.getfield 21, 3) := by decide +kernel
theorem dX0_placeAct_13 : decode cX0_placeAct 13 = .ok (.iload_n 3, 1) := by decide +kernel
theorem dX0_placeAct_14 : decode cX0_placeAct 14 = .ok (.aload_n 0, 1) := by decide +kernel
theorem dX0_placeAct_15 : decode cX0_placeAct 15 = .ok (.getfield 9, 3) := by decide +kernel
theorem dX0_placeAct_18 : decode cX0_placeAct 18 = .ok (.iload 4, 2) := by decide +kernel
theorem dX0_placeAct_20 : decode cX0_placeAct 20 = .ok (.iaload, 1) := by decide +kernel
theorem dX0_placeAct_21 : decode cX0_placeAct 21 = .ok (.invokevirtual 89, 3) := by decide +kernel
theorem dX0_placeAct_24 : decode cX0_placeAct 24 = .ok (.iastore, 1) := by decide +kernel
theorem dX0_placeAct_25 : decode cX0_placeAct 25 = .ok (.goto 30, 3) := by decide +kernel
theorem dX0_placeAct_28 : decode cX0_placeAct 28 = .ok (.iload_n 1, 1) := by decide +kernel
theorem dX0_placeAct_29 : decode cX0_placeAct 29 = .ok (.iconst 1, 1) := by decide +kernel
theorem dX0_placeAct_30 : decode cX0_placeAct 30 = .ok (.if_icmp .ne 13, 3) := by decide +kernel
theorem dX0_placeAct_33 : decode cX0_placeAct 33 = .ok (.aload_n 0, 1) := by decide +kernel
theorem dX0_placeAct_34 : decode cX0_placeAct 34 = .ok (.getfield 15, 3) := by decide +kernel
theorem dX0_placeAct_37 : decode cX0_placeAct 37 = .ok (.iload_n 2, 1) := by decide +kernel
theorem dX0_placeAct_38 : decode cX0_placeAct 38 = .ok (.iconst (-1), 1) := by decide +kernel
theorem dX0_placeAct_39 : decode cX0_placeAct 39 = .ok (.iastore, 1) := by decide +kernel
theorem dX0_placeAct_40 : decode cX0_placeAct 40 = .ok (.goto 15, 3) := by decide +kernel
theorem dX0_placeAct_43 : decode cX0_placeAct 43 = .ok (.aload_n 0, 1) := by decide +kernel
theorem dX0_placeAct_44 : decode cX0_placeAct 44 = .ok (.getfield 15, 3) := by decide +kernel
theorem dX0_placeAct_47 : decode cX0_placeAct 47 = .ok (.iload_n 2, 1) := by decide +kernel
theorem dX0_placeAct_48 : decode cX0_placeAct 48 = .ok (.aload_n 0, 1) := by decide +kernel
theorem dX0_placeAct_49 : decode cX0_placeAct 49 = .ok (.getfield 15, 3) := by decide +kernel
theorem dX0_placeAct_52 : decode cX0_placeAct 52 = .ok (.iload_n 3, 1) := by decide +kernel
theorem dX0_placeAct_53 : decode cX0_placeAct 53 = .ok (.iaload, 1) := by decide +kernel
theorem dX0_placeAct_54 : decode cX0_placeAct 54 = .ok (.iastore, 1) := by decide +kernel
theorem dX0_placeAct_55 : decode cX0_placeAct 55 = .ok (.iconst 0, 1) := by decide +kernel
theorem dX0_placeAct_56 : decode cX0_placeAct 56 = .ok (.ireturn, 1) := by decide +kernel
theorem dX0_beltAct_0 : decode cX0_beltAct 0 = .ok (.iload_n 1, 1) := by decide +kernel
theorem dX0_beltAct_1 : decode cX0_beltAct 1 = .ok (.tableswitch 105 3 6 #[31, 50, 74, 93], 31) := by decide +kernel
theorem dX0_beltAct_32 : decode cX0_beltAct 32 = .ok (.aload_n 0, 1) := by decide +kernel
theorem dX0_beltAct_33 : decode cX0_beltAct 33 = .ok (.getfield 27, 3) := by decide +kernel
theorem dX0_beltAct_36 : decode cX0_beltAct 36 = .ok (.iload_n 2, 1) := by decide +kernel
theorem dX0_beltAct_37 : decode cX0_beltAct 37 = .ok (.aaload, 1) := by decide +kernel
theorem dX0_beltAct_38 : decode cX0_beltAct 38 = .ok (.iload_n 3, 1) := by decide +kernel
theorem dX0_beltAct_39 : decode cX0_beltAct 39 = .ok (.aload_n 0, 1) := by decide +kernel
theorem dX0_beltAct_40 : decode cX0_beltAct 40 = .ok (.getfield 9, 3) := by decide +kernel
theorem dX0_beltAct_43 : decode cX0_beltAct 43 = .ok (.iload 4, 2) := by decide +kernel
theorem dX0_beltAct_45 : decode cX0_beltAct 45 = .ok (.iaload, 1) := by decide +kernel
theorem dX0_beltAct_46 : decode cX0_beltAct 46 = .ok (.iconst (-1), 1) := by decide +kernel
theorem dX0_beltAct_47 : decode cX0_beltAct 47 = .ok (.invokevirtual 92, 3) := by decide +kernel
theorem dX0_beltAct_50 : decode cX0_beltAct 50 = .ok (.ireturn, 1) := by decide +kernel
theorem dX0_beltAct_51 : decode cX0_beltAct 51 = .ok (.aload_n 0, 1) := by decide +kernel
theorem dX0_beltAct_52 : decode cX0_beltAct 52 = .ok (.aload_n 0, 1) := by decide +kernel
theorem dX0_beltAct_53 : decode cX0_beltAct 53 = .ok (.getfield 27, 3) := by decide +kernel
theorem dX0_beltAct_56 : decode cX0_beltAct 56 = .ok (.iload_n 2, 1) := by decide +kernel
theorem dX0_beltAct_57 : decode cX0_beltAct 57 = .ok (.aaload, 1) := by decide +kernel
theorem dX0_beltAct_58 : decode cX0_beltAct 58 = .ok (.aload_n 0, 1) := by decide +kernel
theorem dX0_beltAct_59 : decode cX0_beltAct 59 = .ok (.getfield 9, 3) := by decide +kernel
theorem dX0_beltAct_62 : decode cX0_beltAct 62 = .ok (.iload_n 3, 1) := by decide +kernel
theorem dX0_beltAct_63 : decode cX0_beltAct 63 = .ok (.iaload, 1) := by decide +kernel
theorem dX0_beltAct_64 : decode cX0_beltAct 64 = .ok (.aload_n 0, 1) := by decide +kernel
theorem dX0_beltAct_65 : decode cX0_beltAct 65 = .ok (.getfield 15, 3) := by decide +kernel
theorem dX0_beltAct_68 : decode cX0_beltAct 68 = .ok (.iload 4, 2) := by decide +kernel
theorem dX0_beltAct_70 : decode cX0_beltAct 70 = .ok (.iaload, 1) := by decide +kernel
theorem dX0_beltAct_71 : decode cX0_beltAct 71 = .ok (.invokevirtual 95, 3) := by decide +kernel
theorem dX0_beltAct_74 : decode cX0_beltAct 74 = .ok (.ireturn, 1) := by decide +kernel
theorem dX0_beltAct_75 : decode cX0_beltAct 75 = .ok (.aload_n 0, 1) := by decide +kernel
theorem dX0_beltAct_76 : decode cX0_beltAct 76 = .ok (.iload_n 2, 1) := by decide +kernel
theorem dX0_beltAct_77 : decode cX0_beltAct 77 = .ok (.aload_n 0, 1) := by decide +kernel
theorem dX0_beltAct_78 : decode cX0_beltAct 78 = .ok (.getfield 27, 3) := by decide +kernel
theorem dX0_beltAct_81 : decode cX0_beltAct 81 = .ok (.iload_n 3, 1) := by decide +kernel
theorem dX0_beltAct_82 : decode cX0_beltAct 82 = .ok (.aaload, 1) := by decide +kernel
theorem dX0_beltAct_83 : decode cX0_beltAct 83 = .ok (.aload_n 0, 1) := by decide +kernel
theorem dX0_beltAct_84 : decode cX0_beltAct 84 = .ok (.getfield 9, 3) := by decide +kernel
theorem dX0_beltAct_87 : decode cX0_beltAct 87 = .ok (.iload 4, 2) := by decide +kernel
theorem dX0_beltAct_89 : decode cX0_beltAct 89 = .ok (.iaload, 1) := by decide +kernel
theorem dX0_beltAct_90 : decode cX0_beltAct 90 = .ok (.invokevirtual 99, 3) := by decide +kernel
theorem dX0_beltAct_93 : decode cX0_beltAct 93 = .ok (.ireturn, 1) := by decide +kernel
theorem dX0_beltAct_94 : decode cX0_beltAct 94 = .ok (.aload_n 0, 1) := by decide +kernel
theorem dX0_beltAct_95 : decode cX0_beltAct 95 = .ok (.iload_n 2, 1) := by decide +kernel
theorem dX0_beltAct_96 : decode cX0_beltAct 96 = .ok (.aload_n 0, 1) := by decide +kernel
theorem dX0_beltAct_97 : decode cX0_beltAct 97 = .ok (.getfield 27, 3) := by decide +kernel
theorem dX0_beltAct_100 : decode cX0_beltAct 100 = .ok (.iload_n 3, 1) := by decide +kernel
theorem dX0_beltAct_101 : decode cX0_beltAct 101 = .ok (.aaload, 1) := by decide +kernel
theorem dX0_beltAct_102 : decode cX0_beltAct 102 = .ok (.invokevirtual 103, 3) := by decide +kernel
theorem dX0_beltAct_105 : decode cX0_beltAct 105 = .ok (.ireturn, 1) := by decide +kernel
theorem dX0_beltAct_106 : decode cX0_beltAct 106 = .ok (.aload_n 0, 1) := by decide +kernel
theorem dX0_beltAct_107 : decode cX0_beltAct 107 = .ok (.getfield 27, 3) := by decide +kernel
theorem dX0_beltAct_110 : decode cX0_beltAct 110 = .ok (.iload_n 2, 1) := by decide +kernel
theorem dX0_beltAct_111 : decode cX0_beltAct 111 = .ok (.aaload, 1) := by decide +kernel
theorem dX0_beltAct_112 : decode cX0_beltAct 112 = .ok (.invokevirtual 56, 3) := by decide +kernel
theorem dX0_beltAct_115 : decode cX0_beltAct 115 = .ok (.iconst 0, 1) := by decide +kernel
theorem dX0_beltAct_116 : decode cX0_beltAct 116 = .ok (.ireturn, 1) := by decide +kernel
theorem dX0_lay_0 : decode cX0_lay 0 = .ok (.aload_n 1, 1) := by decide +kernel
theorem dX0_lay_1 : decode cX0_lay 1 = .ok (.iload_n 2, 1) := by decide +kernel
theorem dX0_lay_2 : decode cX0_lay 2 = .ok (.invokevirtual 107, 3) := by decide +kernel
theorem dX0_lay_5 : decode cX0_lay 5 = .ok (.istore 4, 2) := by decide +kernel
theorem dX0_lay_7 : decode cX0_lay 7 = .ok (.iload 4, 2) := by decide +kernel
theorem dX0_lay_9 : decode cX0_lay 9 = .ok (.ifCond .eq 6, 3) := by decide +kernel
theorem dX0_lay_12 : decode cX0_lay 12 = .ok (.iload 4, 2) := by decide +kernel
theorem dX0_lay_14 : decode cX0_lay 14 = .ok (.ireturn, 1) := by decide +kernel
theorem dX0_lay_15 : decode cX0_lay 15 = .ok (.aload_n 0, 1) := by decide +kernel
theorem dX0_lay_16 : decode cX0_lay 16 = .ok (.getfield 21, 3) := by decide +kernel
theorem dX0_lay_19 : decode cX0_lay 19 = .ok (.iload_n 3, 1) := by decide +kernel
theorem dX0_lay_20 : decode cX0_lay 20 = .ok (.invokevirtual 111, 3) := by decide +kernel
theorem dX0_lay_23 : decode cX0_lay 23 = .ok (.ifCond .eq 24, 3) := by decide +kernel
theorem dX0_lay_26 : decode cX0_lay 26 = .ok (.aload_n 0, 1) := by decide +kernel
theorem dX0_lay_27 : decode cX0_lay 27 = .ok (.getfield 21, 3) := by decide +kernel
theorem dX0_lay_30 : decode cX0_lay 30 = .ok (.getfield 115, 3) := by decide +kernel
theorem dX0_lay_33 : decode cX0_lay 33 = .ok (.iload_n 3, 1) := by decide +kernel
theorem dX0_lay_34 : decode cX0_lay 34 = .ok (.iaload, 1) := by decide +kernel
theorem dX0_lay_35 : decode cX0_lay 35 = .ok (.aload_n 1, 1) := by decide +kernel
theorem dX0_lay_36 : decode cX0_lay 36 = .ok (.getfield 118, 3) := by decide +kernel
theorem dX0_lay_39 : decode cX0_lay 39 = .ok (.invokestatic 121, 3) := by decide +kernel
theorem dX0_lay_42 : decode cX0_lay 42 = .ok (.ifCond .ne 5, 3) := by decide +kernel
theorem dX0_lay_45 : decode cX0_lay 45 = .ok (.iconst 5, 1) := by decide +kernel
theorem dX0_lay_46 : decode cX0_lay 46 = .ok (.ireturn, 1) := by decide +kernel
theorem dX0_lay_47 : decode cX0_lay 47 = .ok (.aload_n 1, 1) := by decide +kernel
theorem dX0_lay_48 : decode cX0_lay 48 = .ok (.getfield 125, 3) := by decide +kernel
theorem dX0_lay_51 : decode cX0_lay 51 = .ok (.iload_n 2, 1) := by decide +kernel
theorem dX0_lay_52 : decode cX0_lay 52 = .ok (.iload_n 3, 1) := by decide +kernel
theorem dX0_lay_53 : decode cX0_lay 53 = .ok (.iastore, 1) := by decide +kernel
theorem dX0_lay_54 : decode cX0_lay 54 = .ok (.iconst 0, 1) := by decide +kernel
theorem dX0_lay_55 : decode cX0_lay 55 = .ok (.ireturn, 1) := by decide +kernel
theorem dX0_pick_0 : decode cX0_pick 0 = .ok (.aload_n 2, 1) := by decide +kernel
theorem dX0_pick_1 : decode cX0_pick 1 = .ok (.iload_n 3, 1) := by decide +kernel
theorem dX0_pick_2 : decode cX0_pick 2 = .ok (.invokevirtual 107, 3) := by decide +kernel
theorem dX0_pick_5 : decode cX0_pick 5 = .ok (.istore 4, 2) := by decide +kernel
theorem dX0_pick_7 : decode cX0_pick 7 = .ok (.iload 4, 2) := by decide +kernel
theorem dX0_pick_9 : decode cX0_pick 9 = .ok (.ifCond .ne 15, 3) := by decide +kernel
theorem dX0_pick_12 : decode cX0_pick 12 = .ok (.aload_n 0, 1) := by decide +kernel
theorem dX0_pick_13 : decode cX0_pick 13 = .ok (.getfield 15, 3) := by decide +kernel
theorem dX0_pick_16 : decode cX0_pick 16 = .ok (.iload_n 1, 1) := by decide +kernel
theorem dX0_pick_17 : decode cX0_pick 17 = .ok (.aload_n 2, 1) := by decide +kernel
theorem dX0_pick_18 : decode cX0_pick 18 = .ok (.getfield 125, 3) := by decide +kernel
theorem dX0_pick_21 : decode cX0_pick 21 = .ok (.iload_n 3, 1) := by decide +kernel
theorem dX0_pick_22 : decode cX0_pick 22 = .ok (.iaload, 1) := by decide +kernel
theorem dX0_pick_23 : decode cX0_pick 23 = .ok (.iastore, 1) := by decide +kernel
theorem dX0_pick_24 : decode cX0_pick 24 = .ok (.iload 4, 2) := by decide +kernel
theorem dX0_pick_26 : decode cX0_pick 26 = .ok (.ireturn, 1) := by decide +kernel
theorem dX0_measure_0 : decode cX0_measure 0 = .ok (.aload_n 2, 1) := by decide +kernel
theorem dX0_measure_1 : decode cX0_measure 1 = .ok (.invokevirtual 128, 3) := by decide +kernel
theorem dX0_measure_4 : decode cX0_measure 4 = .ok (.ifCond .ne 5, 3) := by decide +kernel
theorem dX0_measure_7 : decode cX0_measure 7 = .ok (.iconst 1, 1) := by decide +kernel
theorem dX0_measure_8 : decode cX0_measure 8 = .ok (.ireturn, 1) := by decide +kernel
theorem dX0_measure_9 : decode cX0_measure 9 = .ok (.aload_n 0, 1) := by decide +kernel
theorem dX0_measure_10 : decode cX0_measure 10 = .ok (.getfield 9, 3) := by decide +kernel
theorem dX0_measure_13 : decode cX0_measure 13 = .ok (.iload_n 1, 1) := by decide +kernel
theorem dX0_measure_14 : decode cX0_measure 14 = .ok (.aload_n 2, 1) := by decide +kernel
theorem dX0_measure_15 : decode cX0_measure 15 = .ok (.getfield 132, 3) := by decide +kernel
theorem dX0_measure_18 : decode cX0_measure 18 = .ok (.iastore, 1) := by decide +kernel
theorem dX0_measure_19 : decode cX0_measure 19 = .ok (.iconst 0, 1) := by decide +kernel
theorem dX0_measure_20 : decode cX0_measure 20 = .ok (.ireturn, 1) := by decide +kernel
theorem dX0_askItem_0 : decode cX0_askItem 0 = .ok (.aload_n 0, 1) := by decide +kernel
theorem dX0_askItem_1 : decode cX0_askItem 1 = .ok (.getfield 21, 3) := by decide +kernel
theorem dX0_askItem_4 : decode cX0_askItem 4 = .ok (.iload_n 3, 1) := by decide +kernel
theorem dX0_askItem_5 : decode cX0_askItem 5 = .ok (.invokevirtual 111, 3) := by decide +kernel
theorem dX0_askItem_8 : decode cX0_askItem 8 = .ok (.ifCond .ne 5, 3) := by decide +kernel
theorem dX0_askItem_11 : decode cX0_askItem 11 = .ok (.iconst 1, 1) := by decide +kernel
theorem dX0_askItem_12 : decode cX0_askItem 12 = .ok (.ireturn, 1) := by decide +kernel
theorem dX0_askItem_13 : decode cX0_askItem 13 = .ok (.iload_n 1, 1) := by decide +kernel
theorem dX0_askItem_14 : decode cX0_askItem 14 = .ok (.bipush 8, 2) := by decide +kernel
theorem dX0_askItem_16 : decode cX0_askItem 16 = .ok (.if_icmp .ne 21, 3) := by decide +kernel
theorem dX0_askItem_19 : decode cX0_askItem 19 = .ok (.aload_n 0, 1) := by decide +kernel
theorem dX0_askItem_20 : decode cX0_askItem 20 = .ok (.getfield 9, 3) := by decide +kernel
theorem dX0_askItem_23 : decode cX0_askItem 23 = .ok (.iload_n 2, 1) := by decide +kernel
theorem dX0_askItem_24 : decode cX0_askItem 24 = .ok (.aload_n 0, 1) := by decide +kernel
theorem dX0_askItem_25 : decode cX0_askItem 25 = .ok (.getfield 21, 3) := by decide +kernel
theorem dX0_askItem_28 : decode cX0_askItem 28 = .ok (.getfield 135, 3) := by decide +kernel
theorem dX0_askItem_31 : decode cX0_askItem 31 = .ok (.iload_n 3, 1) := by decide +kernel
theorem dX0_askItem_32 : decode cX0_askItem 32 = .ok (.iaload, 1) := by decide +kernel
theorem dX0_askItem_33 : decode cX0_askItem 33 = .ok (.iastore, 1) := by decide +kernel
theorem dX0_askItem_34 : decode cX0_askItem 34 = .ok (.goto 56, 3) := by decide +kernel
theorem dX0_askItem_37 : decode cX0_askItem 37 = .ok (.iload_n 1, 1) := by decide +kernel
theorem dX0_askItem_38 : decode cX0_askItem 38 = .ok (.bipush 10, 2) := by decide +kernel
theorem dX0_askItem_40 : decode cX0_askItem 40 = .ok (.if_icmp .ne 20, 3) := by decide +kernel
theorem dX0_askItem_43 : decode cX0_askItem 43 = .ok (.aload_n 0, 1) := by decide +kernel
theorem dX0_askItem_44 : decode cX0_askItem 44 = .ok (.getfield 9, 3) := by decide +kernel
theorem dX0_askItem_47 : decode cX0_askItem 47 = .ok (.iload_n 2, 1) := by decide +kernel
theorem dX0_askItem_48 : decode cX0_askItem 48 = .ok (.aload_n 0, 1) := by decide +kernel
theorem dX0_askItem_49 : decode cX0_askItem 49 = .ok (.getfield 21, 3) := by decide +kernel
theorem dX0_askItem_52 : decode cX0_askItem 52 = .ok (.iload_n 3, 1) := by decide +kernel
theorem dX0_askItem_53 : decode cX0_askItem 53 = .ok (.invokevirtual 138, 3) := by decide +kernel
theorem dX0_askItem_56 : decode cX0_askItem 56 = .ok (.iastore, 1) := by decide +kernel
theorem dX0_askItem_57 : decode cX0_askItem 57 = .ok (.goto 33, 3) := by decide +kernel
theorem dX0_askItem_60 : decode cX0_askItem 60 = .ok (.aload_n 0, 1) := by decide +kernel
theorem dX0_askItem_61 : decode cX0_askItem 61 = .ok (.getfield 21, 3) := by decide +kernel
theorem dX0_askItem_64 : decode cX0_askItem 64 = .ok (.iload_n 3, 1) := by decide +kernel
theorem dX0_askItem_65 : decode cX0_askItem 65 = .ok (.invokevirtual 141, 3) := by decide +kernel
theorem dX0_askItem_68 : decode cX0_askItem 68 = .ok (.ifCond .eq 20, 3) := by decide +kernel
theorem dX0_askItem_71 : decode cX0_askItem 71 = .ok (.aload_n 0, 1) := by decide +kernel
theorem dX0_askItem_72 : decode cX0_askItem 72 = .ok (.getfield 9, 3) := by decide +kernel
theorem dX0_askItem_75 : decode cX0_askItem 75 = .ok (.iload_n 2, 1) := by decide +kernel
theorem dX0_askItem_76 : decode cX0_askItem 76 = .ok (.aload_n 0, 1) := by decide +kernel
theorem dX0_askItem_77 : decode cX0_askItem 77 = .ok (.getfield 21, 3) := by decide +kernel
theorem dX0_askItem_80 : decode cX0_askItem 80 = .ok (.iload_n 3, 1) := by decide +kernel
theorem dX0_askItem_81 : decode cX0_askItem 81 = .ok (.invokevirtual 144, 3) := by decide +kernel
theorem dX0_askItem_84 : decode cX0_askItem 84 = .ok (.iastore, 1) := by decide +kernel
theorem dX0_askItem_85 : decode cX0_askItem 85 = .ok (.goto 5, 3) := by decide +kernel
theorem dX0_askItem_88 : decode cX0_askItem 88 = .ok (.iconst 4, 1) := by decide +kernel
theorem dX0_askItem_89 : decode cX0_askItem 89 = .ok (.ireturn, 1) := by decide +kernel
theorem dX0_askItem_90 : decode cX0_askItem 90 = .ok (.iconst 0, 1) := by decide +kernel
theorem dX0_askItem_91 : decode cX0_askItem 91 = .ok (.ireturn, 1) := by decide +kernel
theorem dX0_load_0 : decode cX0_load 0 = .ok (.aload_n 0, 1) := by decide +kernel
theorem dX0_load_1 : decode cX0_load 1 = .ok (.getfield 21, 3) := by decide +kernel
theorem dX0_load_4 : decode cX0_load 4 = .ok (.iload_n 1, 1) := by decide +kernel
theorem dX0_load_5 : decode cX0_load 5 = .ok (.invokevirtual 111, 3) := by decide +kernel
theorem dX0_load_8 : decode cX0_load 8 = .ok (.ifCond .ne 5, 3) := by decide +kernel
theorem dX0_load_11 : decode cX0_load 11 = .ok (.iconst 1, 1) := by decide +kernel
theorem dX0_load_12 : decode cX0_load 12 = .ok (.ireturn, 1) := by decide +kernel
theorem dX0_load_13 : decode cX0_load 13 = .ok (.aload_n 0, 1) := by decide +kernel
theorem dX0_load_14 : decode cX0_load 14 = .ok (.getfield 21, 3) := by decide +kernel
theorem dX0_load_17 : decode cX0_load 17 = .ok (.getfield 135, 3) := by decide +kernel
theorem dX0_load_20 : decode cX0_load 20 = .ok (.iload_n 1, 1) := by decide +kernel
theorem dX0_load_21 : decode cX0_load 21 = .ok (.iload_n 2, 1) := by decide +kernel
theorem dX0_load_22 : decode cX0_load 22 = .ok (.iastore, 1) := by decide +kernel
theorem dX0_load_23 : decode cX0_load 23 = .ok (.iconst 0, 1) := by decide +kernel
theorem dX0_load_24 : decode cX0_load 24 = .ok (.ireturn, 1) := by decide +kernel
theorem dX0_asKind_0 : decode cX0_asKind 0 = .ok (.aload_n 0, 1) := by decide +kernel
theorem dX0_asKind_1 : decode cX0_asKind 1 = .ok (.getfield 21, 3) := by decide +kernel
theorem dX0_asKind_4 : decode cX0_asKind 4 = .ok (.iload_n 1, 1) := by decide +kernel
theorem dX0_asKind_5 : decode cX0_asKind 5 = .ok (.invokevirtual 111, 3) := by decide +kernel
theorem dX0_asKind_8 : decode cX0_asKind 8 = .ok (.ifCond .eq 19, 3) := by decide +kernel
theorem dX0_asKind_11 : decode cX0_asKind 11 = .ok (.aload_n 0, 1) := by decide +kernel
theorem dX0_asKind_12 : decode cX0_asKind 12 = .ok (.getfield 21, 3) := by decide +kernel
theorem dX0_asKind_15 : decode cX0_asKind 15 = .ok (.getfield 115, 3) := by decide +kernel
theorem dX0_asKind_18 : decode cX0_asKind 18 = .ok (.iload_n 1, 1) := by decide +kernel
theorem dX0_asKind_19 : decode cX0_asKind 19 = .ok (.iaload, 1) := by decide +kernel
theorem dX0_asKind_20 : decode cX0_asKind 20 = .ok (.iload_n 2, 1) := by decide +kernel
theorem dX0_asKind_21 : decode cX0_asKind 21 = .ok (.invokestatic 121, 3) := by decide +kernel
theorem dX0_asKind_24 : decode cX0_asKind 24 = .ok (.ifCond .eq 7, 3) := by decide +kernel
theorem dX0_asKind_27 : decode cX0_asKind 27 = .ok (.iconst 1, 1) := by decide +kernel
theorem dX0_asKind_28 : decode cX0_asKind 28 = .ok (.goto 4, 3) := by decide +kernel
theorem dX0_asKind_31 : decode cX0_asKind 31 = .ok (.iconst 0, 1) := by decide +kernel
theorem dX0_asKind_32 : decode cX0_asKind 32 = .ok (.istore_n 3, 1) := by decide +kernel
theorem dX0_asKind_33 : decode cX0_asKind 33 = .ok (.iload_n 3, 1) := by decide +kernel
theorem dX0_asKind_34 : decode cX0_asKind 34 = .ok (.ifCond .eq 7, 3) := by decide +kernel
theorem dX0_asKind_37 : decode cX0_asKind 37 = .ok (.iconst 0, 1) := by decide +kernel
theorem dX0_asKind_38 : decode cX0_asKind 38 = .ok (.goto 4, 3) := by decide +kernel
theorem dX0_asKind_41 : decode cX0_asKind 41 = .ok (.iconst 4, 1) := by decide +kernel
theorem dX0_asKind_42 : decode cX0_asKind 42 = .ok (.ireturn, 1) := by decide +kernel
theorem dX0_counterAct_0 : decode cX0_counterAct 0 = .ok (.iload_n 1, 1) := by decide +kernel
theorem dX0_counterAct_1 : decode cX0_counterAct 1 = .ok (.bipush 13, 2) := by decide +kernel
theorem dX0_counterAct_3 : decode cX0_counterAct 3 = .ok (.if_icmp .ne 21, 3) := by decide +kernel
theorem dX0_counterAct_6 : decode cX0_counterAct 6 = .ok (.aload_n 0, 1) := by decide +kernel
theorem dX0_counterAct_7 : decode cX0_counterAct 7 = .ok (.getfield 31, 3) := by decide +kernel
theorem dX0_counterAct_10 : decode cX0_counterAct 10 = .ok (.iload_n 2, 1) := by decide +kernel
theorem dX0_counterAct_11 : decode cX0_counterAct 11 = .ok (.aaload, 1) := by decide +kernel
theorem dX0_counterAct_12 : decode cX0_counterAct 12 = .ok (.iconst (-1), 1) := by decide +kernel
theorem dX0_counterAct_13 : decode cX0_counterAct 13 = .ok (.aload_n 0, 1) := by decide +kernel
theorem dX0_counterAct_14 : decode cX0_counterAct 14 = .ok (.getfield 9, 3) := by decide +kernel
theorem dX0_counterAct_17 : decode cX0_counterAct 17 = .ok (.iload_n 3, 1) := by decide +kernel
theorem dX0_counterAct_18 : decode cX0_counterAct 18 = .ok (.iaload, 1) := by decide +kernel
theorem dX0_counterAct_19 : decode cX0_counterAct 19 = .ok (.iconst 0, 1) := by decide +kernel
theorem dX0_counterAct_20 : decode cX0_counterAct 20 = .ok (.invokevirtual 92, 3) := by decide +kernel
theorem dX0_counterAct_23 : decode cX0_counterAct 23 = .ok (.ireturn, 1) := by decide +kernel
theorem dX0_counterAct_24 : decode cX0_counterAct 24 = .ok (.iload_n 1, 1) := by decide +kernel
theorem dX0_counterAct_25 : decode cX0_counterAct 25 = .ok (.bipush 14, 2) := by decide +kernel
theorem dX0_counterAct_27 : decode cX0_counterAct 27 = .ok (.if_icmp .ne 22, 3) := by decide +kernel
theorem dX0_counterAct_30 : decode cX0_counterAct 30 = .ok (.aload_n 0, 1) := by decide +kernel
theorem dX0_counterAct_31 : decode cX0_counterAct 31 = .ok (.aload_n 0, 1) := by decide +kernel
theorem dX0_counterAct_32 : decode cX0_counterAct 32 = .ok (.getfield 31, 3) := by decide +kernel
theorem dX0_counterAct_35 : decode cX0_counterAct 35 = .ok (.iload_n 2, 1) := by decide +kernel
theorem dX0_counterAct_36 : decode cX0_counterAct 36 = .ok (.aaload, 1) := by decide +kernel
theorem dX0_counterAct_37 : decode cX0_counterAct 37 = .ok (.aload_n 0, 1) := by decide +kernel
theorem dX0_counterAct_38 : decode cX0_counterAct 38 = .ok (.getfield 9, 3) := by decide +kernel
theorem dX0_counterAct_41 : decode cX0_counterAct 41 = .ok (.iload_n 3, 1) := by decide +kernel
theorem dX0_counterAct_42 : decode cX0_counterAct 42 = .ok (.iaload, 1) := by decide +kernel
theorem dX0_counterAct_43 : decode cX0_counterAct 43 = .ok (.invokevirtual 147, 3) := by decide +kernel
theorem dX0_counterAct_46 : decode cX0_counterAct 46 = .ok (.goto 21, 3) := by decide +kernel
theorem dX0_counterAct_49 : decode cX0_counterAct 49 = .ok (.aload_n 0, 1) := by decide +kernel
theorem dX0_counterAct_50 : decode cX0_counterAct 50 = .ok (.iload_n 2, 1) := by decide +kernel
theorem dX0_counterAct_51 : decode cX0_counterAct 51 = .ok (.aload_n 0, 1) := by decide +kernel
theorem dX0_counterAct_52 : decode cX0_counterAct 52 = .ok (.getfield 31, 3) := by decide +kernel
theorem dX0_counterAct_55 : decode cX0_counterAct 55 = .ok (.iload_n 3, 1) := by decide +kernel
theorem dX0_counterAct_56 : decode cX0_counterAct 56 = .ok (.aaload, 1) := by decide +kernel
theorem dX0_counterAct_57 : decode cX0_counterAct 57 = .ok (.aload_n 0, 1) := by decide +kernel
theorem dX0_counterAct_58 : decode cX0_counterAct 58 = .ok (.getfield 9, 3) := by decide +kernel
theorem dX0_counterAct_61 : decode cX0_counterAct 61 = .ok (.iload 4, 2) := by decide +kernel
theorem dX0_counterAct_63 : decode cX0_counterAct 63 = .ok (.iaload, 1) := by decide +kernel
theorem dX0_counterAct_64 : decode cX0_counterAct 64 = .ok (.invokevirtual 151, 3) := by decide +kernel
theorem dX0_counterAct_67 : decode cX0_counterAct 67 = .ok (.ireturn, 1) := by decide +kernel
theorem dX0_count_0 : decode cX0_count 0 = .ok (.aload_n 1, 1) := by decide +kernel
theorem dX0_count_1 : decode cX0_count 1 = .ok (.iload_n 2, 1) := by decide +kernel
theorem dX0_count_2 : decode cX0_count 2 = .ok (.invokevirtual 107, 3) := by decide +kernel
theorem dX0_count_5 : decode cX0_count 5 = .ok (.istore_n 3, 1) := by decide +kernel
theorem dX0_count_6 : decode cX0_count 6 = .ok (.iload_n 3, 1) := by decide +kernel
theorem dX0_count_7 : decode cX0_count 7 = .ok (.ifCond .ne 13, 3) := by decide +kernel
theorem dX0_count_10 : decode cX0_count 10 = .ok (.aload_n 1, 1) := by decide +kernel
theorem dX0_count_11 : decode cX0_count 11 = .ok (.getfield 125, 3) := by decide +kernel
theorem dX0_count_14 : decode cX0_count 14 = .ok (.iload_n 2, 1) := by decide +kernel
theorem dX0_count_15 : decode cX0_count 15 = .ok (.dup2, 1) := by decide +kernel
theorem dX0_count_16 : decode cX0_count 16 = .ok (.iaload, 1) := by decide +kernel
theorem dX0_count_17 : decode cX0_count 17 = .ok (.iconst 1, 1) := by decide +kernel
theorem dX0_count_18 : decode cX0_count 18 = .ok (.iadd, 1) := by decide +kernel
theorem dX0_count_19 : decode cX0_count 19 = .ok (.iastore, 1) := by decide +kernel
theorem dX0_count_20 : decode cX0_count 20 = .ok (.iload_n 3, 1) := by decide +kernel
theorem dX0_count_21 : decode cX0_count 21 = .ok (.ireturn, 1) := by decide +kernel
theorem dX0_readCount_0 : decode cX0_readCount 0 = .ok (.aload_n 2, 1) := by decide +kernel
theorem dX0_readCount_1 : decode cX0_readCount 1 = .ok (.iload_n 3, 1) := by decide +kernel
theorem dX0_readCount_2 : decode cX0_readCount 2 = .ok (.invokevirtual 107, 3) := by decide +kernel
theorem dX0_readCount_5 : decode cX0_readCount 5 = .ok (.istore 4, 2) := by decide +kernel
theorem dX0_readCount_7 : decode cX0_readCount 7 = .ok (.iload 4, 2) := by decide +kernel
theorem dX0_readCount_9 : decode cX0_readCount 9 = .ok (.ifCond .ne 15, 3) := by decide +kernel
theorem dX0_readCount_12 : decode cX0_readCount 12 = .ok (.aload_n 0, 1) := by decide +kernel
theorem dX0_readCount_13 : decode cX0_readCount 13 = .ok (.getfield 9, 3) := by decide +kernel
theorem dX0_readCount_16 : decode cX0_readCount 16 = .ok (.iload_n 1, 1) := by decide +kernel
theorem dX0_readCount_17 : decode cX0_readCount 17 = .ok (.aload_n 2, 1) := by decide +kernel
theorem dX0_readCount_18 : decode cX0_readCount 18 = .ok (.getfield 125, 3) := by decide +kernel
theorem dX0_readCount_21 : decode cX0_readCount 21 = .ok (.iload_n 3, 1) := by decide +kernel
theorem dX0_readCount_22 : decode cX0_readCount 22 = .ok (.iaload, 1) := by decide +kernel
theorem dX0_readCount_23 : decode cX0_readCount 23 = .ok (.iastore, 1) := by decide +kernel
theorem dX0_readCount_24 : decode cX0_readCount 24 = .ok (.iload 4, 2) := by decide +kernel
theorem dX0_readCount_26 : decode cX0_readCount 26 = .ok (.ireturn, 1) := by decide +kernel
theorem dX0_newGrid_0 : decode cX0_newGrid 0 = .ok (.iload_n 2, 1) := by decide +kernel
theorem dX0_newGrid_1 : decode cX0_newGrid 1 = .ok (.invokestatic 154, 3) := by decide +kernel
theorem dX0_newGrid_4 : decode cX0_newGrid 4 = .ok (.istore 4, 2) := by decide +kernel
theorem dX0_newGrid_6 : decode cX0_newGrid 6 = .ok (.iload 4, 2) := by decide +kernel
theorem dX0_newGrid_8 : decode cX0_newGrid 8 = .ok (.ifCond .ne 17, 3) := by decide +kernel
theorem dX0_newGrid_11 : decode cX0_newGrid 11 = .ok (.aload_n 0, 1) := by decide +kernel
theorem dX0_newGrid_12 : decode cX0_newGrid 12 = .ok (.getfield 34, 3) := by decide +kernel
theorem dX0_newGrid_15 : decode cX0_newGrid 15 = .ok (.iload_n 1, 1) := by decide +kernel
theorem dX0_newGrid_16 : decode cX0_newGrid 16 = .ok (.iload_n 2, 1) := by decide +kernel
theorem dX0_newGrid_17 : decode cX0_newGrid 17 = .ok (.iastore, 1) := by decide +kernel
theorem dX0_newGrid_18 : decode cX0_newGrid 18 = .ok (.aload_n 0, 1) := by decide +kernel
theorem dX0_newGrid_19 : decode cX0_newGrid 19 = .ok (.getfield 37, 3) := by decide +kernel
theorem dX0_newGrid_22 : decode cX0_newGrid 22 = .ok (.iload_n 1, 1) := by decide +kernel
theorem dX0_newGrid_23 : decode cX0_newGrid 23 = .ok (.iload_n 3, 1) := by decide +kernel
theorem dX0_newGrid_24 : decode cX0_newGrid 24 = .ok (.iastore, 1) := by decide +kernel
theorem dX0_newGrid_25 : decode cX0_newGrid 25 = .ok (.iload 4, 2) := by decide +kernel
theorem dX0_newGrid_27 : decode cX0_newGrid 27 = .ok (.ireturn, 1) := by decide +kernel
theorem dX0_sumGrid_0 : decode cX0_sumGrid 0 = .ok (.aload_n 0, 1) := by decide +kernel
theorem dX0_sumGrid_1 : decode cX0_sumGrid 1 = .ok (.getfield 34, 3) := by decide +kernel
theorem dX0_sumGrid_4 : decode cX0_sumGrid 4 = .ok (.iload_n 2, 1) := by decide +kernel
theorem dX0_sumGrid_5 : decode cX0_sumGrid 5 = .ok (.iaload, 1) := by decide +kernel
theorem dX0_sumGrid_6 : decode cX0_sumGrid 6 = .ok (.iconst (-1), 1) := by decide +kernel
theorem dX0_sumGrid_7 : decode cX0_sumGrid 7 = .ok (.if_icmp .ne 5, 3) := by decide +kernel
theorem dX0_sumGrid_10 : decode cX0_sumGrid 10 = .ok (.iconst 1, 1) := by decide +kernel
theorem dX0_sumGrid_11 : decode cX0_sumGrid 11 = .ok (.ireturn, 1) := by decide +kernel
theorem dX0_sumGrid_12 : decode cX0_sumGrid 12 = .ok (.aload_n 0, 1) := by decide +kernel
theorem dX0_sumGrid_13 : decode cX0_sumGrid 13 = .ok (.getfield 9, 3) := by decide +kernel
theorem dX0_sumGrid_16 : decode cX0_sumGrid 16 = .ok (.iload_n 1, 1) := by decide +kernel
theorem dX0_sumGrid_17 : decode cX0_sumGrid 17 = .ok (.aload_n 0, 1) := by decide +kernel
theorem dX0_sumGrid_18 : decode cX0_sumGrid 18 = .ok (.getfield 34, 3) := by decide +kernel
theorem dX0_sumGrid_21 : decode cX0_sumGrid 21 = .ok (.iload_n 2, 1) := by decide +kernel
theorem dX0_sumGrid_22 : decode cX0_sumGrid 22 = .ok (.iaload, 1) := by decide +kernel
theorem dX0_sumGrid_23 : decode cX0_sumGrid 23 = .ok (.aload_n 0, 1) := by decide +kernel
theorem dX0_sumGrid_24 : decode cX0_sumGrid 24 = .ok (.getfield 37, 3) := by decide +kernel
theorem dX0_sumGrid_27 : decode cX0_sumGrid 27 = .ok (.iload_n 2, 1) := by decide +kernel
theorem dX0_sumGrid_28 : decode cX0_sumGrid 28 = .ok (.iaload, 1) := by decide +kernel
theorem dX0_sumGrid_29 : decode cX0_sumGrid 29 = .ok (.imul, 1) := by decide +kernel
theorem dX0_sumGrid_30 : decode cX0_sumGrid 30 = .ok (.iastore, 1) := by decide +kernel
theorem dX0_sumGrid_31 : decode cX0_sumGrid 31 = .ok (.iconst 0, 1) := by decide +kernel
theorem dX0_sumGrid_32 : decode cX0_sumGrid 32 = .ok (.ireturn, 1) := by decide +kernel
theorem dX0_alarmAct_0 : decode cX0_alarmAct 0 = .ok (.iload_n 1, 1) := by decide +kernel
theorem dX0_alarmAct_1 : decode cX0_alarmAct 1 = .ok (.bipush 20, 2) := by decide +kernel
theorem dX0_alarmAct_3 : decode cX0_alarmAct 3 = .ok (.if_icmp .ne 19, 3) := by decide +kernel
theorem dX0_alarmAct_6 : decode cX0_alarmAct 6 = .ok (.aload_n 0, 1) := by decide +kernel
theorem dX0_alarmAct_7 : decode cX0_alarmAct 7 = .ok (.getfield 40, 3) := by decide +kernel
theorem dX0_alarmAct_10 : decode cX0_alarmAct 10 = .ok (.iload_n 2, 1) := by decide +kernel
theorem dX0_alarmAct_11 : decode cX0_alarmAct 11 = .ok (.baload, 1) := by decide +kernel
theorem dX0_alarmAct_12 : decode cX0_alarmAct 12 = .ok (.ifCond .eq 8, 3) := by decide +kernel
theorem dX0_alarmAct_15 : decode cX0_alarmAct 15 = .ok (.bipush 7, 2) := by decide +kernel
theorem dX0_alarmAct_17 : decode cX0_alarmAct 17 = .ok (.goto 4, 3) := by decide +kernel
theorem dX0_alarmAct_20 : decode cX0_alarmAct 20 = .ok (.iconst 1, 1) := by decide +kernel
theorem dX0_alarmAct_21 : decode cX0_alarmAct 21 = .ok (.ireturn, 1) := by decide +kernel
theorem dX0_alarmAct_22 : decode cX0_alarmAct 22 = .ok (.aload_n 0, 1) := by decide +kernel
theorem dX0_alarmAct_23 : decode cX0_alarmAct 23 = .ok (.getfield 40, 3) := by decide +kernel
theorem dX0_alarmAct_26 : decode cX0_alarmAct 26 = .ok (.iload_n 2, 1) := by decide +kernel
theorem dX0_alarmAct_27 : decode cX0_alarmAct 27 = .ok (.iload_n 1, 1) := by decide +kernel
theorem dX0_alarmAct_28 : decode cX0_alarmAct 28 = .ok (.bipush 18, 2) := by decide +kernel
theorem dX0_alarmAct_30 : decode cX0_alarmAct 30 = .ok (.if_icmp .ne 7, 3) := by decide +kernel
theorem dX0_alarmAct_33 : decode cX0_alarmAct 33 = .ok (.iconst 1, 1) := by decide +kernel
theorem dX0_alarmAct_34 : decode cX0_alarmAct 34 = .ok (.goto 4, 3) := by decide +kernel
theorem dX0_alarmAct_37 : decode cX0_alarmAct 37 = .ok (.iconst 0, 1) := by decide +kernel
theorem dX0_alarmAct_38 : decode cX0_alarmAct 38 = .ok (.bastore, 1) := by decide +kernel
theorem dX0_alarmAct_39 : decode cX0_alarmAct 39 = .ok (.iload_n 1, 1) := by decide +kernel
theorem dX0_alarmAct_40 : decode cX0_alarmAct 40 = .ok (.bipush 18, 2) := by decide +kernel
theorem dX0_alarmAct_42 : decode cX0_alarmAct 42 = .ok (.if_icmp .ne 15, 3) := by decide +kernel
theorem dX0_alarmAct_45 : decode cX0_alarmAct 45 = .ok (.aload_n 0, 1) := by decide +kernel
theorem dX0_alarmAct_46 : decode cX0_alarmAct 46 = .ok (.getfield 44, 3) := by decide +kernel
theorem dX0_alarmAct_49 : decode cX0_alarmAct 49 = .ok (.iload_n 2, 1) := by decide +kernel
theorem dX0_alarmAct_50 : decode cX0_alarmAct 50 = .ok (.aload_n 0, 1) := by decide +kernel
theorem dX0_alarmAct_51 : decode cX0_alarmAct 51 = .ok (.getfield 9, 3) := by decide +kernel
theorem dX0_alarmAct_54 : decode cX0_alarmAct 54 = .ok (.iload_n 3, 1) := by decide +kernel
theorem dX0_alarmAct_55 : decode cX0_alarmAct 55 = .ok (.iaload, 1) := by decide +kernel
theorem dX0_alarmAct_56 : decode cX0_alarmAct 56 = .ok (.iastore, 1) := by decide +kernel
theorem dX0_alarmAct_57 : decode cX0_alarmAct 57 = .ok (.iconst 0, 1) := by decide +kernel
theorem dX0_alarmAct_58 : decode cX0_alarmAct 58 = .ok (.ireturn, 1) := by decide +kernel
theorem dX1_init_0 : decode cX1_init 0 = .ok (.aload_n 0, 1) := by decide +kernel
theorem dX1_init_1 : decode cX1_init 1 = .ok (.invokespecial 3, 3) := by decide +kernel
theorem dX1_init_4 : decode cX1_init 4 = .ok (.aload_n 0, 1) := by decide +kernel
theorem dX1_init_5 : decode cX1_init 5 = .ok (.bipush 64, 2) := by decide +kernel
theorem dX1_init_7 : decode cX1_init 7 = .ok (.newarray .int, 2) := by decide +kernel
theorem dX1_init_9 : decode cX1_init 9 = .ok (.putfield 9, 3) := by decide +kernel
theorem dX1_init_12 : decode cX1_init 12 = .ok (.aload_n 0, 1) := by decide +kernel
theorem dX1_init_13 : decode cX1_init 13 = .ok (.bipush 64, 2) := by decide +kernel
theorem dX1_init_15 : decode cX1_init 15 = .ok (.newarray .int, 2) := by decide +kernel
theorem dX1_init_17 : decode cX1_init 17 = .ok (.putfield 15, 3) := by decide +kernel
theorem dX1_init_20 : decode cX1_init 20 = .ok (.aload_n 0, 1) := by decide +kernel
theorem dX1_init_21 : decode cX1_init 21 = .ok (.bipush 64, 2) := by decide +kernel
theorem dX1_init_23 : decode cX1_init 23 = .ok (.newarray .int, 2) := by decide +kernel
theorem dX1_init_25 : decode cX1_init 25 = .ok (.putfield 18, 3) := by decide +kernel
theorem dX1_init_28 : decode cX1_init 28 = .ok (.aload_n 0, 1) := by decide +kernel
theorem dX1_init_29 : decode cX1_init 29 = .ok (.iconst 0, 1) := by decide +kernel
theorem dX1_init_30 : decode cX1_init 30 = .ok (.putfield 21, 3) := by decide +kernel
theorem dX1_init_33 : decode cX1_init 33 = .ok (.return_, 1) := by decide +kernel
theorem dX1_has_0 : decode cX1_has 0 = .ok (.iload_n 1, 1) := by decide +kernel
theorem dX1_has_1 : decode cX1_has 1 = .ok (.aload_n 0, 1) := by decide +kernel
theorem dX1_has_2 : decode cX1_has 2 = .ok (.getfield 21, 3) := by decide +kernel
theorem dX1_has_5 : decode cX1_has 5 = .ok (.invokestatic 25, 3) := by decide +kernel
theorem dX1_has_8 : decode cX1_has 8 = .ok (.ireturn, 1) := by decide +kernel
theorem dX1_add_0 : decode cX1_add 0 = .ok (.aload_n 0, 1) := by decide +kernel
theorem dX1_add_1 : decode cX1_add 1 = .ok (.getfield 21, 3) := by decide +kernel
theorem dX1_add_4 : decode cX1_add 4 = .ok (.bipush 64, 2) := by decide +kernel
theorem dX1_add_6 : decode cX1_add 6 = .ok (.if_icmp .lt 5, 3) := by decide +kernel
theorem dX1_add_9 : decode cX1_add 9 = .ok (.iconst (-1), 1) := by decide +kernel
theorem dX1_add_10 : decode cX1_add 10 = .ok (.ireturn, 1) := by decide +kernel
theorem dX1_add_11 : decode cX1_add 11 = .ok (.aload_n 0, 1) := by decide +kernel
theorem dX1_add_12 : decode cX1_add 12 = .ok (.getfield 9, 3) := by decide +kernel
theorem dX1_add_15 : decode cX1_add 15 = .ok (.aload_n 0, 1) := by decide +kernel
theorem dX1_add_16 : decode cX1_add 16 = .ok (.getfield 21, 3) := by decide +kernel
theorem dX1_add_19 : decode cX1_add 19 = .ok (.iload_n 1, 1) := by decide +kernel
theorem dX1_add_20 : decode cX1_add 20 = .ok (.iastore, 1) := by decide +kernel
theorem dX1_add_21 : decode cX1_add 21 = .ok (.aload_n 0, 1) := by decide +kernel
theorem dX1_add_22 : decode cX1_add 22 = .ok (.getfield 15, 3) := by decide +kernel
theorem dX1_add_25 : decode cX1_add 25 = .ok (.aload_n 0, 1) := by decide +kernel
theorem dX1_add_26 : decode cX1_add 26 = .ok (.getfield 21, 3) := by decide +kernel
theorem dX1_add_29 : decode cX1_add 29 = .ok (.iload_n 2, 1) := by decide +kernel
theorem dX1_add_30 : decode cX1_add 30 = .ok (.iastore, 1) := by decide +kernel
theorem dX1_add_31 : decode cX1_add 31 = .ok (.aload_n 0, 1) := by decide +kernel
theorem dX1_add_32 : decode cX1_add 32 = .ok (.getfield 18, 3) := by decide +kernel
theorem dX1_add_35 : decode cX1_add 35 = .ok (.aload_n 0, 1) := by decide +kernel
theorem dX1_add_36 : decode cX1_add 36 = .ok (.getfield 21, 3) := by decide +kernel
theorem dX1_add_39 : decode cX1_add 39 = .ok (.iconst 0, 1) := by decide +kernel
theorem dX1_add_40 : decode cX1_add 40 = .ok (.iastore, 1) := by decide +kernel
theorem dX1_add_41 : decode cX1_add 41 = .ok (.aload_n 0, 1) := by decide +kernel
theorem dX1_add_42 : decode cX1_add 42 = .ok (.dup, 1) := by decide +kernel
theorem dX1_add_43 : decode cX1_add 43 = .ok (.getfield 21, 3) := by decide +kernel
theorem dX1_add_46 : decode cX1_add 46 = .ok (.dup_x1, 1) := by decide +kernel
theorem dX1_add_47 : decode cX1_add 47 = .ok (.iconst 1, 1) := by decide +kernel
theorem dX1_add_48 : decode cX1_add 48 = .ok (.iadd, 1) := by decide +kernel
theorem dX1_add_49 : decode cX1_add 49 = .ok (.putfield 21, 3) := by decide +kernel
theorem dX1_add_52 : decode cX1_add 52 = .ok (.ireturn, 1) := by decide +kernel
theorem dX1_stamp_0 : decode cX1_stamp 0 = .ok (.aload_n 0, 1) := by decide +kernel
theorem dX1_stamp_1 : decode cX1_stamp 1 = .ok (.getfield 18, 3) := by decide +kernel
theorem dX1_stamp_4 : decode cX1_stamp 4 = .ok (.iload_n 1, 1) := by decide +kernel
theorem dX1_stamp_5 : decode cX1_stamp 5 = .ok (.dup2, 1) := by decide +kernel
theorem dX1_stamp_6 : decode cX1_stamp 6 = .ok (.iaload, 1) := by decide +kernel
theorem dX1_stamp_7 : decode cX1_stamp 7 = .ok (.iconst 1, 1) := by decide +kernel
theorem dX1_stamp_8 : decode cX1_stamp 8 = .ok (.iadd, 1) := by decide +kernel
theorem dX1_stamp_9 : decode cX1_stamp 9 = .ok (.iastore, 1) := by decide +kernel
theorem dX1_stamp_10 : decode cX1_stamp 10 = .ok (.aload_n 0, 1) := by decide +kernel
theorem dX1_stamp_11 : decode cX1_stamp 11 = .ok (.getfield 15, 3) := by decide +kernel
theorem dX1_stamp_14 : decode cX1_stamp 14 = .ok (.iload_n 1, 1) := by decide +kernel
theorem dX1_stamp_15 : decode cX1_stamp 15 = .ok (.iaload, 1) := by decide +kernel
theorem dX1_stamp_16 : decode cX1_stamp 16 = .ok (.aload_n 0, 1) := by decide +kernel
theorem dX1_stamp_17 : decode cX1_stamp 17 = .ok (.getfield 18, 3) := by decide +kernel
theorem dX1_stamp_20 : decode cX1_stamp 20 = .ok (.iload_n 1, 1) := by decide +kernel
theorem dX1_stamp_21 : decode cX1_stamp 21 = .ok (.iaload, 1) := by decide +kernel
theorem dX1_stamp_22 : decode cX1_stamp 22 = .ok (.iadd, 1) := by decide +kernel
theorem dX1_stamp_23 : decode cX1_stamp 23 = .ok (.istore_n 2, 1) := by decide +kernel
theorem dX1_stamp_24 : decode cX1_stamp 24 = .ok (.aload_n 0, 1) := by decide +kernel
theorem dX1_stamp_25 : decode cX1_stamp 25 = .ok (.getfield 9, 3) := by decide +kernel
theorem dX1_stamp_28 : decode cX1_stamp 28 = .ok (.iload_n 1, 1) := by decide +kernel
theorem dX1_stamp_29 : decode cX1_stamp 29 = .ok (.iaload, 1) := by decide +kernel
theorem dX1_stamp_30 : decode cX1_stamp 30 = .ok (.tableswitch 44 1 4 #[30, 30, 34, 40], 30) := by decide +kernel
theorem dX1_stamp_60 : decode cX1_stamp 60 = .ok (.iconst 2, 1) := by decide +kernel
theorem dX1_stamp_61 : decode cX1_stamp 61 = .ok (.iload_n 2, 1) := by decide +kernel
theorem dX1_stamp_62 : decode cX1_stamp 62 = .ok (.imul, 1) := by decide +kernel
theorem dX1_stamp_63 : decode cX1_stamp 63 = .ok (.ireturn, 1) := by decide +kernel
theorem dX1_stamp_64 : decode cX1_stamp 64 = .ok (.iconst 2, 1) := by decide +kernel
theorem dX1_stamp_65 : decode cX1_stamp 65 = .ok (.iload_n 2, 1) := by decide +kernel
theorem dX1_stamp_66 : decode cX1_stamp 66 = .ok (.imul, 1) := by decide +kernel
theorem dX1_stamp_67 : decode cX1_stamp 67 = .ok (.iconst 1, 1) := by decide +kernel
theorem dX1_stamp_68 : decode cX1_stamp 68 = .ok (.isub, 1) := by decide +kernel
theorem dX1_stamp_69 : decode cX1_stamp 69 = .ok (.ireturn, 1) := by decide +kernel
theorem dX1_stamp_70 : decode cX1_stamp 70 = .ok (.iconst 3, 1) := by decide +kernel
theorem dX1_stamp_71 : decode cX1_stamp 71 = .ok (.iload_n 2, 1) := by decide +kernel
theorem dX1_stamp_72 : decode cX1_stamp 72 = .ok (.imul, 1) := by decide +kernel
theorem dX1_stamp_73 : decode cX1_stamp 73 = .ok (.ireturn, 1) := by decide +kernel
theorem dX1_stamp_74 : decode cX1_stamp 74 = .ok (.iload_n 2, 1) := by decide +kernel
theorem dX1_stamp_75 : decode cX1_stamp 75 = .ok (.ireturn, 1) := by decide +kernel
theorem dX1_isAlive_0 : decode cX1_isAlive 0 = .ok (.aload_n 0, 1) := by decide +kernel
theorem dX1_isAlive_1 : decode cX1_isAlive 1 = .ok (.getfield 9, 3) := by decide +kernel
theorem dX1_isAlive_4 : decode cX1_isAlive 4 = .ok (.iload_n 1, 1) := by decide +kernel
theorem dX1_isAlive_5 : decode cX1_isAlive 5 = .ok (.iaload, 1) := by decide +kernel
theorem dX1_isAlive_6 : decode cX1_isAlive 6 = .ok (.iconst 3, 1) := by decide +kernel
theorem dX1_isAlive_7 : decode cX1_isAlive 7 = .ok (.if_icmp .eq 13, 3) := by decide +kernel
theorem dX1_isAlive_10 : decode cX1_isAlive 10 = .ok (.aload_n 0, 1) := by decide +kernel
theorem dX1_isAlive_11 : decode cX1_isAlive 11 = .ok (.getfield 9, 3) := by decide +kernel
theorem dX1_isAlive_14 : decode cX1_isAlive 14 = .ok (.iload_n 1, 1) := by decide +kernel
theorem dX1_isAlive_15 : decode cX1_isAlive 15 = .ok (.iaload, 1) := by decide +kernel
theorem dX1_isAlive_16 : decode cX1_isAlive 16 = .ok (.iconst 4, 1) := by decide +kernel
theorem dX1_isAlive_17 : decode cX1_isAlive 17 = .ok (.if_icmp .ne 7, 3) := by decide +kernel
theorem dX1_isAlive_20 : decode cX1_isAlive 20 = .ok (.iconst 1, 1) := by decide +kernel
theorem dX1_isAlive_21 : decode cX1_isAlive 21 = .ok (.goto 4, 3) := by decide +kernel
theorem dX1_isAlive_24 : decode cX1_isAlive 24 = .ok (.iconst 0, 1) := by decide +kernel
theorem dX1_isAlive_25 : decode cX1_isAlive 25 = .ok (.ireturn, 1) := by decide +kernel
theorem dX1_feed_0 : decode cX1_feed 0 = .ok (.aload_n 0, 1) := by decide +kernel
theorem dX1_feed_1 : decode cX1_feed 1 = .ok (.getfield 9, 3) := by decide +kernel
theorem dX1_feed_4 : decode cX1_feed 4 = .ok (.iload_n 1, 1) := by decide +kernel
theorem dX1_feed_5 : decode cX1_feed 5 = .ok (.iaload, 1) := by decide +kernel
theorem dX1_feed_6 : decode cX1_feed 6 = .ok (.iconst 3, 1) := by decide +kernel
theorem dX1_feed_7 : decode cX1_feed 7 = .ok (.if_icmp .ne 20, 3) := by decide +kernel
theorem dX1_feed_10 : decode cX1_feed 10 = .ok (.aload_n 0, 1) := by decide +kernel
theorem dX1_feed_11 : decode cX1_feed 11 = .ok (.getfield 15, 3) := by decide +kernel
theorem dX1_feed_14 : decode cX1_feed 14 = .ok (.iload_n 1, 1) := by decide +kernel
theorem dX1_feed_15 : decode cX1_feed 15 = .ok (.dup2, 1) := by decide +kernel
theorem dX1_feed_16 : decode cX1_feed 16 = .ok (.iaload, 1) := by decide +kernel
theorem dX1_feed_17 : decode cX1_feed 17 = .ok (.iconst 5, 1) := by decide +kernel
theorem dX1_feed_18 : decode cX1_feed 18 = .ok (.iadd, 1) := by decide +kernel
theorem dX1_feed_19 : decode cX1_feed 19 = .ok (.iastore, 1) := by decide +kernel
theorem dX1_feed_20 : decode cX1_feed 20 = .ok (.aload_n 0, 1) := by decide +kernel
theorem dX1_feed_21 : decode cX1_feed 21 = .ok (.getfield 15, 3) := by decide +kernel
theorem dX1_feed_24 : decode cX1_feed 24 = .ok (.iload_n 1, 1) := by decide +kernel
theorem dX1_feed_25 : decode cX1_feed 25 = .ok (.iaload, 1) := by decide +kernel
theorem dX1_feed_26 : decode cX1_feed 26 = .ok (.ireturn, 1) := by decide +kernel
theorem dX1_feed_27 : decode cX1_feed 27 = .ok (.aload_n 0, 1) := by decide +kernel
theorem dX1_feed_28 : decode cX1_feed 28 = .ok (.getfield 15, 3) := by decide +kernel
theorem dX1_feed_31 : decode cX1_feed 31 = .ok (.iload_n 1, 1) := by decide +kernel
theorem dX1_feed_32 : decode cX1_feed 32 = .ok (.dup2, 1) := by decide +kernel
theorem dX1_feed_33 : decode cX1_feed 33 = .ok (.iaload, 1) := by decide +kernel
theorem dX1_feed_34 : decode cX1_feed 34 = .ok (.iconst 2, 1) := by decide +kernel
theorem dX1_feed_35 : decode cX1_feed 35 = .ok (.imul, 1) := by decide +kernel
theorem dX1_feed_36 : decode cX1_feed 36 = .ok (.iastore, 1) := by decide +kernel
theorem dX1_feed_37 : decode cX1_feed 37 = .ok (.aload_n 0, 1) := by decide +kernel
theorem dX1_feed_38 : decode cX1_feed 38 = .ok (.getfield 15, 3) := by decide +kernel
theorem dX1_feed_41 : decode cX1_feed 41 = .ok (.iload_n 1, 1) := by decide +kernel
theorem dX1_feed_42 : decode cX1_feed 42 = .ok (.iaload, 1) := by decide +kernel
theorem dX1_feed_43 : decode cX1_feed 43 = .ok (.aload_n 0, 1) := by decide +kernel
theorem dX1_feed_44 : decode cX1_feed 44 = .ok (.getfield 18, 3) := by decide +kernel
theorem dX1_feed_47 : decode cX1_feed 47 = .ok (.iload_n 1, 1) := by decide +kernel
theorem dX1_feed_48 : decode cX1_feed 48 = .ok (.iaload, 1) := by decide +kernel
theorem dX1_feed_49 : decode cX1_feed 49 = .ok (.isub, 1) := by decide +kernel
theorem dX1_feed_50 : decode cX1_feed 50 = .ok (.ireturn, 1) := by decide +kernel
theorem dX2_init_0 : decode cX2_init 0 = .ok (.aload_n 0, 1) := by decide +kernel
theorem dX2_init_1 : decode cX2_init 1 = .ok (.invokespecial 3, 3) := by decide +kernel
theorem dX2_init_4 : decode cX2_init 4 = .ok (.aload_n 0, 1) := by decide +kernel
theorem dX2_init_5 : decode cX2_init 5 = .ok (.bipush 40, 2) := by decide +kernel
theorem dX2_init_7 : decode cX2_init 7 = .ok (.newarray .int, 2) := by decide +kernel
theorem dX2_init_9 : decode cX2_init 9 = .ok (.putfield 9, 3) := by decide +kernel
theorem dX2_init_12 : decode cX2_init 12 = .ok (.aload_n 0, 1) := by decide +kernel
theorem dX2_init_13 : decode cX2_init 13 = .ok (.bipush 40, 2) := by decide +kernel
theorem dX2_init_15 : decode cX2_init 15 = .ok (.newarray .int, 2) := by decide +kernel
theorem dX2_init_17 : decode cX2_init 17 = .ok (.putfield 15, 3) := by decide +kernel
theorem dX2_init_20 : decode cX2_init 20 = .ok (.aload_n 0, 1) := by decide +kernel
theorem dX2_init_21 : decode cX2_init 21 = .ok (.bipush 40, 2) := by decide +kernel
theorem dX2_init_23 : decode cX2_init 23 = .ok (.newarray .int, 2) := by decide +kernel
theorem dX2_init_25 : decode cX2_init 25 = .ok (.putfield 18, 3) := by decide +kernel
theorem dX2_init_28 : decode cX2_init 28 = .ok (.aload_n 0, 1) := by decide +kernel
theorem dX2_init_29 : decode cX2_init 29 = .ok (.bipush 40, 2) := by decide +kernel
theorem dX2_init_31 : decode cX2_init 31 = .ok (.newarray .int, 2) := by decide +kernel
theorem dX2_init_33 : decode cX2_init 33 = .ok (.putfield 21, 3) := by decide +kernel
theorem dX2_init_36 : decode cX2_init 36 = .ok (.aload_n 0, 1) := by decide +kernel
theorem dX2_init_37 : decode cX2_init 37 = .ok (.iconst 0, 1) := by decide +kernel
theorem dX2_init_38 : decode cX2_init 38 = .ok (.putfield 24, 3) := by decide +kernel
theorem dX2_init_41 : decode cX2_init 41 = .ok (.aload_n 0, 1) := by decide +kernel
theorem dX2_init_42 : decode cX2_init 42 = .ok (.iconst 5, 1) := by decide +kernel
theorem dX2_init_43 : decode cX2_init 43 = .ok (.newarray .int, 2) := by decide +kernel
theorem dX2_init_45 : decode cX2_init 45 = .ok (.putfield 28, 3) := by decide +kernel
theorem dX2_init_48 : decode cX2_init 48 = .ok (.aload_n 0, 1) := by decide +kernel
theorem dX2_init_49 : decode cX2_init 49 = .ok (.iconst 5, 1) := by decide +kernel
theorem dX2_init_50 : decode cX2_init 50 = .ok (.newarray .int, 2) := by decide +kernel
theorem dX2_init_52 : decode cX2_init 52 = .ok (.putfield 31, 3) := by decide +kernel
theorem dX2_init_55 : decode cX2_init 55 = .ok (.aload_n 0, 1) := by decide +kernel
theorem dX2_init_56 : decode cX2_init 56 = .ok (.iconst 5, 1) := by decide +kernel
theorem dX2_init_57 : decode cX2_init 57 = .ok (.newarray .int, 2) := by decide +kernel
theorem dX2_init_59 : decode cX2_init 59 = .ok (.putfield 34, 3) := by decide +kernel
theorem dX2_init_62 : decode cX2_init 62 = .ok (.aload_n 0, 1) := by decide +kernel
theorem dX2_init_63 : decode cX2_init 63 = .ok (.iconst 5, 1) := by decide +kernel
theorem dX2_init_64 : decode cX2_init 64 = .ok (.newarray .int, 2) := by decide +kernel
theorem dX2_init_66 : decode cX2_init 66 = .ok (.putfield 37, 3) := by decide +kernel
theorem dX2_init_69 : decode cX2_init 69 = .ok (.aload_n 0, 1) := by decide +kernel
theorem dX2_init_70 : decode cX2_init 70 = .ok (.iconst 0, 1) := by decide +kernel
theorem dX2_init_71 : decode cX2_init 71 = .ok (.putfield 40, 3) := by decide +kernel
theorem dX2_init_74 : decode cX2_init 74 = .ok (.return_, 1) := by decide +kernel
theorem dX2_isAct_0 : decode cX2_isAct 0 = .ok (.iload_n 0, 1) := by decide +kernel
theorem dX2_isAct_1 : decode cX2_isAct 1 = .ok (.bipush 25, 2) := by decide +kernel
theorem dX2_isAct_3 : decode cX2_isAct 3 = .ok (.invokestatic 43, 3) := by decide +kernel
theorem dX2_isAct_6 : decode cX2_isAct 6 = .ok (.ifCond .eq 43, 3) := by decide +kernel
theorem dX2_isAct_9 : decode cX2_isAct 9 = .ok (.iload_n 1, 1) := by decide +kernel
theorem dX2_isAct_10 : decode cX2_isAct 10 = .ok (.getstatic 47, 3) := by decide +kernel
theorem dX2_isAct_13 : decode cX2_isAct 13 = .ok (.iload_n 0, 1) := by decide +kernel
theorem dX2_isAct_14 : decode cX2_isAct 14 = .ok (.iaload, 1) := by decide +kernel
theorem dX2_isAct_15 : decode cX2_isAct 15 = .ok (.invokestatic 50, 3) := by decide +kernel
theorem dX2_isAct_18 : decode cX2_isAct 18 = .ok (.ifCond .eq 31, 3) := by decide +kernel
theorem dX2_isAct_21 : decode cX2_isAct 21 = .ok (.iload_n 2, 1) := by decide +kernel
theorem dX2_isAct_22 : decode cX2_isAct 22 = .ok (.getstatic 53, 3) := by decide +kernel
theorem dX2_isAct_25 : decode cX2_isAct 25 = .ok (.iload_n 0, 1) := by decide +kernel
theorem dX2_isAct_26 : decode cX2_isAct 26 = .ok (.iaload, 1) := by decide +kernel
theorem dX2_isAct_27 : decode cX2_isAct 27 = .ok (.invokestatic 50, 3) := by decide +kernel
theorem dX2_isAct_30 : decode cX2_isAct 30 = .ok (.ifCond .eq 19, 3) := by decide +kernel
theorem dX2_isAct_33 : decode cX2_isAct 33 = .ok (.iload_n 3, 1) := by decide +kernel
theorem dX2_isAct_34 : decode cX2_isAct 34 = .ok (.getstatic 56, 3) := by decide +kernel
theorem dX2_isAct_37 : decode cX2_isAct 37 = .ok (.iload_n 0, 1) := by decide +kernel
theorem dX2_isAct_38 : decode cX2_isAct 38 = .ok (.iaload, 1) := by decide +kernel
theorem dX2_isAct_39 : decode cX2_isAct 39 = .ok (.invokestatic 50, 3) := by decide +kernel
theorem dX2_isAct_42 : decode cX2_isAct 42 = .ok (.ifCond .eq 7, 3) := by decide +kernel
theorem dX2_isAct_45 : decode cX2_isAct 45 = .ok (.iconst 1, 1) := by decide +kernel
theorem dX2_isAct_46 : decode cX2_isAct 46 = .ok (.goto 4, 3) := by decide +kernel
theorem dX2_isAct_49 : decode cX2_isAct 49 = .ok (.iconst 0, 1) := by decide +kernel
theorem dX2_isAct_50 : decode cX2_isAct 50 = .ok (.ireturn, 1) := by decide +kernel
theorem dX2_isGood_0 : decode cX2_isGood 0 = .ok (.iload_n 1, 1) := by decide +kernel
theorem dX2_isGood_1 : decode cX2_isGood 1 = .ok (.ifCond .eq 11, 3) := by decide +kernel
theorem dX2_isGood_4 : decode cX2_isGood 4 = .ok (.iload_n 0, 1) := by decide +kernel
theorem dX2_isGood_5 : decode cX2_isGood 5 = .ok (.iload_n 1, 1) := by decide +kernel
theorem dX2_isGood_6 : decode cX2_isGood 6 = .ok (.invokestatic 43, 3) := by decide +kernel
theorem dX2_isGood_9 : decode cX2_isGood 9 = .ok (.ifCond .eq 7, 3) := by decide +kernel
theorem dX2_isGood_12 : decode cX2_isGood 12 = .ok (.iconst 1, 1) := by decide +kernel
theorem dX2_isGood_13 : decode cX2_isGood 13 = .ok (.goto 4, 3) := by decide +kernel
theorem dX2_isGood_16 : decode cX2_isGood 16 = .ok (.iconst 0, 1) := by decide +kernel
theorem dX2_isGood_17 : decode cX2_isGood 17 = .ok (.ireturn, 1) := by decide +kernel
theorem dX2_addAct_0 : decode cX2_addAct 0 = .ok (.aload_n 0, 1) := by decide +kernel
theorem dX2_addAct_1 : decode cX2_addAct 1 = .ok (.getfield 24, 3) := by decide +kernel
theorem dX2_addAct_4 : decode cX2_addAct 4 = .ok (.bipush 40, 2) := by decide +kernel
theorem dX2_addAct_6 : decode cX2_addAct 6 = .ok (.if_icmp .lt 6, 3) := by decide +kernel
theorem dX2_addAct_9 : decode cX2_addAct 9 = .ok (.bipush (-102), 2) := by decide +kernel
theorem dX2_addAct_11 : decode cX2_addAct 11 = .ok (.ireturn, 1) := by decide +kernel
theorem dX2_addAct_12 : decode cX2_addAct 12 = .ok (.aload_n 0, 1) := by decide +kernel
theorem dX2_addAct_13 : decode cX2_addAct 13 = .ok (.getfield 9, 3) := by decide +kernel
end
section
theorem dX2_addAct_16 : decode cX2_addAct 16 = .ok (.aload_n 0, 1) := by decide +kernel
theorem dX2_addAct_17 : decode cX2_addAct 17 = .ok (.getfield 24, 3) := by decide +kernel
theorem dX2_addAct_20 : decode cX2_addAct 20 = .ok (.iload_n 1, 1) := by decide +kernel
theorem dX2_addAct_21 : decode cX2_addAct 21 = .ok (.iastore, 1) := by decide +kernel
theorem dX2_addAct_22 : decode cX2_addAct 22 = .ok (.aload_n 0, 1) := by decide +kernel
theorem dX2_addAct_23 : decode cX2_addAct 23 = .ok (.getfield 15, 3) := by decide +kernel
theorem dX2_addAct_26 : decode cX2_addAct 26 = .ok (.aload_n 0, 1) := by decide +kernel
theorem dX2_addAct_27 : decode cX2_addAct 27 = .ok (.getfield 24, 3) := by decide +kernel
theorem dX2_addAct_30 : decode cX2_addAct 30 = .ok (.iload_n 2, 1) := by decide +kernel
theorem dX2_addAct_31 : decode cX2_addAct 31 = .ok (.iastore, 1) := by decide +kernel
theorem dX2_addAct_32 : decode cX2_addAct 32 = .ok (.aload_n 0, 1) := by decide +kernel
theorem dX2_addAct_33 : decode cX2_addAct 33 = .ok (.getfield 18, 3) := by decide +kernel
theorem dX2_addAct_36 : decode cX2_addAct 36 = .ok (.aload_n 0, 1) := by decide +kernel
theorem dX2_addAct_37 : decode cX2_addAct 37 = .ok (.getfield 24, 3) := by decide +kernel
theorem dX2_addAct_40 : decode cX2_addAct 40 = .ok (.iload_n 3, 1) := by decide +kernel
theorem dX2_addAct_41 : decode cX2_addAct 41 = .ok (.iastore, 1) := by decide +kernel
theorem dX2_addAct_42 : decode cX2_addAct 42 = .ok (.aload_n 0, 1) := by decide +kernel
theorem dX2_addAct_43 : decode cX2_addAct 43 = .ok (.getfield 21, 3) := by decide +kernel
theorem dX2_addAct_46 : decode cX2_addAct 46 = .ok (.aload_n 0, 1) := by decide +kernel
theorem dX2_addAct_47 : decode cX2_addAct 47 = .ok (.getfield 24, 3) := by decide +kernel
theorem dX2_addAct_50 : decode cX2_addAct 50 = .ok (.iload 4, 2) := by decide +kernel
theorem dX2_addAct_52 : decode cX2_addAct 52 = .ok (.iastore, 1) := by decide +kernel
theorem dX2_addAct_53 : decode cX2_addAct 53 = .ok (.aload_n 0, 1) := by decide +kernel
theorem dX2_addAct_54 : decode cX2_addAct 54 = .ok (.dup, 1) := by decide +kernel
theorem dX2_addAct_55 : decode cX2_addAct 55 = .ok (.getfield 24, 3) := by decide +kernel
theorem dX2_addAct_58 : decode cX2_addAct 58 = .ok (.dup_x1, 1) := by decide +kernel
theorem dX2_addAct_59 : decode cX2_addAct 59 = .ok (.iconst 1, 1) := by decide +kernel
theorem dX2_addAct_60 : decode cX2_addAct 60 = .ok (.iadd, 1) := by decide +kernel
theorem dX2_addAct_61 : decode cX2_addAct 61 = .ok (.putfield 24, 3) := by decide +kernel
theorem dX2_addAct_64 : decode cX2_addAct 64 = .ok (.ireturn, 1) := by decide +kernel
theorem dX2_addGuard_0 : decode cX2_addGuard 0 = .ok (.aload_n 0, 1) := by decide +kernel
theorem dX2_addGuard_1 : decode cX2_addGuard 1 = .ok (.getfield 40, 3) := by decide +kernel
theorem dX2_addGuard_4 : decode cX2_addGuard 4 = .ok (.iconst 5, 1) := by decide +kernel
theorem dX2_addGuard_5 : decode cX2_addGuard 5 = .ok (.if_icmp .lt 6, 3) := by decide +kernel
theorem dX2_addGuard_8 : decode cX2_addGuard 8 = .ok (.bipush (-102), 2) := by decide +kernel
theorem dX2_addGuard_10 : decode cX2_addGuard 10 = .ok (.ireturn, 1) := by decide +kernel
theorem dX2_addGuard_11 : decode cX2_addGuard 11 = .ok (.aload_n 0, 1) := by decide +kernel
theorem dX2_addGuard_12 : decode cX2_addGuard 12 = .ok (.getfield 28, 3) := by decide +kernel
theorem dX2_addGuard_15 : decode cX2_addGuard 15 = .ok (.aload_n 0, 1) := by decide +kernel
theorem dX2_addGuard_16 : decode cX2_addGuard 16 = .ok (.getfield 40, 3) := by decide +kernel
theorem dX2_addGuard_19 : decode cX2_addGuard 19 = .ok (.iload_n 1, 1) := by decide +kernel
theorem dX2_addGuard_20 : decode cX2_addGuard 20 = .ok (.iastore, 1) := by decide +kernel
theorem dX2_addGuard_21 : decode cX2_addGuard 21 = .ok (.aload_n 0, 1) := by decide +kernel
theorem dX2_addGuard_22 : decode cX2_addGuard 22 = .ok (.getfield 31, 3) := by decide +kernel
theorem dX2_addGuard_25 : decode cX2_addGuard 25 = .ok (.aload_n 0, 1) := by decide +kernel
theorem dX2_addGuard_26 : decode cX2_addGuard 26 = .ok (.getfield 40, 3) := by decide +kernel
theorem dX2_addGuard_29 : decode cX2_addGuard 29 = .ok (.iload_n 2, 1) := by decide +kernel
theorem dX2_addGuard_30 : decode cX2_addGuard 30 = .ok (.iastore, 1) := by decide +kernel
theorem dX2_addGuard_31 : decode cX2_addGuard 31 = .ok (.aload_n 0, 1) := by decide +kernel
theorem dX2_addGuard_32 : decode cX2_addGuard 32 = .ok (.getfield 34, 3) := by decide +kernel
theorem dX2_addGuard_35 : decode cX2_addGuard 35 = .ok (.aload_n 0, 1) := by decide +kernel
theorem dX2_addGuard_36 : decode cX2_addGuard 36 = .ok (.getfield 40, 3) := by decide +kernel
theorem dX2_addGuard_39 : decode cX2_addGuard 39 = .ok (.iload_n 3, 1) := by decide +kernel
theorem dX2_addGuard_40 : decode cX2_addGuard 40 = .ok (.iastore, 1) := by decide +kernel
theorem dX2_addGuard_41 : decode cX2_addGuard 41 = .ok (.aload_n 0, 1) := by decide +kernel
theorem dX2_addGuard_42 : decode cX2_addGuard 42 = .ok (.getfield 37, 3) := by decide +kernel
theorem dX2_addGuard_45 : decode cX2_addGuard 45 = .ok (.aload_n 0, 1) := by decide +kernel
theorem dX2_addGuard_46 : decode cX2_addGuard 46 = .ok (.getfield 40, 3) := by decide +kernel
theorem dX2_addGuard_49 : decode cX2_addGuard 49 = .ok (.iload 4, 2) := by decide +kernel
theorem dX2_addGuard_51 : decode cX2_addGuard 51 = .ok (.iastore, 1) := by decide +kernel
theorem dX2_addGuard_52 : decode cX2_addGuard 52 = .ok (.aload_n 0, 1) := by decide +kernel
theorem dX2_addGuard_53 : decode cX2_addGuard 53 = .ok (.dup, 1) := by decide +kernel
theorem dX2_addGuard_54 : decode cX2_addGuard 54 = .ok (.getfield 40, 3) := by decide +kernel
theorem dX2_addGuard_57 : decode cX2_addGuard 57 = .ok (.dup_x1, 1) := by decide +kernel
theorem dX2_addGuard_58 : decode cX2_addGuard 58 = .ok (.iconst 1, 1) := by decide +kernel
theorem dX2_addGuard_59 : decode cX2_addGuard 59 = .ok (.iadd, 1) := by decide +kernel
theorem dX2_addGuard_60 : decode cX2_addGuard 60 = .ok (.putfield 40, 3) := by decide +kernel
theorem dX2_addGuard_63 : decode cX2_addGuard 63 = .ok (.ireturn, 1) := by decide +kernel
theorem dX2_hasAct_0 : decode cX2_hasAct 0 = .ok (.iload_n 1, 1) := by decide +kernel
theorem dX2_hasAct_1 : decode cX2_hasAct 1 = .ok (.aload_n 0, 1) := by decide +kernel
theorem dX2_hasAct_2 : decode cX2_hasAct 2 = .ok (.getfield 24, 3) := by decide +kernel
theorem dX2_hasAct_5 : decode cX2_hasAct 5 = .ok (.invokestatic 43, 3) := by decide +kernel
theorem dX2_hasAct_8 : decode cX2_hasAct 8 = .ok (.ireturn, 1) := by decide +kernel
theorem dX2_guardFor_0 : decode cX2_guardFor 0 = .ok (.iconst 0, 1) := by decide +kernel
theorem dX2_guardFor_1 : decode cX2_guardFor 1 = .ok (.istore_n 3, 1) := by decide +kernel
theorem dX2_guardFor_2 : decode cX2_guardFor 2 = .ok (.iload_n 3, 1) := by decide +kernel
theorem dX2_guardFor_3 : decode cX2_guardFor 3 = .ok (.aload_n 0, 1) := by decide +kernel
theorem dX2_guardFor_4 : decode cX2_guardFor 4 = .ok (.getfield 40, 3) := by decide +kernel
theorem dX2_guardFor_7 : decode cX2_guardFor 7 = .ok (.if_icmp .ge 62, 3) := by decide +kernel
theorem dX2_guardFor_10 : decode cX2_guardFor 10 = .ok (.aload_n 0, 1) := by decide +kernel
theorem dX2_guardFor_11 : decode cX2_guardFor 11 = .ok (.getfield 28, 3) := by decide +kernel
theorem dX2_guardFor_14 : decode cX2_guardFor 14 = .ok (.iload_n 3, 1) := by decide +kernel
theorem dX2_guardFor_15 : decode cX2_guardFor 15 = .ok (.iaload, 1) := by decide +kernel
theorem dX2_guardFor_16 : decode cX2_guardFor 16 = .ok (.iload_n 1, 1) := by decide +kernel
theorem dX2_guardFor_17 : decode cX2_guardFor 17 = .ok (.if_icmp .gt 17, 3) := by decide +kernel
theorem dX2_guardFor_20 : decode cX2_guardFor 20 = .ok (.iload_n 1, 1) := by decide +kernel
theorem dX2_guardFor_21 : decode cX2_guardFor 21 = .ok (.aload_n 0, 1) := by decide +kernel
theorem dX2_guardFor_22 : decode cX2_guardFor 22 = .ok (.getfield 31, 3) := by decide +kernel
theorem dX2_guardFor_25 : decode cX2_guardFor 25 = .ok (.iload_n 3, 1) := by decide +kernel
theorem dX2_guardFor_26 : decode cX2_guardFor 26 = .ok (.iaload, 1) := by decide +kernel
theorem dX2_guardFor_27 : decode cX2_guardFor 27 = .ok (.if_icmp .ge 7, 3) := by decide +kernel
theorem dX2_guardFor_30 : decode cX2_guardFor 30 = .ok (.iconst 1, 1) := by decide +kernel
theorem dX2_guardFor_31 : decode cX2_guardFor 31 = .ok (.goto 4, 3) := by decide +kernel
theorem dX2_guardFor_34 : decode cX2_guardFor 34 = .ok (.iconst 0, 1) := by decide +kernel
theorem dX2_guardFor_35 : decode cX2_guardFor 35 = .ok (.istore 4, 2) := by decide +kernel
theorem dX2_guardFor_37 : decode cX2_guardFor 37 = .ok (.iload 4, 2) := by decide +kernel
theorem dX2_guardFor_39 : decode cX2_guardFor 39 = .ok (.ifCond .eq 24, 3) := by decide +kernel
theorem dX2_guardFor_42 : decode cX2_guardFor 42 = .ok (.aload_n 0, 1) := by decide +kernel
theorem dX2_guardFor_43 : decode cX2_guardFor 43 = .ok (.getfield 34, 3) := by decide +kernel
theorem dX2_guardFor_46 : decode cX2_guardFor 46 = .ok (.iload_n 3, 1) := by decide +kernel
theorem dX2_guardFor_47 : decode cX2_guardFor 47 = .ok (.iaload, 1) := by decide +kernel
theorem dX2_guardFor_48 : decode cX2_guardFor 48 = .ok (.ifCond .eq 13, 3) := by decide +kernel
theorem dX2_guardFor_51 : decode cX2_guardFor 51 = .ok (.aload_n 0, 1) := by decide +kernel
theorem dX2_guardFor_52 : decode cX2_guardFor 52 = .ok (.getfield 34, 3) := by decide +kernel
theorem dX2_guardFor_55 : decode cX2_guardFor 55 = .ok (.iload_n 3, 1) := by decide +kernel
theorem dX2_guardFor_56 : decode cX2_guardFor 56 = .ok (.iaload, 1) := by decide +kernel
theorem dX2_guardFor_57 : decode cX2_guardFor 57 = .ok (.iload_n 2, 1) := by decide +kernel
theorem dX2_guardFor_58 : decode cX2_guardFor 58 = .ok (.if_icmp .ne 5, 3) := by decide +kernel
theorem dX2_guardFor_61 : decode cX2_guardFor 61 = .ok (.iload_n 3, 1) := by decide +kernel
theorem dX2_guardFor_62 : decode cX2_guardFor 62 = .ok (.ireturn, 1) := by decide +kernel
theorem dX2_guardFor_63 : decode cX2_guardFor 63 = .ok (.iinc 3 1, 3) := by decide +kernel
theorem dX2_guardFor_66 : decode cX2_guardFor 66 = .ok (.goto (-64), 3) := by decide +kernel
theorem dX2_guardFor_69 : decode cX2_guardFor 69 = .ok (.iconst (-1), 1) := by decide +kernel
theorem dX2_guardFor_70 : decode cX2_guardFor 70 = .ok (.ireturn, 1) := by decide +kernel
theorem dX3_init_0 : decode cX3_init 0 = .ok (.aload_n 0, 1) := by decide +kernel
theorem dX3_init_1 : decode cX3_init 1 = .ok (.invokespecial 3, 3) := by decide +kernel
theorem dX3_init_4 : decode cX3_init 4 = .ok (.aload_n 0, 1) := by decide +kernel
theorem dX3_init_5 : decode cX3_init 5 = .ok (.iconst 0, 1) := by decide +kernel
theorem dX3_init_6 : decode cX3_init 6 = .ok (.putfield 9, 3) := by decide +kernel
theorem dX3_init_9 : decode cX3_init 9 = .ok (.aload_n 0, 1) := by decide +kernel
theorem dX3_init_10 : decode cX3_init 10 = .ok (.iconst (-1), 1) := by decide +kernel
theorem dX3_init_11 : decode cX3_init 11 = .ok (.putfield 15, 3) := by decide +kernel
theorem dX3_init_14 : decode cX3_init 14 = .ok (.aload_n 0, 1) := by decide +kernel
theorem dX3_init_15 : decode cX3_init 15 = .ok (.iconst 0, 1) := by decide +kernel
theorem dX3_init_16 : decode cX3_init 16 = .ok (.putfield 18, 3) := by decide +kernel
theorem dX3_init_19 : decode cX3_init 19 = .ok (.aload_n 0, 1) := by decide +kernel
theorem dX3_init_20 : decode cX3_init 20 = .ok (.iconst 0, 1) := by decide +kernel
theorem dX3_init_21 : decode cX3_init 21 = .ok (.putfield 21, 3) := by decide +kernel
theorem dX3_init_24 : decode cX3_init 24 = .ok (.aload_n 0, 1) := by decide +kernel
theorem dX3_init_25 : decode cX3_init 25 = .ok (.iconst 0, 1) := by decide +kernel
theorem dX3_init_26 : decode cX3_init 26 = .ok (.putfield 24, 3) := by decide +kernel
theorem dX3_init_29 : decode cX3_init 29 = .ok (.aload_n 0, 1) := by decide +kernel
theorem dX3_init_30 : decode cX3_init 30 = .ok (.bipush 8, 2) := by decide +kernel
theorem dX3_init_32 : decode cX3_init 32 = .ok (.newarray .int, 2) := by decide +kernel
theorem dX3_init_34 : decode cX3_init 34 = .ok (.putfield 27, 3) := by decide +kernel
theorem dX3_init_37 : decode cX3_init 37 = .ok (.return_, 1) := by decide +kernel
theorem dX3_begin_0 : decode cX3_begin 0 = .ok (.aload_n 0, 1) := by decide +kernel
theorem dX3_begin_1 : decode cX3_begin 1 = .ok (.iconst 0, 1) := by decide +kernel
theorem dX3_begin_2 : decode cX3_begin 2 = .ok (.putfield 9, 3) := by decide +kernel
theorem dX3_begin_5 : decode cX3_begin 5 = .ok (.aload_n 0, 1) := by decide +kernel
theorem dX3_begin_6 : decode cX3_begin 6 = .ok (.iconst (-1), 1) := by decide +kernel
theorem dX3_begin_7 : decode cX3_begin 7 = .ok (.putfield 15, 3) := by decide +kernel
theorem dX3_begin_10 : decode cX3_begin 10 = .ok (.aload_n 0, 1) := by decide +kernel
theorem dX3_begin_11 : decode cX3_begin 11 = .ok (.iconst 0, 1) := by decide +kernel
theorem dX3_begin_12 : decode cX3_begin 12 = .ok (.putfield 18, 3) := by decide +kernel
theorem dX3_begin_15 : decode cX3_begin 15 = .ok (.aload_n 0, 1) := by decide +kernel
theorem dX3_begin_16 : decode cX3_begin 16 = .ok (.iconst 0, 1) := by decide +kernel
theorem dX3_begin_17 : decode cX3_begin 17 = .ok (.putfield 21, 3) := by decide +kernel
theorem dX3_begin_20 : decode cX3_begin 20 = .ok (.aload_n 0, 1) := by decide +kernel
theorem dX3_begin_21 : decode cX3_begin 21 = .ok (.iconst 0, 1) := by decide +kernel
theorem dX3_begin_22 : decode cX3_begin 22 = .ok (.putfield 24, 3) := by decide +kernel
theorem dX3_begin_25 : decode cX3_begin 25 = .ok (.iconst 0, 1) := by decide +kernel
theorem dX3_begin_26 : decode cX3_begin 26 = .ok (.istore_n 1, 1) := by decide +kernel
theorem dX3_begin_27 : decode cX3_begin 27 = .ok (.iload_n 1, 1) := by decide +kernel
theorem dX3_begin_28 : decode cX3_begin 28 = .ok (.bipush 8, 2) := by decide +kernel
theorem dX3_begin_30 : decode cX3_begin 30 = .ok (.if_icmp .ge 16, 3) := by decide +kernel
theorem dX3_begin_33 : decode cX3_begin 33 = .ok (.aload_n 0, 1) := by decide +kernel
theorem dX3_begin_34 : decode cX3_begin 34 = .ok (.getfield 27, 3) := by decide +kernel
theorem dX3_begin_37 : decode cX3_begin 37 = .ok (.iload_n 1, 1) := by decide +kernel
theorem dX3_begin_38 : decode cX3_begin 38 = .ok (.iconst 0, 1) := by decide +kernel
theorem dX3_begin_39 : decode cX3_begin 39 = .ok (.iastore, 1) := by decide +kernel
theorem dX3_begin_40 : decode cX3_begin 40 = .ok (.iinc 1 1, 3) := by decide +kernel
theorem dX3_begin_43 : decode cX3_begin 43 = .ok (.goto (-16), 3) := by decide +kernel
theorem dX3_begin_46 : decode cX3_begin 46 = .ok (.return_, 1) := by decide +kernel
theorem dX4_init_0 : decode cX4_init 0 = .ok (.aload_n 0, 1) := by decide +kernel
theorem dX4_init_1 : decode cX4_init 1 = .ok (.invokespecial 3, 3) := by decide +kernel
theorem dX4_init_4 : decode cX4_init 4 = .ok (.aload_n 0, 1) := by decide +kernel
theorem dX4_init_5 : decode cX4_init 5 = .ok (.iconst (-1), 1) := by decide +kernel
theorem dX4_init_6 : decode cX4_init 6 = .ok (.putfield 9, 3) := by decide +kernel
theorem dX4_init_9 : decode cX4_init 9 = .ok (.aload_n 0, 1) := by decide +kernel
theorem dX4_init_10 : decode cX4_init 10 = .ok (.iconst (-1), 1) := by decide +kernel
theorem dX4_init_11 : decode cX4_init 11 = .ok (.putfield 15, 3) := by decide +kernel
theorem dX4_init_14 : decode cX4_init 14 = .ok (.aload_n 0, 1) := by decide +kernel
theorem dX4_init_15 : decode cX4_init 15 = .ok (.bipush 8, 2) := by decide +kernel
theorem dX4_init_17 : decode cX4_init 17 = .ok (.newarray .int, 2) := by decide +kernel
theorem dX4_init_19 : decode cX4_init 19 = .ok (.putfield 18, 3) := by decide +kernel
theorem dX4_init_22 : decode cX4_init 22 = .ok (.return_, 1) := by decide +kernel
theorem dX4_isThere_0 : decode cX4_isThere 0 = .ok (.aload_n 0, 1) := by decide +kernel
theorem dX4_isThere_1 : decode cX4_isThere 1 = .ok (.getfield 15, 3) := by decide +kernel
theorem dX4_isThere_4 : decode cX4_isThere 4 = .ok (.iconst (-1), 1) := by decide +kernel
theorem dX4_isThere_5 : decode cX4_isThere 5 = .ok (.if_icmp .eq 7, 3) := by decide +kernel
theorem dX4_isThere_8 : decode cX4_isThere 8 = .ok (.iconst 1, 1) := by decide +kernel
theorem dX4_isThere_9 : decode cX4_isThere 9 = .ok (.goto 4, 3) := by decide +kernel
theorem dX4_isThere_12 : decode cX4_isThere 12 = .ok (.iconst 0, 1) := by decide +kernel
theorem dX4_isThere_13 : decode cX4_isThere 13 = .ok (.ireturn, 1) := by decide +kernel
theorem dX4_hasPlace_0 : decode cX4_hasPlace 0 = .ok (.iconst 0, 1) := by decide +kernel
theorem dX4_hasPlace_1 : decode cX4_hasPlace 1 = .ok (.iload_n 1, 1) := by decide +kernel
theorem dX4_hasPlace_2 : decode cX4_hasPlace 2 = .ok (.if_icmp .gt 15, 3) := by decide +kernel
theorem dX4_hasPlace_5 : decode cX4_hasPlace 5 = .ok (.iload_n 1, 1) := by decide +kernel
theorem dX4_hasPlace_6 : decode cX4_hasPlace 6 = .ok (.aload_n 0, 1) := by decide +kernel
theorem dX4_hasPlace_7 : decode cX4_hasPlace 7 = .ok (.getfield 15, 3) := by decide +kernel
theorem dX4_hasPlace_10 : decode cX4_hasPlace 10 = .ok (.if_icmp .ge 7, 3) := by decide +kernel
theorem dX4_hasPlace_13 : decode cX4_hasPlace 13 = .ok (.iconst 1, 1) := by decide +kernel
theorem dX4_hasPlace_14 : decode cX4_hasPlace 14 = .ok (.goto 4, 3) := by decide +kernel
theorem dX4_hasPlace_17 : decode cX4_hasPlace 17 = .ok (.iconst 0, 1) := by decide +kernel
theorem dX4_hasPlace_18 : decode cX4_hasPlace 18 = .ok (.ireturn, 1) := by decide +kernel
theorem dX4_remove_0 : decode cX4_remove 0 = .ok (.aload_n 0, 1) := by decide +kernel
theorem dX4_remove_1 : decode cX4_remove 1 = .ok (.iconst (-1), 1) := by decide +kernel
theorem dX4_remove_2 : decode cX4_remove 2 = .ok (.putfield 9, 3) := by decide +kernel
theorem dX4_remove_5 : decode cX4_remove 5 = .ok (.aload_n 0, 1) := by decide +kernel
theorem dX4_remove_6 : decode cX4_remove 6 = .ok (.iconst (-1), 1) := by decide +kernel
theorem dX4_remove_7 : decode cX4_remove 7 = .ok (.putfield 15, 3) := by decide +kernel
theorem dX4_remove_10 : decode cX4_remove 10 = .ok (.return_, 1) := by decide +kernel
theorem dX4_renew_0 : decode cX4_renew 0 = .ok (.iload_n 2, 1) := by decide +kernel
theorem dX4_renew_1 : decode cX4_renew 1 = .ok (.invokestatic 22, 3) := by decide +kernel
theorem dX4_renew_4 : decode cX4_renew 4 = .ok (.istore 4, 2) := by decide +kernel
theorem dX4_renew_6 : decode cX4_renew 6 = .ok (.iload 4, 2) := by decide +kernel
theorem dX4_renew_8 : decode cX4_renew 8 = .ok (.ifCond .ne 37, 3) := by decide +kernel
theorem dX4_renew_11 : decode cX4_renew 11 = .ok (.aload_n 0, 1) := by decide +kernel
theorem dX4_renew_12 : decode cX4_renew 12 = .ok (.iload_n 1, 1) := by decide +kernel
theorem dX4_renew_13 : decode cX4_renew 13 = .ok (.putfield 9, 3) := by decide +kernel
theorem dX4_renew_16 : decode cX4_renew 16 = .ok (.aload_n 0, 1) := by decide +kernel
theorem dX4_renew_17 : decode cX4_renew 17 = .ok (.iload_n 2, 1) := by decide +kernel
theorem dX4_renew_18 : decode cX4_renew 18 = .ok (.putfield 15, 3) := by decide +kernel
theorem dX4_renew_21 : decode cX4_renew 21 = .ok (.iconst 0, 1) := by decide +kernel
theorem dX4_renew_22 : decode cX4_renew 22 = .ok (.istore 5, 2) := by decide +kernel
theorem dX4_renew_24 : decode cX4_renew 24 = .ok (.iload 5, 2) := by decide +kernel
theorem dX4_renew_26 : decode cX4_renew 26 = .ok (.bipush 8, 2) := by decide +kernel
theorem dX4_renew_28 : decode cX4_renew 28 = .ok (.if_icmp .ge 17, 3) := by decide +kernel
theorem dX4_renew_31 : decode cX4_renew 31 = .ok (.aload_n 0, 1) := by decide +kernel
theorem dX4_renew_32 : decode cX4_renew 32 = .ok (.getfield 18, 3) := by decide +kernel
theorem dX4_renew_35 : decode cX4_renew 35 = .ok (.iload 5, 2) := by decide +kernel
theorem dX4_renew_37 : decode cX4_renew 37 = .ok (.iload_n 3, 1) := by decide +kernel
theorem dX4_renew_38 : decode cX4_renew 38 = .ok (.iastore, 1) := by decide +kernel
theorem dX4_renew_39 : decode cX4_renew 39 = .ok (.iinc 5 1, 3) := by decide +kernel
theorem dX4_renew_42 : decode cX4_renew 42 = .ok (.goto (-18), 3) := by decide +kernel
theorem dX4_renew_45 : decode cX4_renew 45 = .ok (.iload 4, 2) := by decide +kernel
theorem dX4_renew_47 : decode cX4_renew 47 = .ok (.ireturn, 1) := by decide +kernel
theorem dX4_placeFailure_0 : decode cX4_placeFailure 0 = .ok (.aload_n 0, 1) := by decide +kernel
theorem dX4_placeFailure_1 : decode cX4_placeFailure 1 = .ok (.invokevirtual 26, 3) := by decide +kernel
theorem dX4_placeFailure_4 : decode cX4_placeFailure 4 = .ok (.ifCond .ne 5, 3) := by decide +kernel
theorem dX4_placeFailure_7 : decode cX4_placeFailure 7 = .ok (.iconst 1, 1) := by decide +kernel
theorem dX4_placeFailure_8 : decode cX4_placeFailure 8 = .ok (.ireturn, 1) := by decide +kernel
theorem dX4_placeFailure_9 : decode cX4_placeFailure 9 = .ok (.aload_n 0, 1) := by decide +kernel
theorem dX4_placeFailure_10 : decode cX4_placeFailure 10 = .ok (.iload_n 1, 1) := by decide +kernel
theorem dX4_placeFailure_11 : decode cX4_placeFailure 11 = .ok (.invokevirtual 30, 3) := by decide +kernel
theorem dX4_placeFailure_14 : decode cX4_placeFailure 14 = .ok (.ifCond .eq 7, 3) := by decide +kernel
theorem dX4_placeFailure_17 : decode cX4_placeFailure 17 = .ok (.iconst 0, 1) := by decide +kernel
theorem dX4_placeFailure_18 : decode cX4_placeFailure 18 = .ok (.goto 4, 3) := by decide +kernel
theorem dX4_placeFailure_21 : decode cX4_placeFailure 21 = .ok (.iconst 3, 1) := by decide +kernel
theorem dX4_placeFailure_22 : decode cX4_placeFailure 22 = .ok (.ireturn, 1) := by decide +kernel
theorem dX5_init_0 : decode cX5_init 0 = .ok (.aload_n 0, 1) := by decide +kernel
theorem dX5_init_1 : decode cX5_init 1 = .ok (.invokespecial 1, 3) := by decide +kernel
theorem dX5_init_4 : decode cX5_init 4 = .ok (.aload_n 0, 1) := by decide +kernel
theorem dX5_init_5 : decode cX5_init 5 = .ok (.new 7, 3) := by decide +kernel
theorem dX5_init_8 : decode cX5_init 8 = .ok (.dup, 1) := by decide +kernel
theorem dX5_init_9 : decode cX5_init 9 = .ok (.invokespecial 9, 3) := by decide +kernel
theorem dX5_init_12 : decode cX5_init 12 = .ok (.putfield 10, 3) := by decide +kernel
theorem dX5_init_15 : decode cX5_init 15 = .ok (.aload_n 0, 1) := by decide +kernel
theorem dX5_init_16 : decode cX5_init 16 = .ok (.new 16, 3) := by decide +kernel
theorem dX5_init_19 : decode cX5_init 19 = .ok (.dup, 1) := by decide +kernel
theorem dX5_init_20 : decode cX5_init 20 = .ok (.invokespecial 18, 3) := by decide +kernel
theorem dX5_init_23 : decode cX5_init 23 = .ok (.putfield 19, 3) := by decide +kernel
theorem dX5_init_26 : decode cX5_init 26 = .ok (.aload_n 0, 1) := by decide +kernel
theorem dX5_init_27 : decode cX5_init 27 = .ok (.new 23, 3) := by decide +kernel
theorem dX5_init_30 : decode cX5_init 30 = .ok (.dup, 1) := by decide +kernel
theorem dX5_init_31 : decode cX5_init 31 = .ok (.invokespecial 25, 3) := by decide +kernel
theorem dX5_init_34 : decode cX5_init 34 = .ok (.putfield 26, 3) := by decide +kernel
theorem dX5_init_37 : decode cX5_init 37 = .ok (.return_, 1) := by decide +kernel
theorem dX5_act_0 : decode cX5_act 0 = .ok (.iload_n 1, 1) := by decide +kernel
theorem dX5_act_1 : decode cX5_act 1 = .ok (.iload_n 2, 1) := by decide +kernel
theorem dX5_act_2 : decode cX5_act 2 = .ok (.iload_n 3, 1) := by decide +kernel
theorem dX5_act_3 : decode cX5_act 3 = .ok (.iload 4, 2) := by decide +kernel
theorem dX5_act_5 : decode cX5_act 5 = .ok (.invokestatic 30, 3) := by decide +kernel
theorem dX5_act_8 : decode cX5_act 8 = .ok (.ifCond .ne 6, 3) := by decide +kernel
theorem dX5_act_11 : decode cX5_act 11 = .ok (.bipush (-101), 2) := by decide +kernel
theorem dX5_act_13 : decode cX5_act 13 = .ok (.ireturn, 1) := by decide +kernel
theorem dX5_act_14 : decode cX5_act 14 = .ok (.aload_n 0, 1) := by decide +kernel
theorem dX5_act_15 : decode cX5_act 15 = .ok (.getfield 10, 3) := by decide +kernel
theorem dX5_act_18 : decode cX5_act 18 = .ok (.iload_n 1, 1) := by decide +kernel
theorem dX5_act_19 : decode cX5_act 19 = .ok (.iload_n 2, 1) := by decide +kernel
theorem dX5_act_20 : decode cX5_act 20 = .ok (.iload_n 3, 1) := by decide +kernel
theorem dX5_act_21 : decode cX5_act 21 = .ok (.iload 4, 2) := by decide +kernel
theorem dX5_act_23 : decode cX5_act 23 = .ok (.invokevirtual 34, 3) := by decide +kernel
theorem dX5_act_26 : decode cX5_act 26 = .ok (.ireturn, 1) := by decide +kernel
theorem dX5_guard_0 : decode cX5_guard 0 = .ok (.iconst 0, 1) := by decide +kernel
theorem dX5_guard_1 : decode cX5_guard 1 = .ok (.iload_n 1, 1) := by decide +kernel
theorem dX5_guard_2 : decode cX5_guard 2 = .ok (.if_icmp .gt 18, 3) := by decide +kernel
theorem dX5_guard_5 : decode cX5_guard 5 = .ok (.iload_n 1, 1) := by decide +kernel
theorem dX5_guard_6 : decode cX5_guard 6 = .ok (.iload_n 2, 1) := by decide +kernel
theorem dX5_guard_7 : decode cX5_guard 7 = .ok (.if_icmp .ge 13, 3) := by decide +kernel
theorem dX5_guard_10 : decode cX5_guard 10 = .ok (.iload_n 2, 1) := by decide +kernel
theorem dX5_guard_11 : decode cX5_guard 11 = .ok (.bipush 40, 2) := by decide +kernel
theorem dX5_guard_13 : decode cX5_guard 13 = .ok (.if_icmp .gt 7, 3) := by decide +kernel
theorem dX5_guard_16 : decode cX5_guard 16 = .ok (.iconst 1, 1) := by decide +kernel
theorem dX5_guard_17 : decode cX5_guard 17 = .ok (.goto 4, 3) := by decide +kernel
theorem dX5_guard_20 : decode cX5_guard 20 = .ok (.iconst 0, 1) := by decide +kernel
theorem dX5_guard_21 : decode cX5_guard 21 = .ok (.istore 5, 2) := by decide +kernel
theorem dX5_guard_23 : decode cX5_guard 23 = .ok (.iload 5, 2) := by decide +kernel
theorem dX5_guard_25 : decode cX5_guard 25 = .ok (.ifCond .eq 22, 3) := by decide +kernel
theorem dX5_guard_28 : decode cX5_guard 28 = .ok (.iload_n 3, 1) := by decide +kernel
theorem dX5_guard_29 : decode cX5_guard 29 = .ok (.bipush 8, 2) := by decide +kernel
theorem dX5_guard_31 : decode cX5_guard 31 = .ok (.invokestatic 38, 3) := by decide +kernel
theorem dX5_guard_34 : decode cX5_guard 34 = .ok (.ifCond .eq 13, 3) := by decide +kernel
theorem dX5_guard_37 : decode cX5_guard 37 = .ok (.iload 4, 2) := by decide +kernel
theorem dX5_guard_39 : decode cX5_guard 39 = .ok (.bipush 41, 2) := by decide +kernel
theorem dX5_guard_41 : decode cX5_guard 41 = .ok (.invokestatic 38, 3) := by decide +kernel
theorem dX5_guard_44 : decode cX5_guard 44 = .ok (.ifCond .ne 6, 3) := by decide +kernel
theorem dX5_guard_47 : decode cX5_guard 47 = .ok (.bipush (-101), 2) := by decide +kernel
theorem dX5_guard_49 : decode cX5_guard 49 = .ok (.ireturn, 1) := by decide +kernel
theorem dX5_guard_50 : decode cX5_guard 50 = .ok (.aload_n 0, 1) := by decide +kernel
theorem dX5_guard_51 : decode cX5_guard 51 = .ok (.getfield 10, 3) := by decide +kernel
theorem dX5_guard_54 : decode cX5_guard 54 = .ok (.iload_n 1, 1) := by decide +kernel
theorem dX5_guard_55 : decode cX5_guard 55 = .ok (.iload_n 2, 1) := by decide +kernel
theorem dX5_guard_56 : decode cX5_guard 56 = .ok (.iload_n 3, 1) := by decide +kernel
theorem dX5_guard_57 : decode cX5_guard 57 = .ok (.iload 4, 2) := by decide +kernel
theorem dX5_guard_59 : decode cX5_guard 59 = .ok (.invokevirtual 42, 3) := by decide +kernel
theorem dX5_guard_62 : decode cX5_guard 62 = .ok (.ireturn, 1) := by decide +kernel
theorem dX5_clear_0 : decode cX5_clear 0 = .ok (.aload_n 0, 1) := by decide +kernel
theorem dX5_clear_1 : decode cX5_clear 1 = .ok (.getfield 10, 3) := by decide +kernel
theorem dX5_clear_4 : decode cX5_clear 4 = .ok (.getfield 45, 3) := by decide +kernel
theorem dX5_clear_7 : decode cX5_clear 7 = .ok (.istore_n 1, 1) := by decide +kernel
theorem dX5_clear_8 : decode cX5_clear 8 = .ok (.aload_n 0, 1) := by decide +kernel
theorem dX5_clear_9 : decode cX5_clear 9 = .ok (.getfield 10, 3) := by decide +kernel
theorem dX5_clear_12 : decode cX5_clear 12 = .ok (.iconst 0, 1) := by decide +kernel
theorem dX5_clear_13 : decode cX5_clear 13 = .ok (.putfield 45, 3) := by decide +kernel
theorem dX5_clear_16 : decode cX5_clear 16 = .ok (.aload_n 0, 1) := by decide +kernel
theorem dX5_clear_17 : decode cX5_clear 17 = .ok (.getfield 10, 3) := by decide +kernel
theorem dX5_clear_20 : decode cX5_clear 20 = .ok (.iconst 0, 1) := by decide +kernel
theorem dX5_clear_21 : decode cX5_clear 21 = .ok (.putfield 49, 3) := by decide +kernel
theorem dX5_clear_24 : decode cX5_clear 24 = .ok (.iload_n 1, 1) := by decide +kernel
theorem dX5_clear_25 : decode cX5_clear 25 = .ok (.ireturn, 1) := by decide +kernel
theorem dX5_run_0 : decode cX5_run 0 = .ok (.iload_n 2, 1) := by decide +kernel
theorem dX5_run_1 : decode cX5_run 1 = .ok (.bipush 65, 2) := by decide +kernel
theorem dX5_run_3 : decode cX5_run 3 = .ok (.invokestatic 38, 3) := by decide +kernel
theorem dX5_run_6 : decode cX5_run 6 = .ok (.ifCond .ne 6, 3) := by decide +kernel
theorem dX5_run_9 : decode cX5_run 9 = .ok (.bipush (-101), 2) := by decide +kernel
theorem dX5_run_11 : decode cX5_run 11 = .ok (.ireturn, 1) := by decide +kernel
theorem dX5_run_12 : decode cX5_run 12 = .ok (.aload_n 0, 1) := by decide +kernel
theorem dX5_run_13 : decode cX5_run 13 = .ok (.getfield 19, 3) := by decide +kernel
theorem dX5_run_16 : decode cX5_run 16 = .ok (.iload_n 1, 1) := by decide +kernel
theorem dX5_run_17 : decode cX5_run 17 = .ok (.invokevirtual 52, 3) := by decide +kernel
theorem dX5_run_20 : decode cX5_run 20 = .ok (.aload_n 0, 1) := by decide +kernel
theorem dX5_run_21 : decode cX5_run 21 = .ok (.getfield 26, 3) := by decide +kernel
theorem dX5_run_24 : decode cX5_run 24 = .ok (.invokevirtual 56, 3) := by decide +kernel
theorem dX5_run_27 : decode cX5_run 27 = .ok (.iconst 0, 1) := by decide +kernel
theorem dX5_run_28 : decode cX5_run 28 = .ok (.istore_n 3, 1) := by decide +kernel
theorem dX5_run_29 : decode cX5_run 29 = .ok (.iconst 0, 1) := by decide +kernel
theorem dX5_run_30 : decode cX5_run 30 = .ok (.istore 4, 2) := by decide +kernel
theorem dX5_run_32 : decode cX5_run 32 = .ok (.iload 4, 2) := by decide +kernel
theorem dX5_run_34 : decode cX5_run 34 = .ok (.iload_n 2, 1) := by decide +kernel
theorem dX5_run_35 : decode cX5_run 35 = .ok (.if_icmp .ge 26, 3) := by decide +kernel
theorem dX5_run_38 : decode cX5_run 38 = .ok (.aload_n 0, 1) := by decide +kernel
theorem dX5_run_39 : decode cX5_run 39 = .ok (.getfield 10, 3) := by decide +kernel
theorem dX5_run_42 : decode cX5_run 42 = .ok (.iload_n 3, 1) := by decide +kernel
theorem dX5_run_43 : decode cX5_run 43 = .ok (.invokevirtual 58, 3) := by decide +kernel
theorem dX5_run_46 : decode cX5_run 46 = .ok (.ifCond .eq 15, 3) := by decide +kernel
theorem dX5_run_49 : decode cX5_run 49 = .ok (.aload_n 0, 1) := by decide +kernel
theorem dX5_run_50 : decode cX5_run 50 = .ok (.iload_n 3, 1) := by decide +kernel
theorem dX5_run_51 : decode cX5_run 51 = .ok (.invokevirtual 62, 3) := by decide +kernel
theorem dX5_run_54 : decode cX5_run 54 = .ok (.istore_n 3, 1) := by decide +kernel
theorem dX5_run_55 : decode cX5_run 55 = .ok (.iinc 4 1, 3) := by decide +kernel
theorem dX5_run_58 : decode cX5_run 58 = .ok (.goto (-26), 3) := by decide +kernel
theorem dX5_run_61 : decode cX5_run 61 = .ok (.aload_n 0, 1) := by decide +kernel
theorem dX5_run_62 : decode cX5_run 62 = .ok (.getfield 26, 3) := by decide +kernel
theorem dX5_run_65 : decode cX5_run 65 = .ok (.getfield 66, 3) := by decide +kernel
theorem dX5_run_68 : decode cX5_run 68 = .ok (.ifCond .eq 5, 3) := by decide +kernel
theorem dX5_run_71 : decode cX5_run 71 = .ok (.iconst 1, 1) := by decide +kernel
theorem dX5_run_72 : decode cX5_run 72 = .ok (.ireturn, 1) := by decide +kernel
theorem dX5_run_73 : decode cX5_run 73 = .ok (.aload_n 0, 1) := by decide +kernel
theorem dX5_run_74 : decode cX5_run 74 = .ok (.getfield 10, 3) := by decide +kernel
theorem dX5_run_77 : decode cX5_run 77 = .ok (.iload_n 3, 1) := by decide +kernel
theorem dX5_run_78 : decode cX5_run 78 = .ok (.invokevirtual 58, 3) := by decide +kernel
theorem dX5_run_81 : decode cX5_run 81 = .ok (.ifCond .eq 7, 3) := by decide +kernel
theorem dX5_run_84 : decode cX5_run 84 = .ok (.iconst 2, 1) := by decide +kernel
theorem dX5_run_85 : decode cX5_run 85 = .ok (.goto 4, 3) := by decide +kernel
theorem dX5_run_88 : decode cX5_run 88 = .ok (.iconst 0, 1) := by decide +kernel
theorem dX5_run_89 : decode cX5_run 89 = .ok (.ireturn, 1) := by decide +kernel
theorem dX5_told_0 : decode cX5_told 0 = .ok (.iload_n 1, 1) := by decide +kernel
theorem dX5_told_1 : decode cX5_told 1 = .ok (.tableswitch 75 0 4 #[35, 43, 51, 59, 67], 35) := by decide +kernel
theorem dX5_told_36 : decode cX5_told 36 = .ok (.aload_n 0, 1) := by decide +kernel
theorem dX5_told_37 : decode cX5_told 37 = .ok (.getfield 26, 3) := by decide +kernel
theorem dX5_told_40 : decode cX5_told 40 = .ok (.getfield 66, 3) := by decide +kernel
theorem dX5_told_43 : decode cX5_told 43 = .ok (.ireturn, 1) := by decide +kernel
theorem dX5_told_44 : decode cX5_told 44 = .ok (.aload_n 0, 1) := by decide +kernel
theorem dX5_told_45 : decode cX5_told 45 = .ok (.getfield 26, 3) := by decide +kernel
theorem dX5_told_48 : decode cX5_told 48 = .ok (.getfield 69, 3) := by decide +kernel
theorem dX5_told_51 : decode cX5_told 51 = .ok (.ireturn, 1) := by decide +kernel
theorem dX5_told_52 : decode cX5_told 52 = .ok (.aload_n 0, 1) := by decide +kernel
theorem dX5_told_53 : decode cX5_told 53 = .ok (.getfield 26, 3) := by decide +kernel
theorem dX5_told_56 : decode cX5_told 56 = .ok (.getfield 72, 3) := by decide +kernel
theorem dX5_told_59 : decode cX5_told 59 = .ok (.ireturn, 1) := by decide +kernel
theorem dX5_told_60 : decode cX5_told 60 = .ok (.aload_n 0, 1) := by decide +kernel
theorem dX5_told_61 : decode cX5_told 61 = .ok (.getfield 26, 3) := by decide +kernel
theorem dX5_told_64 : decode cX5_told 64 = .ok (.getfield 75, 3) := by decide +kernel
theorem dX5_told_67 : decode cX5_told 67 = .ok (.ireturn, 1) := by decide +kernel
theorem dX5_told_68 : decode cX5_told 68 = .ok (.aload_n 0, 1) := by decide +kernel
theorem dX5_told_69 : decode cX5_told 69 = .ok (.getfield 26, 3) := by decide +kernel
theorem dX5_told_72 : decode cX5_told 72 = .ok (.getfield 78, 3) := by decide +kernel
theorem dX5_told_75 : decode cX5_told 75 = .ok (.ireturn, 1) := by decide +kernel
theorem dX5_told_76 : decode cX5_told 76 = .ok (.bipush (-101), 2) := by decide +kernel
theorem dX5_told_78 : decode cX5_told 78 = .ok (.ireturn, 1) := by decide +kernel
theorem dX5_caught_0 : decode cX5_caught 0 = .ok (.iload_n 1, 1) := by decide +kernel
theorem dX5_caught_1 : decode cX5_caught 1 = .ok (.ifCond .eq 12, 3) := by decide +kernel
theorem dX5_caught_4 : decode cX5_caught 4 = .ok (.iload_n 1, 1) := by decide +kernel
theorem dX5_caught_5 : decode cX5_caught 5 = .ok (.bipush 8, 2) := by decide +kernel
theorem dX5_caught_7 : decode cX5_caught 7 = .ok (.invokestatic 38, 3) := by decide +kernel
theorem dX5_caught_10 : decode cX5_caught 10 = .ok (.ifCond .ne 6, 3) := by decide +kernel
theorem dX5_caught_13 : decode cX5_caught 13 = .ok (.bipush (-101), 2) := by decide +kernel
theorem dX5_caught_15 : decode cX5_caught 15 = .ok (.ireturn, 1) := by decide +kernel
theorem dX5_caught_16 : decode cX5_caught 16 = .ok (.aload_n 0, 1) := by decide +kernel
theorem dX5_caught_17 : decode cX5_caught 17 = .ok (.getfield 26, 3) := by decide +kernel
theorem dX5_caught_20 : decode cX5_caught 20 = .ok (.getfield 81, 3) := by decide +kernel
theorem dX5_caught_23 : decode cX5_caught 23 = .ok (.iload_n 1, 1) := by decide +kernel
theorem dX5_caught_24 : decode cX5_caught 24 = .ok (.iaload, 1) := by decide +kernel
theorem dX5_caught_25 : decode cX5_caught 25 = .ok (.ireturn, 1) := by decide +kernel
theorem dX5_register_0 : decode cX5_register 0 = .ok (.iload_n 1, 1) := by decide +kernel
theorem dX5_register_1 : decode cX5_register 1 = .ok (.bipush 6, 2) := by decide +kernel
theorem dX5_register_3 : decode cX5_register 3 = .ok (.invokestatic 38, 3) := by decide +kernel
theorem dX5_register_6 : decode cX5_register 6 = .ok (.ifCond .eq 15, 3) := by decide +kernel
theorem dX5_register_9 : decode cX5_register 9 = .ok (.aload_n 0, 1) := by decide +kernel
theorem dX5_register_10 : decode cX5_register 10 = .ok (.getfield 19, 3) := by decide +kernel
theorem dX5_register_13 : decode cX5_register 13 = .ok (.getfield 85, 3) := by decide +kernel
theorem dX5_register_16 : decode cX5_register 16 = .ok (.iload_n 1, 1) := by decide +kernel
theorem dX5_register_17 : decode cX5_register 17 = .ok (.iaload, 1) := by decide +kernel
theorem dX5_register_18 : decode cX5_register 18 = .ok (.goto 4, 3) := by decide +kernel
theorem dX5_register_21 : decode cX5_register 21 = .ok (.iconst 0, 1) := by decide +kernel
theorem dX5_register_22 : decode cX5_register 22 = .ok (.ireturn, 1) := by decide +kernel
theorem dX5_item_0 : decode cX5_item 0 = .ok (.iload_n 1, 1) := by decide +kernel
theorem dX5_item_1 : decode cX5_item 1 = .ok (.bipush 8, 2) := by decide +kernel
theorem dX5_item_3 : decode cX5_item 3 = .ok (.invokestatic 38, 3) := by decide +kernel
theorem dX5_item_6 : decode cX5_item 6 = .ok (.ifCond .eq 11, 3) := by decide +kernel
theorem dX5_item_9 : decode cX5_item 9 = .ok (.iload_n 2, 1) := by decide +kernel
theorem dX5_item_10 : decode cX5_item 10 = .ok (.iconst 4, 1) := by decide +kernel
theorem dX5_item_11 : decode cX5_item 11 = .ok (.invokestatic 38, 3) := by decide +kernel
theorem dX5_item_14 : decode cX5_item 14 = .ok (.ifCond .ne 6, 3) := by decide +kernel
theorem dX5_item_17 : decode cX5_item 17 = .ok (.bipush (-101), 2) := by decide +kernel
theorem dX5_item_19 : decode cX5_item 19 = .ok (.ireturn, 1) := by decide +kernel
theorem dX5_item_20 : decode cX5_item 20 = .ok (.aload_n 0, 1) := by decide +kernel
theorem dX5_item_21 : decode cX5_item 21 = .ok (.getfield 19, 3) := by decide +kernel
theorem dX5_item_24 : decode cX5_item 24 = .ok (.getfield 88, 3) := by decide +kernel
theorem dX5_item_27 : decode cX5_item 27 = .ok (.iload_n 1, 1) := by decide +kernel
theorem dX5_item_28 : decode cX5_item 28 = .ok (.iaload, 1) := by decide +kernel
theorem dX5_item_29 : decode cX5_item 29 = .ok (.istore_n 3, 1) := by decide +kernel
theorem dX5_item_30 : decode cX5_item 30 = .ok (.aload_n 0, 1) := by decide +kernel
theorem dX5_item_31 : decode cX5_item 31 = .ok (.getfield 19, 3) := by decide +kernel
theorem dX5_item_34 : decode cX5_item 34 = .ok (.getfield 91, 3) := by decide +kernel
theorem dX5_item_37 : decode cX5_item 37 = .ok (.iload_n 3, 1) := by decide +kernel
theorem dX5_item_38 : decode cX5_item 38 = .ok (.invokevirtual 95, 3) := by decide +kernel
theorem dX5_item_41 : decode cX5_item 41 = .ok (.ifCond .ne 5, 3) := by decide +kernel
theorem dX5_item_44 : decode cX5_item 44 = .ok (.iconst (-1), 1) := by decide +kernel
theorem dX5_item_45 : decode cX5_item 45 = .ok (.ireturn, 1) := by decide +kernel
theorem dX5_item_46 : decode cX5_item 46 = .ok (.iload_n 2, 1) := by decide +kernel
theorem dX5_item_47 : decode cX5_item 47 = .ok (.tableswitch 64 0 2 #[25, 38, 51], 25) := by decide +kernel
theorem dX5_item_72 : decode cX5_item 72 = .ok (.aload_n 0, 1) := by decide +kernel
theorem dX5_item_73 : decode cX5_item 73 = .ok (.getfield 19, 3) := by decide +kernel
theorem dX5_item_76 : decode cX5_item 76 = .ok (.getfield 91, 3) := by decide +kernel
theorem dX5_item_79 : decode cX5_item 79 = .ok (.getfield 100, 3) := by decide +kernel
theorem dX5_item_82 : decode cX5_item 82 = .ok (.iload_n 3, 1) := by decide +kernel
theorem dX5_item_83 : decode cX5_item 83 = .ok (.iaload, 1) := by decide +kernel
theorem dX5_item_84 : decode cX5_item 84 = .ok (.ireturn, 1) := by decide +kernel
theorem dX5_item_85 : decode cX5_item 85 = .ok (.aload_n 0, 1) := by decide +kernel
theorem dX5_item_86 : decode cX5_item 86 = .ok (.getfield 19, 3) := by decide +kernel
theorem dX5_item_89 : decode cX5_item 89 = .ok (.getfield 91, 3) := by decide +kernel
theorem dX5_item_92 : decode cX5_item 92 = .ok (.getfield 103, 3) := by decide +kernel
theorem dX5_item_95 : decode cX5_item 95 = .ok (.iload_n 3, 1) := by decide +kernel
theorem dX5_item_96 : decode cX5_item 96 = .ok (.iaload, 1) := by decide +kernel
theorem dX5_item_97 : decode cX5_item 97 = .ok (.ireturn, 1) := by decide +kernel
theorem dX5_item_98 : decode cX5_item 98 = .ok (.aload_n 0, 1) := by decide +kernel
theorem dX5_item_99 : decode cX5_item 99 = .ok (.getfield 19, 3) := by decide +kernel
theorem dX5_item_102 : decode cX5_item 102 = .ok (.getfield 91, 3) := by decide +kernel
theorem dX5_item_105 : decode cX5_item 105 = .ok (.getfield 106, 3) := by decide +kernel
theorem dX5_item_108 : decode cX5_item 108 = .ok (.iload_n 3, 1) := by decide +kernel
theorem dX5_item_109 : decode cX5_item 109 = .ok (.iaload, 1) := by decide +kernel
theorem dX5_item_110 : decode cX5_item 110 = .ok (.ireturn, 1) := by decide +kernel
theorem dX5_item_111 : decode cX5_item 111 = .ok (.aload_n 0, 1) := by decide +kernel
theorem dX5_item_112 : decode cX5_item 112 = .ok (.getfield 19, 3) := by decide +kernel
theorem dX5_item_115 : decode cX5_item 115 = .ok (.iload_n 3, 1) := by decide +kernel
theorem dX5_item_116 : decode cX5_item 116 = .ok (.invokevirtual 109, 3) := by decide +kernel
theorem dX5_item_119 : decode cX5_item 119 = .ok (.ireturn, 1) := by decide +kernel
theorem dX5_row_0 : decode cX5_row 0 = .ok (.iload_n 2, 1) := by decide +kernel
theorem dX5_row_1 : decode cX5_row 1 = .ok (.tableswitch 132 0 3 #[31, 57, 83, 106], 31) := by decide +kernel
theorem dX5_row_32 : decode cX5_row 32 = .ok (.iload_n 1, 1) := by decide +kernel
theorem dX5_row_33 : decode cX5_row 33 = .ok (.iconst 4, 1) := by decide +kernel
theorem dX5_row_34 : decode cX5_row 34 = .ok (.invokestatic 38, 3) := by decide +kernel
theorem dX5_row_37 : decode cX5_row 37 = .ok (.ifCond .eq 18, 3) := by decide +kernel
theorem dX5_row_40 : decode cX5_row 40 = .ok (.aload_n 0, 1) := by decide +kernel
theorem dX5_row_41 : decode cX5_row 41 = .ok (.getfield 19, 3) := by decide +kernel
theorem dX5_row_44 : decode cX5_row 44 = .ok (.getfield 112, 3) := by decide +kernel
theorem dX5_row_47 : decode cX5_row 47 = .ok (.iload_n 1, 1) := by decide +kernel
theorem dX5_row_48 : decode cX5_row 48 = .ok (.aaload, 1) := by decide +kernel
theorem dX5_row_49 : decode cX5_row 49 = .ok (.getfield 116, 3) := by decide +kernel
theorem dX5_row_52 : decode cX5_row 52 = .ok (.goto 5, 3) := by decide +kernel
theorem dX5_row_55 : decode cX5_row 55 = .ok (.bipush (-101), 2) := by decide +kernel
theorem dX5_row_57 : decode cX5_row 57 = .ok (.ireturn, 1) := by decide +kernel
theorem dX5_row_58 : decode cX5_row 58 = .ok (.iload_n 1, 1) := by decide +kernel
theorem dX5_row_59 : decode cX5_row 59 = .ok (.iconst 3, 1) := by decide +kernel
theorem dX5_row_60 : decode cX5_row 60 = .ok (.invokestatic 38, 3) := by decide +kernel
theorem dX5_row_63 : decode cX5_row 63 = .ok (.ifCond .eq 18, 3) := by decide +kernel
theorem dX5_row_66 : decode cX5_row 66 = .ok (.aload_n 0, 1) := by decide +kernel
theorem dX5_row_67 : decode cX5_row 67 = .ok (.getfield 19, 3) := by decide +kernel
theorem dX5_row_70 : decode cX5_row 70 = .ok (.getfield 121, 3) := by decide +kernel
theorem dX5_row_73 : decode cX5_row 73 = .ok (.iload_n 1, 1) := by decide +kernel
theorem dX5_row_74 : decode cX5_row 74 = .ok (.aaload, 1) := by decide +kernel
theorem dX5_row_75 : decode cX5_row 75 = .ok (.getfield 116, 3) := by decide +kernel
theorem dX5_row_78 : decode cX5_row 78 = .ok (.goto 5, 3) := by decide +kernel
theorem dX5_row_81 : decode cX5_row 81 = .ok (.bipush (-101), 2) := by decide +kernel
theorem dX5_row_83 : decode cX5_row 83 = .ok (.ireturn, 1) := by decide +kernel
theorem dX5_row_84 : decode cX5_row 84 = .ok (.iload_n 1, 1) := by decide +kernel
theorem dX5_row_85 : decode cX5_row 85 = .ok (.iconst 2, 1) := by decide +kernel
theorem dX5_row_86 : decode cX5_row 86 = .ok (.invokestatic 38, 3) := by decide +kernel
theorem dX5_row_89 : decode cX5_row 89 = .ok (.ifCond .eq 15, 3) := by decide +kernel
theorem dX5_row_92 : decode cX5_row 92 = .ok (.aload_n 0, 1) := by decide +kernel
theorem dX5_row_93 : decode cX5_row 93 = .ok (.getfield 19, 3) := by decide +kernel
theorem dX5_row_96 : decode cX5_row 96 = .ok (.getfield 124, 3) := by decide +kernel
theorem dX5_row_99 : decode cX5_row 99 = .ok (.iload_n 1, 1) := by decide +kernel
theorem dX5_row_100 : decode cX5_row 100 = .ok (.iaload, 1) := by decide +kernel
theorem dX5_row_101 : decode cX5_row 101 = .ok (.goto 5, 3) := by decide +kernel
theorem dX5_row_104 : decode cX5_row 104 = .ok (.bipush (-101), 2) := by decide +kernel
theorem dX5_row_106 : decode cX5_row 106 = .ok (.ireturn, 1) := by decide +kernel
theorem dX5_row_107 : decode cX5_row 107 = .ok (.iload_n 1, 1) := by decide +kernel
theorem dX5_row_108 : decode cX5_row 108 = .ok (.iconst 4, 1) := by decide +kernel
theorem dX5_row_109 : decode cX5_row 109 = .ok (.invokestatic 38, 3) := by decide +kernel
theorem dX5_row_112 : decode cX5_row 112 = .ok (.ifCond .eq 18, 3) := by decide +kernel
theorem dX5_row_115 : decode cX5_row 115 = .ok (.aload_n 0, 1) := by decide +kernel
theorem dX5_row_116 : decode cX5_row 116 = .ok (.getfield 19, 3) := by decide +kernel
theorem dX5_row_119 : decode cX5_row 119 = .ok (.getfield 112, 3) := by decide +kernel
theorem dX5_row_122 : decode cX5_row 122 = .ok (.iload_n 1, 1) := by decide +kernel
theorem dX5_row_123 : decode cX5_row 123 = .ok (.aaload, 1) := by decide +kernel
theorem dX5_row_124 : decode cX5_row 124 = .ok (.getfield 127, 3) := by decide +kernel
theorem dX5_row_127 : decode cX5_row 127 = .ok (.goto 5, 3) := by decide +kernel
theorem dX5_row_130 : decode cX5_row 130 = .ok (.bipush (-101), 2) := by decide +kernel
theorem dX5_row_132 : decode cX5_row 132 = .ok (.ireturn, 1) := by decide +kernel
theorem dX5_row_133 : decode cX5_row 133 = .ok (.bipush (-101), 2) := by decide +kernel
theorem dX5_row_135 : decode cX5_row 135 = .ok (.ireturn, 1) := by decide +kernel
theorem dX5_onBelt_0 : decode cX5_onBelt 0 = .ok (.iload_n 1, 1) := by decide +kernel
theorem dX5_onBelt_1 : decode cX5_onBelt 1 = .ok (.iconst 4, 1) := by decide +kernel
theorem dX5_onBelt_2 : decode cX5_onBelt 2 = .ok (.invokestatic 38, 3) := by decide +kernel
theorem dX5_onBelt_5 : decode cX5_onBelt 5 = .ok (.ifCond .ne 6, 3) := by decide +kernel
theorem dX5_onBelt_8 : decode cX5_onBelt 8 = .ok (.bipush (-101), 2) := by decide +kernel
theorem dX5_onBelt_10 : decode cX5_onBelt 10 = .ok (.ireturn, 1) := by decide +kernel
theorem dX5_onBelt_11 : decode cX5_onBelt 11 = .ok (.aload_n 0, 1) := by decide +kernel
theorem dX5_onBelt_12 : decode cX5_onBelt 12 = .ok (.getfield 19, 3) := by decide +kernel
theorem dX5_onBelt_15 : decode cX5_onBelt 15 = .ok (.getfield 112, 3) := by decide +kernel
theorem dX5_onBelt_18 : decode cX5_onBelt 18 = .ok (.iload_n 1, 1) := by decide +kernel
theorem dX5_onBelt_19 : decode cX5_onBelt 19 = .ok (.aaload, 1) := by decide +kernel
theorem dX5_onBelt_20 : decode cX5_onBelt 20 = .ok (.astore_n 3, 1) := by decide +kernel
theorem dX5_onBelt_21 : decode cX5_onBelt 21 = .ok (.aload_n 3, 1) := by decide +kernel
theorem dX5_onBelt_22 : decode cX5_onBelt 22 = .ok (.iload_n 2, 1) := by decide +kernel
theorem dX5_onBelt_23 : decode cX5_onBelt 23 = .ok (.invokevirtual 130, 3) := by decide +kernel
theorem dX5_onBelt_26 : decode cX5_onBelt 26 = .ok (.ifCond .ne 5, 3) := by decide +kernel
theorem dX5_onBelt_29 : decode cX5_onBelt 29 = .ok (.iconst (-1), 1) := by decide +kernel
theorem dX5_onBelt_30 : decode cX5_onBelt 30 = .ok (.ireturn, 1) := by decide +kernel
theorem dX5_onBelt_31 : decode cX5_onBelt 31 = .ok (.aload_n 3, 1) := by decide +kernel
theorem dX5_onBelt_32 : decode cX5_onBelt 32 = .ok (.getfield 133, 3) := by decide +kernel
theorem dX5_onBelt_35 : decode cX5_onBelt 35 = .ok (.iload_n 2, 1) := by decide +kernel
theorem dX5_onBelt_36 : decode cX5_onBelt 36 = .ok (.iaload, 1) := by decide +kernel
theorem dX5_onBelt_37 : decode cX5_onBelt 37 = .ok (.istore 4, 2) := by decide +kernel
theorem dX5_onBelt_39 : decode cX5_onBelt 39 = .ok (.aload_n 0, 1) := by decide +kernel
theorem dX5_onBelt_40 : decode cX5_onBelt 40 = .ok (.getfield 19, 3) := by decide +kernel
theorem dX5_onBelt_43 : decode cX5_onBelt 43 = .ok (.getfield 91, 3) := by decide +kernel
theorem dX5_onBelt_46 : decode cX5_onBelt 46 = .ok (.iload 4, 2) := by decide +kernel
theorem dX5_onBelt_48 : decode cX5_onBelt 48 = .ok (.invokevirtual 95, 3) := by decide +kernel
theorem dX5_onBelt_51 : decode cX5_onBelt 51 = .ok (.ifCond .eq 19, 3) := by decide +kernel
theorem dX5_onBelt_54 : decode cX5_onBelt 54 = .ok (.aload_n 0, 1) := by decide +kernel
theorem dX5_onBelt_55 : decode cX5_onBelt 55 = .ok (.getfield 19, 3) := by decide +kernel
theorem dX5_onBelt_58 : decode cX5_onBelt 58 = .ok (.getfield 91, 3) := by decide +kernel
theorem dX5_onBelt_61 : decode cX5_onBelt 61 = .ok (.getfield 100, 3) := by decide +kernel
theorem dX5_onBelt_64 : decode cX5_onBelt 64 = .ok (.iload 4, 2) := by decide +kernel
theorem dX5_onBelt_66 : decode cX5_onBelt 66 = .ok (.iaload, 1) := by decide +kernel
theorem dX5_onBelt_67 : decode cX5_onBelt 67 = .ok (.goto 4, 3) := by decide +kernel
theorem dX5_onBelt_70 : decode cX5_onBelt 70 = .ok (.iconst (-1), 1) := by decide +kernel
theorem dX5_onBelt_71 : decode cX5_onBelt 71 = .ok (.ireturn, 1) := by decide +kernel
theorem dX5_counted_0 : decode cX5_counted 0 = .ok (.iload_n 1, 1) := by decide +kernel
theorem dX5_counted_1 : decode cX5_counted 1 = .ok (.iconst 3, 1) := by decide +kernel
theorem dX5_counted_2 : decode cX5_counted 2 = .ok (.invokestatic 38, 3) := by decide +kernel
theorem dX5_counted_5 : decode cX5_counted 5 = .ok (.ifCond .ne 6, 3) := by decide +kernel
theorem dX5_counted_8 : decode cX5_counted 8 = .ok (.bipush (-101), 2) := by decide +kernel
theorem dX5_counted_10 : decode cX5_counted 10 = .ok (.ireturn, 1) := by decide +kernel
theorem dX5_counted_11 : decode cX5_counted 11 = .ok (.aload_n 0, 1) := by decide +kernel
theorem dX5_counted_12 : decode cX5_counted 12 = .ok (.getfield 19, 3) := by decide +kernel
theorem dX5_counted_15 : decode cX5_counted 15 = .ok (.getfield 121, 3) := by decide +kernel
theorem dX5_counted_18 : decode cX5_counted 18 = .ok (.iload_n 1, 1) := by decide +kernel
theorem dX5_counted_19 : decode cX5_counted 19 = .ok (.aaload, 1) := by decide +kernel
theorem dX5_counted_20 : decode cX5_counted 20 = .ok (.astore_n 3, 1) := by decide +kernel
theorem dX5_counted_21 : decode cX5_counted 21 = .ok (.aload_n 3, 1) := by decide +kernel
theorem dX5_counted_22 : decode cX5_counted 22 = .ok (.iload_n 2, 1) := by decide +kernel
theorem dX5_counted_23 : decode cX5_counted 23 = .ok (.invokevirtual 130, 3) := by decide +kernel
theorem dX5_counted_26 : decode cX5_counted 26 = .ok (.ifCond .eq 12, 3) := by decide +kernel
theorem dX5_counted_29 : decode cX5_counted 29 = .ok (.aload_n 3, 1) := by decide +kernel
theorem dX5_counted_30 : decode cX5_counted 30 = .ok (.getfield 133, 3) := by decide +kernel
theorem dX5_counted_33 : decode cX5_counted 33 = .ok (.iload_n 2, 1) := by decide +kernel
theorem dX5_counted_34 : decode cX5_counted 34 = .ok (.iaload, 1) := by decide +kernel
theorem dX5_counted_35 : decode cX5_counted 35 = .ok (.goto 4, 3) := by decide +kernel
theorem dX5_counted_38 : decode cX5_counted 38 = .ok (.iconst 0, 1) := by decide +kernel
theorem dX5_counted_39 : decode cX5_counted 39 = .ok (.ireturn, 1) := by decide +kernel
theorem dX5_nextLine_0 : decode cX5_nextLine 0 = .ok (.aload_n 0, 1) := by decide +kernel
theorem dX5_nextLine_1 : decode cX5_nextLine 1 = .ok (.getfield 10, 3) := by decide +kernel
theorem dX5_nextLine_4 : decode cX5_nextLine 4 = .ok (.getfield 136, 3) := by decide +kernel
theorem dX5_nextLine_7 : decode cX5_nextLine 7 = .ok (.iload_n 1, 1) := by decide +kernel
theorem dX5_nextLine_8 : decode cX5_nextLine 8 = .ok (.iaload, 1) := by decide +kernel
theorem dX5_nextLine_9 : decode cX5_nextLine 9 = .ok (.istore_n 2, 1) := by decide +kernel
theorem dX5_nextLine_10 : decode cX5_nextLine 10 = .ok (.aload_n 0, 1) := by decide +kernel
theorem dX5_nextLine_11 : decode cX5_nextLine 11 = .ok (.getfield 10, 3) := by decide +kernel
theorem dX5_nextLine_14 : decode cX5_nextLine 14 = .ok (.getfield 139, 3) := by decide +kernel
theorem dX5_nextLine_17 : decode cX5_nextLine 17 = .ok (.iload_n 1, 1) := by decide +kernel
theorem dX5_nextLine_18 : decode cX5_nextLine 18 = .ok (.iaload, 1) := by decide +kernel
theorem dX5_nextLine_19 : decode cX5_nextLine 19 = .ok (.istore_n 3, 1) := by decide +kernel
theorem dX5_nextLine_20 : decode cX5_nextLine 20 = .ok (.aload_n 0, 1) := by decide +kernel
theorem dX5_nextLine_21 : decode cX5_nextLine 21 = .ok (.getfield 10, 3) := by decide +kernel
theorem dX5_nextLine_24 : decode cX5_nextLine 24 = .ok (.getfield 142, 3) := by decide +kernel
theorem dX5_nextLine_27 : decode cX5_nextLine 27 = .ok (.iload_n 1, 1) := by decide +kernel
theorem dX5_nextLine_28 : decode cX5_nextLine 28 = .ok (.iaload, 1) := by decide +kernel
theorem dX5_nextLine_29 : decode cX5_nextLine 29 = .ok (.istore 4, 2) := by decide +kernel
theorem dX5_nextLine_31 : decode cX5_nextLine 31 = .ok (.aload_n 0, 1) := by decide +kernel
theorem dX5_nextLine_32 : decode cX5_nextLine 32 = .ok (.getfield 19, 3) := by decide +kernel
theorem dX5_nextLine_35 : decode cX5_nextLine 35 = .ok (.iload_n 2, 1) := by decide +kernel
theorem dX5_nextLine_36 : decode cX5_nextLine 36 = .ok (.iload_n 3, 1) := by decide +kernel
theorem dX5_nextLine_37 : decode cX5_nextLine 37 = .ok (.iload 4, 2) := by decide +kernel
theorem dX5_nextLine_39 : decode cX5_nextLine 39 = .ok (.aload_n 0, 1) := by decide +kernel
theorem dX5_nextLine_40 : decode cX5_nextLine 40 = .ok (.getfield 10, 3) := by decide +kernel
theorem dX5_nextLine_43 : decode cX5_nextLine 43 = .ok (.getfield 145, 3) := by decide +kernel
theorem dX5_nextLine_46 : decode cX5_nextLine 46 = .ok (.iload_n 1, 1) := by decide +kernel
theorem dX5_nextLine_47 : decode cX5_nextLine 47 = .ok (.iaload, 1) := by decide +kernel
theorem dX5_nextLine_48 : decode cX5_nextLine 48 = .ok (.invokevirtual 148, 3) := by decide +kernel
theorem dX5_nextLine_51 : decode cX5_nextLine 51 = .ok (.istore 5, 2) := by decide +kernel
theorem dX5_nextLine_53 : decode cX5_nextLine 53 = .ok (.aload_n 0, 1) := by decide +kernel
theorem dX5_nextLine_54 : decode cX5_nextLine 54 = .ok (.getfield 26, 3) := by decide +kernel
theorem dX5_nextLine_57 : decode cX5_nextLine 57 = .ok (.dup, 1) := by decide +kernel
theorem dX5_nextLine_58 : decode cX5_nextLine 58 = .ok (.getfield 75, 3) := by decide +kernel
theorem dX5_nextLine_61 : decode cX5_nextLine 61 = .ok (.iconst 1, 1) := by decide +kernel
theorem dX5_nextLine_62 : decode cX5_nextLine 62 = .ok (.iadd, 1) := by decide +kernel
theorem dX5_nextLine_63 : decode cX5_nextLine 63 = .ok (.putfield 75, 3) := by decide +kernel
theorem dX5_nextLine_66 : decode cX5_nextLine 66 = .ok (.iload 5, 2) := by decide +kernel
theorem dX5_nextLine_68 : decode cX5_nextLine 68 = .ok (.ifCond .ne 16, 3) := by decide +kernel
theorem dX5_nextLine_71 : decode cX5_nextLine 71 = .ok (.aload_n 0, 1) := by decide +kernel
theorem dX5_nextLine_72 : decode cX5_nextLine 72 = .ok (.getfield 19, 3) := by decide +kernel
theorem dX5_nextLine_75 : decode cX5_nextLine 75 = .ok (.iload_n 1, 1) := by decide +kernel
theorem dX5_nextLine_76 : decode cX5_nextLine 76 = .ok (.iload_n 2, 1) := by decide +kernel
theorem dX5_nextLine_77 : decode cX5_nextLine 77 = .ok (.iload_n 3, 1) := by decide +kernel
theorem dX5_nextLine_78 : decode cX5_nextLine 78 = .ok (.iload 4, 2) := by decide +kernel
theorem dX5_nextLine_80 : decode cX5_nextLine 80 = .ok (.invokevirtual 151, 3) := by decide +kernel
theorem dX5_nextLine_83 : decode cX5_nextLine 83 = .ok (.ireturn, 1) := by decide +kernel
theorem dX5_nextLine_84 : decode cX5_nextLine 84 = .ok (.iload 5, 2) := by decide +kernel
theorem dX5_nextLine_86 : decode cX5_nextLine 86 = .ok (.bipush 7, 2) := by decide +kernel
theorem dX5_nextLine_88 : decode cX5_nextLine 88 = .ok (.if_icmp .ne 19, 3) := by decide +kernel
theorem dX5_nextLine_91 : decode cX5_nextLine 91 = .ok (.aload_n 0, 1) := by decide +kernel
theorem dX5_nextLine_92 : decode cX5_nextLine 92 = .ok (.getfield 26, 3) := by decide +kernel
theorem dX5_nextLine_95 : decode cX5_nextLine 95 = .ok (.aload_n 0, 1) := by decide +kernel
theorem dX5_nextLine_96 : decode cX5_nextLine 96 = .ok (.getfield 19, 3) := by decide +kernel
theorem dX5_nextLine_99 : decode cX5_nextLine 99 = .ok (.getfield 154, 3) := by decide +kernel
theorem dX5_nextLine_102 : decode cX5_nextLine 102 = .ok (.iload_n 3, 1) := by decide +kernel
theorem dX5_nextLine_103 : decode cX5_nextLine 103 = .ok (.iaload, 1) := by decide +kernel
theorem dX5_nextLine_104 : decode cX5_nextLine 104 = .ok (.putfield 72, 3) := by decide +kernel
theorem dX5_nextLine_107 : decode cX5_nextLine 107 = .ok (.aload_n 0, 1) := by decide +kernel
theorem dX5_nextLine_108 : decode cX5_nextLine 108 = .ok (.getfield 10, 3) := by decide +kernel
theorem dX5_nextLine_111 : decode cX5_nextLine 111 = .ok (.iload_n 1, 1) := by decide +kernel
theorem dX5_nextLine_112 : decode cX5_nextLine 112 = .ok (.iload 5, 2) := by decide +kernel
theorem dX5_nextLine_114 : decode cX5_nextLine 114 = .ok (.invokevirtual 157, 3) := by decide +kernel
theorem dX5_nextLine_117 : decode cX5_nextLine 117 = .ok (.istore 6, 2) := by decide +kernel
theorem dX5_nextLine_119 : decode cX5_nextLine 119 = .ok (.iload 6, 2) := by decide +kernel
theorem dX5_nextLine_121 : decode cX5_nextLine 121 = .ok (.iconst (-1), 1) := by decide +kernel
theorem dX5_nextLine_122 : decode cX5_nextLine 122 = .ok (.if_icmp .ne 22, 3) := by decide +kernel
theorem dX5_nextLine_125 : decode cX5_nextLine 125 = .ok (.aload_n 0, 1) := by decide +kernel
theorem dX5_nextLine_126 : decode cX5_nextLine 126 = .ok (.getfield 26, 3) := by decide +kernel
theorem dX5_nextLine_129 : decode cX5_nextLine 129 = .ok (.iload 5, 2) := by decide +kernel
theorem dX5_nextLine_131 : decode cX5_nextLine 131 = .ok (.putfield 66, 3) := by decide +kernel
theorem dX5_nextLine_134 : decode cX5_nextLine 134 = .ok (.aload_n 0, 1) := by decide +kernel
theorem dX5_nextLine_135 : decode cX5_nextLine 135 = .ok (.getfield 26, 3) := by decide +kernel
theorem dX5_nextLine_138 : decode cX5_nextLine 138 = .ok (.iload_n 1, 1) := by decide +kernel
theorem dX5_nextLine_139 : decode cX5_nextLine 139 = .ok (.putfield 69, 3) := by decide +kernel
theorem dX5_nextLine_142 : decode cX5_nextLine 142 = .ok (.iconst (-1), 1) := by decide +kernel
theorem dX5_nextLine_143 : decode cX5_nextLine 143 = .ok (.ireturn, 1) := by decide +kernel
theorem dX5_nextLine_144 : decode cX5_nextLine 144 = .ok (.aload_n 0, 1) := by decide +kernel
theorem dX5_nextLine_145 : decode cX5_nextLine 145 = .ok (.getfield 26, 3) := by decide +kernel
theorem dX5_nextLine_148 : decode cX5_nextLine 148 = .ok (.getfield 81, 3) := by decide +kernel
theorem dX5_nextLine_151 : decode cX5_nextLine 151 = .ok (.iload 5, 2) := by decide +kernel
theorem dX5_nextLine_153 : decode cX5_nextLine 153 = .ok (.dup2, 1) := by decide +kernel
theorem dX5_nextLine_154 : decode cX5_nextLine 154 = .ok (.iaload, 1) := by decide +kernel
theorem dX5_nextLine_155 : decode cX5_nextLine 155 = .ok (.iconst 1, 1) := by decide +kernel
theorem dX5_nextLine_156 : decode cX5_nextLine 156 = .ok (.iadd, 1) := by decide +kernel
theorem dX5_nextLine_157 : decode cX5_nextLine 157 = .ok (.iastore, 1) := by decide +kernel
theorem dX5_nextLine_158 : decode cX5_nextLine 158 = .ok (.aload_n 0, 1) := by decide +kernel
theorem dX5_nextLine_159 : decode cX5_nextLine 159 = .ok (.getfield 26, 3) := by decide +kernel
theorem dX5_nextLine_162 : decode cX5_nextLine 162 = .ok (.dup, 1) := by decide +kernel
theorem dX5_nextLine_163 : decode cX5_nextLine 163 = .ok (.getfield 78, 3) := by decide +kernel
theorem dX5_nextLine_166 : decode cX5_nextLine 166 = .ok (.iconst 1, 1) := by decide +kernel
theorem dX5_nextLine_167 : decode cX5_nextLine 167 = .ok (.iadd, 1) := by decide +kernel
theorem dX5_nextLine_168 : decode cX5_nextLine 168 = .ok (.putfield 78, 3) := by decide +kernel
theorem dX5_nextLine_171 : decode cX5_nextLine 171 = .ok (.aload_n 0, 1) := by decide +kernel
theorem dX5_nextLine_172 : decode cX5_nextLine 172 = .ok (.getfield 10, 3) := by decide +kernel
theorem dX5_nextLine_175 : decode cX5_nextLine 175 = .ok (.getfield 161, 3) := by decide +kernel
theorem dX5_nextLine_178 : decode cX5_nextLine 178 = .ok (.iload 6, 2) := by decide +kernel
theorem dX5_nextLine_180 : decode cX5_nextLine 180 = .ok (.iaload, 1) := by decide +kernel
theorem dX5_nextLine_181 : decode cX5_nextLine 181 = .ok (.ireturn, 1) := by decide +kernel
theorem dX5_isBelow_0 : decode cX5_isBelow 0 = .ok (.iconst 0, 1) := by decide +kernel
theorem dX5_isBelow_1 : decode cX5_isBelow 1 = .ok (.iload_n 0, 1) := by decide +kernel
theorem dX5_isBelow_2 : decode cX5_isBelow 2 = .ok (.if_icmp .gt 12, 3) := by decide +kernel
theorem dX5_isBelow_5 : decode cX5_isBelow 5 = .ok (.iload_n 0, 1) := by decide +kernel
theorem dX5_isBelow_6 : decode cX5_isBelow 6 = .ok (.iload_n 1, 1) := by decide +kernel
theorem dX5_isBelow_7 : decode cX5_isBelow 7 = .ok (.if_icmp .ge 7, 3) := by decide +kernel
theorem dX5_isBelow_10 : decode cX5_isBelow 10 = .ok (.iconst 1, 1) := by decide +kernel
theorem dX5_isBelow_11 : decode cX5_isBelow 11 = .ok (.goto 4, 3) := by decide +kernel
theorem dX5_isBelow_14 : decode cX5_isBelow 14 = .ok (.iconst 0, 1) := by decide +kernel
theorem dX5_isBelow_15 : decode cX5_isBelow 15 = .ok (.ireturn, 1) := by decide +kernel
theorem dX5_isOf_0 : decode cX5_isOf 0 = .ok (.iload_n 1, 1) := by decide +kernel
theorem dX5_isOf_1 : decode cX5_isOf 1 = .ok (.ifCond .eq 18, 3) := by decide +kernel
theorem dX5_isOf_4 : decode cX5_isOf 4 = .ok (.iload_n 0, 1) := by decide +kernel
theorem dX5_isOf_5 : decode cX5_isOf 5 = .ok (.iload_n 1, 1) := by decide +kernel
theorem dX5_isOf_6 : decode cX5_isOf 6 = .ok (.if_icmp .eq 13, 3) := by decide +kernel
theorem dX5_isOf_9 : decode cX5_isOf 9 = .ok (.iload_n 0, 1) := by decide +kernel
theorem dX5_isOf_10 : decode cX5_isOf 10 = .ok (.iconst 3, 1) := by decide +kernel
theorem dX5_isOf_11 : decode cX5_isOf 11 = .ok (.if_icmp .gt 12, 3) := by decide +kernel
theorem dX5_isOf_14 : decode cX5_isOf 14 = .ok (.iload_n 1, 1) := by decide +kernel
theorem dX5_isOf_15 : decode cX5_isOf 15 = .ok (.iload_n 0, 1) := by decide +kernel
theorem dX5_isOf_16 : decode cX5_isOf 16 = .ok (.if_icmp .ge 7, 3) := by decide +kernel
theorem dX5_isOf_19 : decode cX5_isOf 19 = .ok (.iconst 1, 1) := by decide +kernel
theorem dX5_isOf_20 : decode cX5_isOf 20 = .ok (.goto 4, 3) := by decide +kernel
theorem dX5_isOf_23 : decode cX5_isOf 23 = .ok (.iconst 0, 1) := by decide +kernel
theorem dX5_isOf_24 : decode cX5_isOf 24 = .ok (.ireturn, 1) := by decide +kernel
theorem dX5_sizeFailure_0 : decode cX5_sizeFailure 0 = .ok (.iload_n 0, 1) := by decide +kernel
theorem dX5_sizeFailure_1 : decode cX5_sizeFailure 1 = .ok (.ifCond .ge 5, 3) := by decide +kernel
theorem dX5_sizeFailure_4 : decode cX5_sizeFailure 4 = .ok (.iconst 2, 1) := by decide +kernel
theorem dX5_sizeFailure_5 : decode cX5_sizeFailure 5 = .ok (.ireturn, 1) := by decide +kernel
theorem dX5_sizeFailure_6 : decode cX5_sizeFailure 6 = .ok (.iload_n 0, 1) := by decide +kernel
theorem dX5_sizeFailure_7 : decode cX5_sizeFailure 7 = .ok (.bipush 8, 2) := by decide +kernel
theorem dX5_sizeFailure_9 : decode cX5_sizeFailure 9 = .ok (.if_icmp .le 8, 3) := by decide +kernel
theorem dX5_sizeFailure_12 : decode cX5_sizeFailure 12 = .ok (.bipush 6, 2) := by decide +kernel
theorem dX5_sizeFailure_14 : decode cX5_sizeFailure 14 = .ok (.goto 4, 3) := by decide +kernel
theorem dX5_sizeFailure_17 : decode cX5_sizeFailure 17 = .ok (.iconst 0, 1) := by decide +kernel
theorem dX5_sizeFailure_18 : decode cX5_sizeFailure 18 = .ok (.ireturn, 1) := by decide +kernel
theorem dX6_init_0 : decode cX6_init 0 = .ok (.aload_n 0, 1) := by decide +kernel
theorem dX6_init_1 : decode cX6_init 1 = .ok (.invokespecial 1, 3) := by decide +kernel
theorem dX6_init_4 : decode cX6_init 4 = .ok (.aload_n 0, 1) := by decide +kernel
theorem dX6_init_5 : decode cX6_init 5 = .ok (.bipush 40, 2) := by decide +kernel
theorem dX6_init_7 : decode cX6_init 7 = .ok (.newarray .int, 2) := by decide +kernel
theorem dX6_init_9 : decode cX6_init 9 = .ok (.putfield 7, 3) := by decide +kernel
theorem dX6_init_12 : decode cX6_init 12 = .ok (.aload_n 0, 1) := by decide +kernel
theorem dX6_init_13 : decode cX6_init 13 = .ok (.bipush 40, 2) := by decide +kernel
theorem dX6_init_15 : decode cX6_init 15 = .ok (.newarray .int, 2) := by decide +kernel
theorem dX6_init_17 : decode cX6_init 17 = .ok (.putfield 13, 3) := by decide +kernel
theorem dX6_init_20 : decode cX6_init 20 = .ok (.aload_n 0, 1) := by decide +kernel
theorem dX6_init_21 : decode cX6_init 21 = .ok (.bipush 40, 2) := by decide +kernel
theorem dX6_init_23 : decode cX6_init 23 = .ok (.newarray .int, 2) := by decide +kernel
theorem dX6_init_25 : decode cX6_init 25 = .ok (.putfield 16, 3) := by decide +kernel
theorem dX6_init_28 : decode cX6_init 28 = .ok (.aload_n 0, 1) := by decide +kernel
theorem dX6_init_29 : decode cX6_init 29 = .ok (.bipush 40, 2) := by decide +kernel
theorem dX6_init_31 : decode cX6_init 31 = .ok (.newarray .int, 2) := by decide +kernel
theorem dX6_init_33 : decode cX6_init 33 = .ok (.putfield 19, 3) := by decide +kernel
theorem dX6_init_36 : decode cX6_init 36 = .ok (.aload_n 0, 1) := by decide +kernel
theorem dX6_init_37 : decode cX6_init 37 = .ok (.iconst 5, 1) := by decide +kernel
theorem dX6_init_38 : decode cX6_init 38 = .ok (.newarray .int, 2) := by decide +kernel
theorem dX6_init_40 : decode cX6_init 40 = .ok (.putfield 22, 3) := by decide +kernel
theorem dX6_init_43 : decode cX6_init 43 = .ok (.aload_n 0, 1) := by decide +kernel
theorem dX6_init_44 : decode cX6_init 44 = .ok (.iconst 5, 1) := by decide +kernel
theorem dX6_init_45 : decode cX6_init 45 = .ok (.newarray .int, 2) := by decide +kernel
theorem dX6_init_47 : decode cX6_init 47 = .ok (.putfield 25, 3) := by decide +kernel
theorem dX6_init_50 : decode cX6_init 50 = .ok (.aload_n 0, 1) := by decide +kernel
theorem dX6_init_51 : decode cX6_init 51 = .ok (.iconst 5, 1) := by decide +kernel
theorem dX6_init_52 : decode cX6_init 52 = .ok (.newarray .int, 2) := by decide +kernel
theorem dX6_init_54 : decode cX6_init 54 = .ok (.putfield 28, 3) := by decide +kernel
theorem dX6_init_57 : decode cX6_init 57 = .ok (.aload_n 0, 1) := by decide +kernel
theorem dX6_init_58 : decode cX6_init 58 = .ok (.iconst 5, 1) := by decide +kernel
theorem dX6_init_59 : decode cX6_init 59 = .ok (.newarray .int, 2) := by decide +kernel
theorem dX6_init_61 : decode cX6_init 61 = .ok (.putfield 31, 3) := by decide +kernel
theorem dX6_init_64 : decode cX6_init 64 = .ok (.aload_n 0, 1) := by decide +kernel
theorem dX6_init_65 : decode cX6_init 65 = .ok (.bipush 64, 2) := by decide +kernel
theorem dX6_init_67 : decode cX6_init 67 = .ok (.newarray .int, 2) := by decide +kernel
theorem dX6_init_69 : decode cX6_init 69 = .ok (.putfield 34, 3) := by decide +kernel
theorem dX6_init_72 : decode cX6_init 72 = .ok (.aload_n 0, 1) := by decide +kernel
theorem dX6_init_73 : decode cX6_init 73 = .ok (.bipush 64, 2) := by decide +kernel
theorem dX6_init_75 : decode cX6_init 75 = .ok (.newarray .int, 2) := by decide +kernel
theorem dX6_init_77 : decode cX6_init 77 = .ok (.putfield 37, 3) := by decide +kernel
theorem dX6_init_80 : decode cX6_init 80 = .ok (.aload_n 0, 1) := by decide +kernel
theorem dX6_init_81 : decode cX6_init 81 = .ok (.bipush 64, 2) := by decide +kernel
theorem dX6_init_83 : decode cX6_init 83 = .ok (.newarray .int, 2) := by decide +kernel
theorem dX6_init_85 : decode cX6_init 85 = .ok (.putfield 40, 3) := by decide +kernel
theorem dX6_init_88 : decode cX6_init 88 = .ok (.aload_n 0, 1) := by decide +kernel
theorem dX6_init_89 : decode cX6_init 89 = .ok (.bipush 8, 2) := by decide +kernel
theorem dX6_init_91 : decode cX6_init 91 = .ok (.newarray .int, 2) := by decide +kernel
theorem dX6_init_93 : decode cX6_init 93 = .ok (.putfield 43, 3) := by decide +kernel
theorem dX6_init_96 : decode cX6_init 96 = .ok (.aload_n 0, 1) := by decide +kernel
theorem dX6_init_97 : decode cX6_init 97 = .ok (.iconst 4, 1) := by decide +kernel
theorem dX6_init_98 : decode cX6_init 98 = .ok (.newarray .int, 2) := by decide +kernel
theorem dX6_init_100 : decode cX6_init 100 = .ok (.putfield 46, 3) := by decide +kernel
theorem dX6_init_103 : decode cX6_init 103 = .ok (.aload_n 0, 1) := by decide +kernel
theorem dX6_init_104 : decode cX6_init 104 = .ok (.iconst 4, 1) := by decide +kernel
theorem dX6_init_105 : decode cX6_init 105 = .ok (.newarray .int, 2) := by decide +kernel
theorem dX6_init_107 : decode cX6_init 107 = .ok (.putfield 49, 3) := by decide +kernel
theorem dX6_init_110 : decode cX6_init 110 = .ok (.aload_n 0, 1) := by decide +kernel
theorem dX6_init_111 : decode cX6_init 111 = .ok (.bipush 32, 2) := by decide +kernel
theorem dX6_init_113 : decode cX6_init 113 = .ok (.newarray .int, 2) := by decide +kernel
theorem dX6_init_115 : decode cX6_init 115 = .ok (.putfield 52, 3) := by decide +kernel
theorem dX6_init_118 : decode cX6_init 118 = .ok (.aload_n 0, 1) := by decide +kernel
theorem dX6_init_119 : decode cX6_init 119 = .ok (.iconst 3, 1) := by decide +kernel
theorem dX6_init_120 : decode cX6_init 120 = .ok (.newarray .int, 2) := by decide +kernel
theorem dX6_init_122 : decode cX6_init 122 = .ok (.putfield 55, 3) := by decide +kernel
theorem dX6_init_125 : decode cX6_init 125 = .ok (.aload_n 0, 1) := by decide +kernel
theorem dX6_init_126 : decode cX6_init 126 = .ok (.bipush 24, 2) := by decide +kernel
theorem dX6_init_128 : decode cX6_init 128 = .ok (.newarray .int, 2) := by decide +kernel
theorem dX6_init_130 : decode cX6_init 130 = .ok (.putfield 58, 3) := by decide +kernel
theorem dX6_init_133 : decode cX6_init 133 = .ok (.aload_n 0, 1) := by decide +kernel
theorem dX6_init_134 : decode cX6_init 134 = .ok (.iconst 2, 1) := by decide +kernel
theorem dX6_init_135 : decode cX6_init 135 = .ok (.newarray .int, 2) := by decide +kernel
theorem dX6_init_137 : decode cX6_init 137 = .ok (.putfield 61, 3) := by decide +kernel
theorem dX6_init_140 : decode cX6_init 140 = .ok (.aload_n 0, 1) := by decide +kernel
theorem dX6_init_141 : decode cX6_init 141 = .ok (.iconst 2, 1) := by decide +kernel
theorem dX6_init_142 : decode cX6_init 142 = .ok (.newarray .int, 2) := by decide +kernel
theorem dX6_init_144 : decode cX6_init 144 = .ok (.putfield 64, 3) := by decide +kernel
theorem dX6_init_147 : decode cX6_init 147 = .ok (.aload_n 0, 1) := by decide +kernel
theorem dX6_init_148 : decode cX6_init 148 = .ok (.iconst 3, 1) := by decide +kernel
theorem dX6_init_149 : decode cX6_init 149 = .ok (.newarray .boolean, 2) := by decide +kernel
theorem dX6_init_151 : decode cX6_init 151 = .ok (.putfield 67, 3) := by decide +kernel
theorem dX6_init_154 : decode cX6_init 154 = .ok (.aload_n 0, 1) := by decide +kernel
theorem dX6_init_155 : decode cX6_init 155 = .ok (.iconst 3, 1) := by decide +kernel
theorem dX6_init_156 : decode cX6_init 156 = .ok (.newarray .int, 2) := by decide +kernel
theorem dX6_init_158 : decode cX6_init 158 = .ok (.putfield 71, 3) := by decide +kernel
theorem dX6_init_161 : decode cX6_init 161 = .ok (.aload_n 0, 1) := by decide +kernel
theorem dX6_init_162 : decode cX6_init 162 = .ok (.bipush 6, 2) := by decide +kernel
theorem dX6_init_164 : decode cX6_init 164 = .ok (.newarray .int, 2) := by decide +kernel
theorem dX6_init_166 : decode cX6_init 166 = .ok (.putfield 74, 3) := by decide +kernel
theorem dX6_init_169 : decode cX6_init 169 = .ok (.aload_n 0, 1) := by decide +kernel
theorem dX6_init_170 : decode cX6_init 170 = .ok (.bipush 8, 2) := by decide +kernel
theorem dX6_init_172 : decode cX6_init 172 = .ok (.newarray .int, 2) := by decide +kernel
theorem dX6_init_174 : decode cX6_init 174 = .ok (.putfield 77, 3) := by decide +kernel
theorem dX6_init_177 : decode cX6_init 177 = .ok (.aload_n 0, 1) := by decide +kernel
theorem dX6_init_178 : decode cX6_init 178 = .ok (.iconst 0, 1) := by decide +kernel
theorem dX6_init_179 : decode cX6_init 179 = .ok (.invokevirtual 80, 3) := by decide +kernel
theorem dX6_init_182 : decode cX6_init 182 = .ok (.return_, 1) := by decide +kernel
theorem dX6_in_0 : decode cX6_in 0 = .ok (.iload_n 0, 1) := by decide +kernel
theorem dX6_in_1 : decode cX6_in 1 = .ok (.iload_n 1, 1) := by decide +kernel
theorem dX6_in_2 : decode cX6_in 2 = .ok (.if_icmp .lt 12, 3) := by decide +kernel
theorem dX6_in_5 : decode cX6_in 5 = .ok (.iload_n 0, 1) := by decide +kernel
theorem dX6_in_6 : decode cX6_in 6 = .ok (.iload_n 2, 1) := by decide +kernel
theorem dX6_in_7 : decode cX6_in 7 = .ok (.if_icmp .gt 7, 3) := by decide +kernel
theorem dX6_in_10 : decode cX6_in 10 = .ok (.iconst 1, 1) := by decide +kernel
theorem dX6_in_11 : decode cX6_in 11 = .ok (.goto 4, 3) := by decide +kernel
theorem dX6_in_14 : decode cX6_in 14 = .ok (.iconst 0, 1) := by decide +kernel
theorem dX6_in_15 : decode cX6_in 15 = .ok (.ireturn, 1) := by decide +kernel
theorem dX6_begin_0 : decode cX6_begin 0 = .ok (.aload_n 0, 1) := by decide +kernel
theorem dX6_begin_1 : decode cX6_begin 1 = .ok (.iconst 0, 1) := by decide +kernel
theorem dX6_begin_2 : decode cX6_begin 2 = .ok (.putfield 84, 3) := by decide +kernel
theorem dX6_begin_5 : decode cX6_begin 5 = .ok (.iconst 0, 1) := by decide +kernel
theorem dX6_begin_6 : decode cX6_begin 6 = .ok (.istore_n 2, 1) := by decide +kernel
theorem dX6_begin_7 : decode cX6_begin 7 = .ok (.iload_n 2, 1) := by decide +kernel
theorem dX6_begin_8 : decode cX6_begin 8 = .ok (.bipush 8, 2) := by decide +kernel
theorem dX6_begin_10 : decode cX6_begin 10 = .ok (.if_icmp .ge 23, 3) := by decide +kernel
theorem dX6_begin_13 : decode cX6_begin 13 = .ok (.aload_n 0, 1) := by decide +kernel
theorem dX6_begin_14 : decode cX6_begin 14 = .ok (.getfield 43, 3) := by decide +kernel
theorem dX6_begin_17 : decode cX6_begin 17 = .ok (.iload_n 2, 1) := by decide +kernel
theorem dX6_begin_18 : decode cX6_begin 18 = .ok (.iconst (-1), 1) := by decide +kernel
theorem dX6_begin_19 : decode cX6_begin 19 = .ok (.iastore, 1) := by decide +kernel
theorem dX6_begin_20 : decode cX6_begin 20 = .ok (.aload_n 0, 1) := by decide +kernel
theorem dX6_begin_21 : decode cX6_begin 21 = .ok (.getfield 77, 3) := by decide +kernel
theorem dX6_begin_24 : decode cX6_begin 24 = .ok (.iload_n 2, 1) := by decide +kernel
theorem dX6_begin_25 : decode cX6_begin 25 = .ok (.iconst 0, 1) := by decide +kernel
theorem dX6_begin_26 : decode cX6_begin 26 = .ok (.iastore, 1) := by decide +kernel
theorem dX6_begin_27 : decode cX6_begin 27 = .ok (.iinc 2 1, 3) := by decide +kernel
theorem dX6_begin_30 : decode cX6_begin 30 = .ok (.goto (-23), 3) := by decide +kernel
theorem dX6_begin_33 : decode cX6_begin 33 = .ok (.iconst 0, 1) := by decide +kernel
theorem dX6_begin_34 : decode cX6_begin 34 = .ok (.istore_n 2, 1) := by decide +kernel
theorem dX6_begin_35 : decode cX6_begin 35 = .ok (.iload_n 2, 1) := by decide +kernel
theorem dX6_begin_36 : decode cX6_begin 36 = .ok (.iconst 4, 1) := by decide +kernel
theorem dX6_begin_37 : decode cX6_begin 37 = .ok (.if_icmp .ge 16, 3) := by decide +kernel
theorem dX6_begin_40 : decode cX6_begin 40 = .ok (.aload_n 0, 1) := by decide +kernel
theorem dX6_begin_41 : decode cX6_begin 41 = .ok (.getfield 46, 3) := by decide +kernel
theorem dX6_begin_44 : decode cX6_begin 44 = .ok (.iload_n 2, 1) := by decide +kernel
theorem dX6_begin_45 : decode cX6_begin 45 = .ok (.iconst (-1), 1) := by decide +kernel
theorem dX6_begin_46 : decode cX6_begin 46 = .ok (.iastore, 1) := by decide +kernel
theorem dX6_begin_47 : decode cX6_begin 47 = .ok (.iinc 2 1, 3) := by decide +kernel
theorem dX6_begin_50 : decode cX6_begin 50 = .ok (.goto (-15), 3) := by decide +kernel
theorem dX6_begin_53 : decode cX6_begin 53 = .ok (.iconst 0, 1) := by decide +kernel
theorem dX6_begin_54 : decode cX6_begin 54 = .ok (.istore_n 2, 1) := by decide +kernel
theorem dX6_begin_55 : decode cX6_begin 55 = .ok (.iload_n 2, 1) := by decide +kernel
theorem dX6_begin_56 : decode cX6_begin 56 = .ok (.iconst 3, 1) := by decide +kernel
theorem dX6_begin_57 : decode cX6_begin 57 = .ok (.if_icmp .ge 23, 3) := by decide +kernel
theorem dX6_begin_60 : decode cX6_begin 60 = .ok (.aload_n 0, 1) := by decide +kernel
theorem dX6_begin_61 : decode cX6_begin 61 = .ok (.getfield 55, 3) := by decide +kernel
theorem dX6_begin_64 : decode cX6_begin 64 = .ok (.iload_n 2, 1) := by decide +kernel
theorem dX6_begin_65 : decode cX6_begin 65 = .ok (.iconst (-1), 1) := by decide +kernel
theorem dX6_begin_66 : decode cX6_begin 66 = .ok (.iastore, 1) := by decide +kernel
theorem dX6_begin_67 : decode cX6_begin 67 = .ok (.aload_n 0, 1) := by decide +kernel
theorem dX6_begin_68 : decode cX6_begin 68 = .ok (.getfield 67, 3) := by decide +kernel
theorem dX6_begin_71 : decode cX6_begin 71 = .ok (.iload_n 2, 1) := by decide +kernel
theorem dX6_begin_72 : decode cX6_begin 72 = .ok (.iconst 0, 1) := by decide +kernel
theorem dX6_begin_73 : decode cX6_begin 73 = .ok (.bastore, 1) := by decide +kernel
theorem dX6_begin_74 : decode cX6_begin 74 = .ok (.iinc 2 1, 3) := by decide +kernel
theorem dX6_begin_77 : decode cX6_begin 77 = .ok (.goto (-22), 3) := by decide +kernel
theorem dX6_begin_80 : decode cX6_begin 80 = .ok (.aload_n 0, 1) := by decide +kernel
theorem dX6_begin_81 : decode cX6_begin 81 = .ok (.getfield 61, 3) := by decide +kernel
theorem dX6_begin_84 : decode cX6_begin 84 = .ok (.iconst 0, 1) := by decide +kernel
theorem dX6_begin_85 : decode cX6_begin 85 = .ok (.iconst (-1), 1) := by decide +kernel
theorem dX6_begin_86 : decode cX6_begin 86 = .ok (.iastore, 1) := by decide +kernel
theorem dX6_begin_87 : decode cX6_begin 87 = .ok (.aload_n 0, 1) := by decide +kernel
theorem dX6_begin_88 : decode cX6_begin 88 = .ok (.getfield 61, 3) := by decide +kernel
theorem dX6_begin_91 : decode cX6_begin 91 = .ok (.iconst 1, 1) := by decide +kernel
theorem dX6_begin_92 : decode cX6_begin 92 = .ok (.iconst (-1), 1) := by decide +kernel
theorem dX6_begin_93 : decode cX6_begin 93 = .ok (.iastore, 1) := by decide +kernel
theorem dX6_begin_94 : decode cX6_begin 94 = .ok (.iconst 0, 1) := by decide +kernel
theorem dX6_begin_95 : decode cX6_begin 95 = .ok (.istore_n 2, 1) := by decide +kernel
theorem dX6_begin_96 : decode cX6_begin 96 = .ok (.iload_n 2, 1) := by decide +kernel
theorem dX6_begin_97 : decode cX6_begin 97 = .ok (.bipush 6, 2) := by decide +kernel
theorem dX6_begin_99 : decode cX6_begin 99 = .ok (.if_icmp .ge 16, 3) := by decide +kernel
theorem dX6_begin_102 : decode cX6_begin 102 = .ok (.aload_n 0, 1) := by decide +kernel
theorem dX6_begin_103 : decode cX6_begin 103 = .ok (.getfield 74, 3) := by decide +kernel
theorem dX6_begin_106 : decode cX6_begin 106 = .ok (.iload_n 2, 1) := by decide +kernel
theorem dX6_begin_107 : decode cX6_begin 107 = .ok (.iconst 0, 1) := by decide +kernel
theorem dX6_begin_108 : decode cX6_begin 108 = .ok (.iastore, 1) := by decide +kernel
theorem dX6_begin_109 : decode cX6_begin 109 = .ok (.iinc 2 1, 3) := by decide +kernel
theorem dX6_begin_112 : decode cX6_begin 112 = .ok (.goto (-16), 3) := by decide +kernel
theorem dX6_begin_115 : decode cX6_begin 115 = .ok (.aload_n 0, 1) := by decide +kernel
end
section
theorem dX6_begin_116 : decode cX6_begin 116 = .ok (.getfield 74, 3) := by decide +kernel
theorem dX6_begin_119 : decode cX6_begin 119 = .ok (.iconst 0, 1) := by decide +kernel
theorem dX6_begin_120 : decode cX6_begin 120 = .ok (.iload_n 1, 1) := by decide +kernel
theorem dX6_begin_121 : decode cX6_begin 121 = .ok (.iastore, 1) := by decide +kernel
theorem dX6_begin_122 : decode cX6_begin 122 = .ok (.aload_n 0, 1) := by decide +kernel
theorem dX6_begin_123 : decode cX6_begin 123 = .ok (.iconst 0, 1) := by decide +kernel
theorem dX6_begin_124 : decode cX6_begin 124 = .ok (.putfield 88, 3) := by decide +kernel
theorem dX6_begin_127 : decode cX6_begin 127 = .ok (.aload_n 0, 1) := by decide +kernel
theorem dX6_begin_128 : decode cX6_begin 128 = .ok (.iconst 0, 1) := by decide +kernel
theorem dX6_begin_129 : decode cX6_begin 129 = .ok (.putfield 91, 3) := by decide +kernel
theorem dX6_begin_132 : decode cX6_begin 132 = .ok (.aload_n 0, 1) := by decide +kernel
theorem dX6_begin_133 : decode cX6_begin 133 = .ok (.iconst 0, 1) := by decide +kernel
theorem dX6_begin_134 : decode cX6_begin 134 = .ok (.putfield 94, 3) := by decide +kernel
theorem dX6_begin_137 : decode cX6_begin 137 = .ok (.aload_n 0, 1) := by decide +kernel
theorem dX6_begin_138 : decode cX6_begin 138 = .ok (.iconst (-1), 1) := by decide +kernel
theorem dX6_begin_139 : decode cX6_begin 139 = .ok (.putfield 97, 3) := by decide +kernel
theorem dX6_begin_142 : decode cX6_begin 142 = .ok (.aload_n 0, 1) := by decide +kernel
theorem dX6_begin_143 : decode cX6_begin 143 = .ok (.iconst 0, 1) := by decide +kernel
theorem dX6_begin_144 : decode cX6_begin 144 = .ok (.putfield 100, 3) := by decide +kernel
theorem dX6_begin_147 : decode cX6_begin 147 = .ok (.aload_n 0, 1) := by decide +kernel
theorem dX6_begin_148 : decode cX6_begin 148 = .ok (.iconst 0, 1) := by decide +kernel
theorem dX6_begin_149 : decode cX6_begin 149 = .ok (.putfield 103, 3) := by decide +kernel
theorem dX6_begin_152 : decode cX6_begin 152 = .ok (.return_, 1) := by decide +kernel
theorem dX6_isPlace_0 : decode cX6_isPlace 0 = .ok (.iload_n 0, 1) := by decide +kernel
theorem dX6_isPlace_1 : decode cX6_isPlace 1 = .ok (.iconst 0, 1) := by decide +kernel
theorem dX6_isPlace_2 : decode cX6_isPlace 2 = .ok (.bipush 7, 2) := by decide +kernel
theorem dX6_isPlace_4 : decode cX6_isPlace 4 = .ok (.invokestatic 106, 3) := by decide +kernel
theorem dX6_isPlace_7 : decode cX6_isPlace 7 = .ok (.ireturn, 1) := by decide +kernel
theorem dX6_isRegister_0 : decode cX6_isRegister 0 = .ok (.iload_n 0, 1) := by decide +kernel
theorem dX6_isRegister_1 : decode cX6_isRegister 1 = .ok (.iconst 0, 1) := by decide +kernel
theorem dX6_isRegister_2 : decode cX6_isRegister 2 = .ok (.iconst 5, 1) := by decide +kernel
theorem dX6_isRegister_3 : decode cX6_isRegister 3 = .ok (.invokestatic 106, 3) := by decide +kernel
theorem dX6_isRegister_6 : decode cX6_isRegister 6 = .ok (.ireturn, 1) := by decide +kernel
theorem dX6_isRight_0 : decode cX6_isRight 0 = .ok (.iload_n 0, 1) := by decide +kernel
theorem dX6_isRight_1 : decode cX6_isRight 1 = .ok (.tableswitch 516 0 24 #[115, 144, 149, 169, 200, 229, 258, 280, 287, 307, 287, 287, 327, 349, 349, 371, 400, 431, 349, 453, 453, 460, 465, 485, 493], 115) := by decide +kernel
theorem dX6_isRight_116 : decode cX6_isRight 116 = .ok (.iload_n 1, 1) := by decide +kernel
theorem dX6_isRight_117 : decode cX6_isRight 117 = .ok (.invokestatic 110, 3) := by decide +kernel
theorem dX6_isRight_120 : decode cX6_isRight 120 = .ok (.ifCond .eq 23, 3) := by decide +kernel
theorem dX6_isRight_123 : decode cX6_isRight 123 = .ok (.iload_n 2, 1) := by decide +kernel
theorem dX6_isRight_124 : decode cX6_isRight 124 = .ok (.iconst 0, 1) := by decide +kernel
theorem dX6_isRight_125 : decode cX6_isRight 125 = .ok (.iconst 4, 1) := by decide +kernel
theorem dX6_isRight_126 : decode cX6_isRight 126 = .ok (.invokestatic 106, 3) := by decide +kernel
theorem dX6_isRight_129 : decode cX6_isRight 129 = .ok (.ifCond .eq 14, 3) := by decide +kernel
theorem dX6_isRight_132 : decode cX6_isRight 132 = .ok (.iload_n 3, 1) := by decide +kernel
theorem dX6_isRight_133 : decode cX6_isRight 133 = .ok (.invokestatic 114, 3) := by decide +kernel
theorem dX6_isRight_136 : decode cX6_isRight 136 = .ok (.ifCond .eq 7, 3) := by decide +kernel
theorem dX6_isRight_139 : decode cX6_isRight 139 = .ok (.iconst 1, 1) := by decide +kernel
theorem dX6_isRight_140 : decode cX6_isRight 140 = .ok (.goto 4, 3) := by decide +kernel
theorem dX6_isRight_143 : decode cX6_isRight 143 = .ok (.iconst 0, 1) := by decide +kernel
theorem dX6_isRight_144 : decode cX6_isRight 144 = .ok (.ireturn, 1) := by decide +kernel
theorem dX6_isRight_145 : decode cX6_isRight 145 = .ok (.iload_n 1, 1) := by decide +kernel
theorem dX6_isRight_146 : decode cX6_isRight 146 = .ok (.invokestatic 110, 3) := by decide +kernel
theorem dX6_isRight_149 : decode cX6_isRight 149 = .ok (.ireturn, 1) := by decide +kernel
theorem dX6_isRight_150 : decode cX6_isRight 150 = .ok (.iload_n 1, 1) := by decide +kernel
theorem dX6_isRight_151 : decode cX6_isRight 151 = .ok (.invokestatic 110, 3) := by decide +kernel
theorem dX6_isRight_154 : decode cX6_isRight 154 = .ok (.ifCond .eq 14, 3) := by decide +kernel
theorem dX6_isRight_157 : decode cX6_isRight 157 = .ok (.iload_n 2, 1) := by decide +kernel
theorem dX6_isRight_158 : decode cX6_isRight 158 = .ok (.invokestatic 110, 3) := by decide +kernel
theorem dX6_isRight_161 : decode cX6_isRight 161 = .ok (.ifCond .eq 7, 3) := by decide +kernel
theorem dX6_isRight_164 : decode cX6_isRight 164 = .ok (.iconst 1, 1) := by decide +kernel
theorem dX6_isRight_165 : decode cX6_isRight 165 = .ok (.goto 4, 3) := by decide +kernel
theorem dX6_isRight_168 : decode cX6_isRight 168 = .ok (.iconst 0, 1) := by decide +kernel
theorem dX6_isRight_169 : decode cX6_isRight 169 = .ok (.ireturn, 1) := by decide +kernel
theorem dX6_isRight_170 : decode cX6_isRight 170 = .ok (.iload_n 1, 1) := by decide +kernel
theorem dX6_isRight_171 : decode cX6_isRight 171 = .ok (.iconst 0, 1) := by decide +kernel
theorem dX6_isRight_172 : decode cX6_isRight 172 = .ok (.iconst 3, 1) := by decide +kernel
theorem dX6_isRight_173 : decode cX6_isRight 173 = .ok (.invokestatic 106, 3) := by decide +kernel
theorem dX6_isRight_176 : decode cX6_isRight 176 = .ok (.ifCond .eq 23, 3) := by decide +kernel
theorem dX6_isRight_179 : decode cX6_isRight 179 = .ok (.iload_n 2, 1) := by decide +kernel
theorem dX6_isRight_180 : decode cX6_isRight 180 = .ok (.iconst 0, 1) := by decide +kernel
theorem dX6_isRight_181 : decode cX6_isRight 181 = .ok (.iconst 4, 1) := by decide +kernel
theorem dX6_isRight_182 : decode cX6_isRight 182 = .ok (.invokestatic 106, 3) := by decide +kernel
theorem dX6_isRight_185 : decode cX6_isRight 185 = .ok (.ifCond .eq 14, 3) := by decide +kernel
theorem dX6_isRight_188 : decode cX6_isRight 188 = .ok (.iload_n 3, 1) := by decide +kernel
theorem dX6_isRight_189 : decode cX6_isRight 189 = .ok (.invokestatic 114, 3) := by decide +kernel
theorem dX6_isRight_192 : decode cX6_isRight 192 = .ok (.ifCond .eq 7, 3) := by decide +kernel
theorem dX6_isRight_195 : decode cX6_isRight 195 = .ok (.iconst 1, 1) := by decide +kernel
theorem dX6_isRight_196 : decode cX6_isRight 196 = .ok (.goto 4, 3) := by decide +kernel
theorem dX6_isRight_199 : decode cX6_isRight 199 = .ok (.iconst 0, 1) := by decide +kernel
theorem dX6_isRight_200 : decode cX6_isRight 200 = .ok (.ireturn, 1) := by decide +kernel
theorem dX6_isRight_201 : decode cX6_isRight 201 = .ok (.iload_n 1, 1) := by decide +kernel
theorem dX6_isRight_202 : decode cX6_isRight 202 = .ok (.iconst 0, 1) := by decide +kernel
theorem dX6_isRight_203 : decode cX6_isRight 203 = .ok (.iconst 3, 1) := by decide +kernel
theorem dX6_isRight_204 : decode cX6_isRight 204 = .ok (.invokestatic 106, 3) := by decide +kernel
theorem dX6_isRight_207 : decode cX6_isRight 207 = .ok (.ifCond .eq 21, 3) := by decide +kernel
theorem dX6_isRight_210 : decode cX6_isRight 210 = .ok (.iload_n 2, 1) := by decide +kernel
theorem dX6_isRight_211 : decode cX6_isRight 211 = .ok (.invokestatic 114, 3) := by decide +kernel
theorem dX6_isRight_214 : decode cX6_isRight 214 = .ok (.ifCond .eq 14, 3) := by decide +kernel
theorem dX6_isRight_217 : decode cX6_isRight 217 = .ok (.iload_n 3, 1) := by decide +kernel
theorem dX6_isRight_218 : decode cX6_isRight 218 = .ok (.invokestatic 110, 3) := by decide +kernel
theorem dX6_isRight_221 : decode cX6_isRight 221 = .ok (.ifCond .eq 7, 3) := by decide +kernel
theorem dX6_isRight_224 : decode cX6_isRight 224 = .ok (.iconst 1, 1) := by decide +kernel
theorem dX6_isRight_225 : decode cX6_isRight 225 = .ok (.goto 4, 3) := by decide +kernel
theorem dX6_isRight_228 : decode cX6_isRight 228 = .ok (.iconst 0, 1) := by decide +kernel
theorem dX6_isRight_229 : decode cX6_isRight 229 = .ok (.ireturn, 1) := by decide +kernel
theorem dX6_isRight_230 : decode cX6_isRight 230 = .ok (.iload_n 1, 1) := by decide +kernel
theorem dX6_isRight_231 : decode cX6_isRight 231 = .ok (.invokestatic 110, 3) := by decide +kernel
theorem dX6_isRight_234 : decode cX6_isRight 234 = .ok (.ifCond .eq 23, 3) := by decide +kernel
theorem dX6_isRight_237 : decode cX6_isRight 237 = .ok (.iload_n 2, 1) := by decide +kernel
theorem dX6_isRight_238 : decode cX6_isRight 238 = .ok (.iconst 0, 1) := by decide +kernel
theorem dX6_isRight_239 : decode cX6_isRight 239 = .ok (.iconst 3, 1) := by decide +kernel
theorem dX6_isRight_240 : decode cX6_isRight 240 = .ok (.invokestatic 106, 3) := by decide +kernel
theorem dX6_isRight_243 : decode cX6_isRight 243 = .ok (.ifCond .eq 14, 3) := by decide +kernel
theorem dX6_isRight_246 : decode cX6_isRight 246 = .ok (.iload_n 3, 1) := by decide +kernel
theorem dX6_isRight_247 : decode cX6_isRight 247 = .ok (.invokestatic 114, 3) := by decide +kernel
theorem dX6_isRight_250 : decode cX6_isRight 250 = .ok (.ifCond .eq 7, 3) := by decide +kernel
theorem dX6_isRight_253 : decode cX6_isRight 253 = .ok (.iconst 1, 1) := by decide +kernel
theorem dX6_isRight_254 : decode cX6_isRight 254 = .ok (.goto 4, 3) := by decide +kernel
theorem dX6_isRight_257 : decode cX6_isRight 257 = .ok (.iconst 0, 1) := by decide +kernel
theorem dX6_isRight_258 : decode cX6_isRight 258 = .ok (.ireturn, 1) := by decide +kernel
theorem dX6_isRight_259 : decode cX6_isRight 259 = .ok (.iload_n 1, 1) := by decide +kernel
theorem dX6_isRight_260 : decode cX6_isRight 260 = .ok (.invokestatic 114, 3) := by decide +kernel
theorem dX6_isRight_263 : decode cX6_isRight 263 = .ok (.ifCond .eq 16, 3) := by decide +kernel
theorem dX6_isRight_266 : decode cX6_isRight 266 = .ok (.iload_n 2, 1) := by decide +kernel
theorem dX6_isRight_267 : decode cX6_isRight 267 = .ok (.iconst 0, 1) := by decide +kernel
theorem dX6_isRight_268 : decode cX6_isRight 268 = .ok (.iconst 3, 1) := by decide +kernel
theorem dX6_isRight_269 : decode cX6_isRight 269 = .ok (.invokestatic 106, 3) := by decide +kernel
theorem dX6_isRight_272 : decode cX6_isRight 272 = .ok (.ifCond .eq 7, 3) := by decide +kernel
theorem dX6_isRight_275 : decode cX6_isRight 275 = .ok (.iconst 1, 1) := by decide +kernel
theorem dX6_isRight_276 : decode cX6_isRight 276 = .ok (.goto 4, 3) := by decide +kernel
theorem dX6_isRight_279 : decode cX6_isRight 279 = .ok (.iconst 0, 1) := by decide +kernel
theorem dX6_isRight_280 : decode cX6_isRight 280 = .ok (.ireturn, 1) := by decide +kernel
theorem dX6_isRight_281 : decode cX6_isRight 281 = .ok (.iload_n 1, 1) := by decide +kernel
theorem dX6_isRight_282 : decode cX6_isRight 282 = .ok (.iconst 0, 1) := by decide +kernel
theorem dX6_isRight_283 : decode cX6_isRight 283 = .ok (.iconst 3, 1) := by decide +kernel
theorem dX6_isRight_284 : decode cX6_isRight 284 = .ok (.invokestatic 106, 3) := by decide +kernel
theorem dX6_isRight_287 : decode cX6_isRight 287 = .ok (.ireturn, 1) := by decide +kernel
theorem dX6_isRight_288 : decode cX6_isRight 288 = .ok (.iload_n 1, 1) := by decide +kernel
theorem dX6_isRight_289 : decode cX6_isRight 289 = .ok (.invokestatic 114, 3) := by decide +kernel
theorem dX6_isRight_292 : decode cX6_isRight 292 = .ok (.ifCond .eq 14, 3) := by decide +kernel
theorem dX6_isRight_295 : decode cX6_isRight 295 = .ok (.iload_n 2, 1) := by decide +kernel
theorem dX6_isRight_296 : decode cX6_isRight 296 = .ok (.invokestatic 110, 3) := by decide +kernel
theorem dX6_isRight_299 : decode cX6_isRight 299 = .ok (.ifCond .eq 7, 3) := by decide +kernel
theorem dX6_isRight_302 : decode cX6_isRight 302 = .ok (.iconst 1, 1) := by decide +kernel
theorem dX6_isRight_303 : decode cX6_isRight 303 = .ok (.goto 4, 3) := by decide +kernel
theorem dX6_isRight_306 : decode cX6_isRight 306 = .ok (.iconst 0, 1) := by decide +kernel
theorem dX6_isRight_307 : decode cX6_isRight 307 = .ok (.ireturn, 1) := by decide +kernel
theorem dX6_isRight_308 : decode cX6_isRight 308 = .ok (.iload_n 1, 1) := by decide +kernel
theorem dX6_isRight_309 : decode cX6_isRight 309 = .ok (.invokestatic 110, 3) := by decide +kernel
theorem dX6_isRight_312 : decode cX6_isRight 312 = .ok (.ifCond .eq 14, 3) := by decide +kernel
theorem dX6_isRight_315 : decode cX6_isRight 315 = .ok (.iload_n 2, 1) := by decide +kernel
theorem dX6_isRight_316 : decode cX6_isRight 316 = .ok (.invokestatic 114, 3) := by decide +kernel
theorem dX6_isRight_319 : decode cX6_isRight 319 = .ok (.ifCond .eq 7, 3) := by decide +kernel
theorem dX6_isRight_322 : decode cX6_isRight 322 = .ok (.iconst 1, 1) := by decide +kernel
theorem dX6_isRight_323 : decode cX6_isRight 323 = .ok (.goto 4, 3) := by decide +kernel
theorem dX6_isRight_326 : decode cX6_isRight 326 = .ok (.iconst 0, 1) := by decide +kernel
theorem dX6_isRight_327 : decode cX6_isRight 327 = .ok (.ireturn, 1) := by decide +kernel
theorem dX6_isRight_328 : decode cX6_isRight 328 = .ok (.iload_n 1, 1) := by decide +kernel
theorem dX6_isRight_329 : decode cX6_isRight 329 = .ok (.invokestatic 110, 3) := by decide +kernel
theorem dX6_isRight_332 : decode cX6_isRight 332 = .ok (.ifCond .eq 16, 3) := by decide +kernel
theorem dX6_isRight_335 : decode cX6_isRight 335 = .ok (.iload_n 2, 1) := by decide +kernel
theorem dX6_isRight_336 : decode cX6_isRight 336 = .ok (.iconst 0, 1) := by decide +kernel
theorem dX6_isRight_337 : decode cX6_isRight 337 = .ok (.iconst 4, 1) := by decide +kernel
theorem dX6_isRight_338 : decode cX6_isRight 338 = .ok (.invokestatic 106, 3) := by decide +kernel
theorem dX6_isRight_341 : decode cX6_isRight 341 = .ok (.ifCond .eq 7, 3) := by decide +kernel
theorem dX6_isRight_344 : decode cX6_isRight 344 = .ok (.iconst 1, 1) := by decide +kernel
theorem dX6_isRight_345 : decode cX6_isRight 345 = .ok (.goto 4, 3) := by decide +kernel
theorem dX6_isRight_348 : decode cX6_isRight 348 = .ok (.iconst 0, 1) := by decide +kernel
theorem dX6_isRight_349 : decode cX6_isRight 349 = .ok (.ireturn, 1) := by decide +kernel
theorem dX6_isRight_350 : decode cX6_isRight 350 = .ok (.iload_n 1, 1) := by decide +kernel
theorem dX6_isRight_351 : decode cX6_isRight 351 = .ok (.iconst 0, 1) := by decide +kernel
theorem dX6_isRight_352 : decode cX6_isRight 352 = .ok (.iconst 2, 1) := by decide +kernel
theorem dX6_isRight_353 : decode cX6_isRight 353 = .ok (.invokestatic 106, 3) := by decide +kernel
theorem dX6_isRight_356 : decode cX6_isRight 356 = .ok (.ifCond .eq 14, 3) := by decide +kernel
theorem dX6_isRight_359 : decode cX6_isRight 359 = .ok (.iload_n 2, 1) := by decide +kernel
theorem dX6_isRight_360 : decode cX6_isRight 360 = .ok (.invokestatic 114, 3) := by decide +kernel
theorem dX6_isRight_363 : decode cX6_isRight 363 = .ok (.ifCond .eq 7, 3) := by decide +kernel
theorem dX6_isRight_366 : decode cX6_isRight 366 = .ok (.iconst 1, 1) := by decide +kernel
theorem dX6_isRight_367 : decode cX6_isRight 367 = .ok (.goto 4, 3) := by decide +kernel
theorem dX6_isRight_370 : decode cX6_isRight 370 = .ok (.iconst 0, 1) := by decide +kernel
theorem dX6_isRight_371 : decode cX6_isRight 371 = .ok (.ireturn, 1) := by decide +kernel
theorem dX6_isRight_372 : decode cX6_isRight 372 = .ok (.iload_n 1, 1) := by decide +kernel
theorem dX6_isRight_373 : decode cX6_isRight 373 = .ok (.invokestatic 114, 3) := by decide +kernel
theorem dX6_isRight_376 : decode cX6_isRight 376 = .ok (.ifCond .eq 23, 3) := by decide +kernel
theorem dX6_isRight_379 : decode cX6_isRight 379 = .ok (.iload_n 2, 1) := by decide +kernel
theorem dX6_isRight_380 : decode cX6_isRight 380 = .ok (.iconst 0, 1) := by decide +kernel
theorem dX6_isRight_381 : decode cX6_isRight 381 = .ok (.iconst 2, 1) := by decide +kernel
theorem dX6_isRight_382 : decode cX6_isRight 382 = .ok (.invokestatic 106, 3) := by decide +kernel
theorem dX6_isRight_385 : decode cX6_isRight 385 = .ok (.ifCond .eq 14, 3) := by decide +kernel
theorem dX6_isRight_388 : decode cX6_isRight 388 = .ok (.iload_n 3, 1) := by decide +kernel
theorem dX6_isRight_389 : decode cX6_isRight 389 = .ok (.invokestatic 114, 3) := by decide +kernel
theorem dX6_isRight_392 : decode cX6_isRight 392 = .ok (.ifCond .eq 7, 3) := by decide +kernel
theorem dX6_isRight_395 : decode cX6_isRight 395 = .ok (.iconst 1, 1) := by decide +kernel
theorem dX6_isRight_396 : decode cX6_isRight 396 = .ok (.goto 4, 3) := by decide +kernel
theorem dX6_isRight_399 : decode cX6_isRight 399 = .ok (.iconst 0, 1) := by decide +kernel
theorem dX6_isRight_400 : decode cX6_isRight 400 = .ok (.ireturn, 1) := by decide +kernel
theorem dX6_isRight_401 : decode cX6_isRight 401 = .ok (.iload_n 1, 1) := by decide +kernel
theorem dX6_isRight_402 : decode cX6_isRight 402 = .ok (.iconst 0, 1) := by decide +kernel
theorem dX6_isRight_403 : decode cX6_isRight 403 = .ok (.iconst 1, 1) := by decide +kernel
theorem dX6_isRight_404 : decode cX6_isRight 404 = .ok (.invokestatic 106, 3) := by decide +kernel
theorem dX6_isRight_407 : decode cX6_isRight 407 = .ok (.ifCond .eq 23, 3) := by decide +kernel
theorem dX6_isRight_410 : decode cX6_isRight 410 = .ok (.iload_n 2, 1) := by decide +kernel
theorem dX6_isRight_411 : decode cX6_isRight 411 = .ok (.invokestatic 114, 3) := by decide +kernel
theorem dX6_isRight_414 : decode cX6_isRight 414 = .ok (.ifCond .eq 16, 3) := by decide +kernel
theorem dX6_isRight_417 : decode cX6_isRight 417 = .ok (.iload_n 3, 1) := by decide +kernel
theorem dX6_isRight_418 : decode cX6_isRight 418 = .ok (.iconst 0, 1) := by decide +kernel
theorem dX6_isRight_419 : decode cX6_isRight 419 = .ok (.iconst 5, 1) := by decide +kernel
theorem dX6_isRight_420 : decode cX6_isRight 420 = .ok (.invokestatic 106, 3) := by decide +kernel
theorem dX6_isRight_423 : decode cX6_isRight 423 = .ok (.ifCond .eq 7, 3) := by decide +kernel
theorem dX6_isRight_426 : decode cX6_isRight 426 = .ok (.iconst 1, 1) := by decide +kernel
theorem dX6_isRight_427 : decode cX6_isRight 427 = .ok (.goto 4, 3) := by decide +kernel
theorem dX6_isRight_430 : decode cX6_isRight 430 = .ok (.iconst 0, 1) := by decide +kernel
theorem dX6_isRight_431 : decode cX6_isRight 431 = .ok (.ireturn, 1) := by decide +kernel
theorem dX6_isRight_432 : decode cX6_isRight 432 = .ok (.iload_n 1, 1) := by decide +kernel
theorem dX6_isRight_433 : decode cX6_isRight 433 = .ok (.invokestatic 114, 3) := by decide +kernel
theorem dX6_isRight_436 : decode cX6_isRight 436 = .ok (.ifCond .eq 16, 3) := by decide +kernel
theorem dX6_isRight_439 : decode cX6_isRight 439 = .ok (.iload_n 2, 1) := by decide +kernel
theorem dX6_isRight_440 : decode cX6_isRight 440 = .ok (.iconst 0, 1) := by decide +kernel
theorem dX6_isRight_441 : decode cX6_isRight 441 = .ok (.iconst 1, 1) := by decide +kernel
theorem dX6_isRight_442 : decode cX6_isRight 442 = .ok (.invokestatic 106, 3) := by decide +kernel
theorem dX6_isRight_445 : decode cX6_isRight 445 = .ok (.ifCond .eq 7, 3) := by decide +kernel
theorem dX6_isRight_448 : decode cX6_isRight 448 = .ok (.iconst 1, 1) := by decide +kernel
theorem dX6_isRight_449 : decode cX6_isRight 449 = .ok (.goto 4, 3) := by decide +kernel
theorem dX6_isRight_452 : decode cX6_isRight 452 = .ok (.iconst 0, 1) := by decide +kernel
theorem dX6_isRight_453 : decode cX6_isRight 453 = .ok (.ireturn, 1) := by decide +kernel
theorem dX6_isRight_454 : decode cX6_isRight 454 = .ok (.iload_n 1, 1) := by decide +kernel
theorem dX6_isRight_455 : decode cX6_isRight 455 = .ok (.iconst 0, 1) := by decide +kernel
theorem dX6_isRight_456 : decode cX6_isRight 456 = .ok (.iconst 2, 1) := by decide +kernel
theorem dX6_isRight_457 : decode cX6_isRight 457 = .ok (.invokestatic 106, 3) := by decide +kernel
theorem dX6_isRight_460 : decode cX6_isRight 460 = .ok (.ireturn, 1) := by decide +kernel
theorem dX6_isRight_461 : decode cX6_isRight 461 = .ok (.iload_n 1, 1) := by decide +kernel
theorem dX6_isRight_462 : decode cX6_isRight 462 = .ok (.invokestatic 114, 3) := by decide +kernel
theorem dX6_isRight_465 : decode cX6_isRight 465 = .ok (.ireturn, 1) := by decide +kernel
theorem dX6_isRight_466 : decode cX6_isRight 466 = .ok (.iload_n 1, 1) := by decide +kernel
theorem dX6_isRight_467 : decode cX6_isRight 467 = .ok (.invokestatic 114, 3) := by decide +kernel
theorem dX6_isRight_470 : decode cX6_isRight 470 = .ok (.ifCond .eq 14, 3) := by decide +kernel
theorem dX6_isRight_473 : decode cX6_isRight 473 = .ok (.iload_n 2, 1) := by decide +kernel
theorem dX6_isRight_474 : decode cX6_isRight 474 = .ok (.invokestatic 114, 3) := by decide +kernel
theorem dX6_isRight_477 : decode cX6_isRight 477 = .ok (.ifCond .eq 7, 3) := by decide +kernel
theorem dX6_isRight_480 : decode cX6_isRight 480 = .ok (.iconst 1, 1) := by decide +kernel
theorem dX6_isRight_481 : decode cX6_isRight 481 = .ok (.goto 4, 3) := by decide +kernel
theorem dX6_isRight_484 : decode cX6_isRight 484 = .ok (.iconst 0, 1) := by decide +kernel
theorem dX6_isRight_485 : decode cX6_isRight 485 = .ok (.ireturn, 1) := by decide +kernel
theorem dX6_isRight_486 : decode cX6_isRight 486 = .ok (.iload_n 1, 1) := by decide +kernel
theorem dX6_isRight_487 : decode cX6_isRight 487 = .ok (.iconst 0, 1) := by decide +kernel
theorem dX6_isRight_488 : decode cX6_isRight 488 = .ok (.bipush 40, 2) := by decide +kernel
theorem dX6_isRight_490 : decode cX6_isRight 490 = .ok (.invokestatic 106, 3) := by decide +kernel
theorem dX6_isRight_493 : decode cX6_isRight 493 = .ok (.ireturn, 1) := by decide +kernel
theorem dX6_isRight_494 : decode cX6_isRight 494 = .ok (.iload_n 1, 1) := by decide +kernel
theorem dX6_isRight_495 : decode cX6_isRight 495 = .ok (.invokestatic 114, 3) := by decide +kernel
theorem dX6_isRight_498 : decode cX6_isRight 498 = .ok (.ifCond .eq 17, 3) := by decide +kernel
theorem dX6_isRight_501 : decode cX6_isRight 501 = .ok (.iload_n 2, 1) := by decide +kernel
theorem dX6_isRight_502 : decode cX6_isRight 502 = .ok (.iconst 0, 1) := by decide +kernel
theorem dX6_isRight_503 : decode cX6_isRight 503 = .ok (.bipush 40, 2) := by decide +kernel
theorem dX6_isRight_505 : decode cX6_isRight 505 = .ok (.invokestatic 106, 3) := by decide +kernel
theorem dX6_isRight_508 : decode cX6_isRight 508 = .ok (.ifCond .eq 7, 3) := by decide +kernel
theorem dX6_isRight_511 : decode cX6_isRight 511 = .ok (.iconst 1, 1) := by decide +kernel
theorem dX6_isRight_512 : decode cX6_isRight 512 = .ok (.goto 4, 3) := by decide +kernel
theorem dX6_isRight_515 : decode cX6_isRight 515 = .ok (.iconst 0, 1) := by decide +kernel
theorem dX6_isRight_516 : decode cX6_isRight 516 = .ok (.ireturn, 1) := by decide +kernel
theorem dX6_isRight_517 : decode cX6_isRight 517 = .ok (.iconst 0, 1) := by decide +kernel
theorem dX6_isRight_518 : decode cX6_isRight 518 = .ok (.ireturn, 1) := by decide +kernel
theorem dX6_act_0 : decode cX6_act 0 = .ok (.iload_n 1, 1) := by decide +kernel
theorem dX6_act_1 : decode cX6_act 1 = .ok (.iload_n 2, 1) := by decide +kernel
theorem dX6_act_2 : decode cX6_act 2 = .ok (.iload_n 3, 1) := by decide +kernel
theorem dX6_act_3 : decode cX6_act 3 = .ok (.iload 4, 2) := by decide +kernel
theorem dX6_act_5 : decode cX6_act 5 = .ok (.invokestatic 117, 3) := by decide +kernel
theorem dX6_act_8 : decode cX6_act 8 = .ok (.ifCond .ne 6, 3) := by decide +kernel
theorem dX6_act_11 : decode cX6_act 11 = .ok (.bipush (-101), 2) := by decide +kernel
theorem dX6_act_13 : decode cX6_act 13 = .ok (.ireturn, 1) := by decide +kernel
theorem dX6_act_14 : decode cX6_act 14 = .ok (.aload_n 0, 1) := by decide +kernel
theorem dX6_act_15 : decode cX6_act 15 = .ok (.getfield 121, 3) := by decide +kernel
theorem dX6_act_18 : decode cX6_act 18 = .ok (.bipush 40, 2) := by decide +kernel
theorem dX6_act_20 : decode cX6_act 20 = .ok (.if_icmp .ne 6, 3) := by decide +kernel
theorem dX6_act_23 : decode cX6_act 23 = .ok (.bipush (-102), 2) := by decide +kernel
theorem dX6_act_25 : decode cX6_act 25 = .ok (.ireturn, 1) := by decide +kernel
theorem dX6_act_26 : decode cX6_act 26 = .ok (.aload_n 0, 1) := by decide +kernel
theorem dX6_act_27 : decode cX6_act 27 = .ok (.getfield 7, 3) := by decide +kernel
theorem dX6_act_30 : decode cX6_act 30 = .ok (.aload_n 0, 1) := by decide +kernel
theorem dX6_act_31 : decode cX6_act 31 = .ok (.getfield 121, 3) := by decide +kernel
theorem dX6_act_34 : decode cX6_act 34 = .ok (.iload_n 1, 1) := by decide +kernel
theorem dX6_act_35 : decode cX6_act 35 = .ok (.iastore, 1) := by decide +kernel
theorem dX6_act_36 : decode cX6_act 36 = .ok (.aload_n 0, 1) := by decide +kernel
theorem dX6_act_37 : decode cX6_act 37 = .ok (.getfield 13, 3) := by decide +kernel
theorem dX6_act_40 : decode cX6_act 40 = .ok (.aload_n 0, 1) := by decide +kernel
theorem dX6_act_41 : decode cX6_act 41 = .ok (.getfield 121, 3) := by decide +kernel
theorem dX6_act_44 : decode cX6_act 44 = .ok (.iload_n 2, 1) := by decide +kernel
theorem dX6_act_45 : decode cX6_act 45 = .ok (.iastore, 1) := by decide +kernel
theorem dX6_act_46 : decode cX6_act 46 = .ok (.aload_n 0, 1) := by decide +kernel
theorem dX6_act_47 : decode cX6_act 47 = .ok (.getfield 16, 3) := by decide +kernel
theorem dX6_act_50 : decode cX6_act 50 = .ok (.aload_n 0, 1) := by decide +kernel
theorem dX6_act_51 : decode cX6_act 51 = .ok (.getfield 121, 3) := by decide +kernel
theorem dX6_act_54 : decode cX6_act 54 = .ok (.iload_n 3, 1) := by decide +kernel
theorem dX6_act_55 : decode cX6_act 55 = .ok (.iastore, 1) := by decide +kernel
theorem dX6_act_56 : decode cX6_act 56 = .ok (.aload_n 0, 1) := by decide +kernel
theorem dX6_act_57 : decode cX6_act 57 = .ok (.getfield 19, 3) := by decide +kernel
theorem dX6_act_60 : decode cX6_act 60 = .ok (.aload_n 0, 1) := by decide +kernel
theorem dX6_act_61 : decode cX6_act 61 = .ok (.getfield 121, 3) := by decide +kernel
theorem dX6_act_64 : decode cX6_act 64 = .ok (.iload 4, 2) := by decide +kernel
theorem dX6_act_66 : decode cX6_act 66 = .ok (.iastore, 1) := by decide +kernel
theorem dX6_act_67 : decode cX6_act 67 = .ok (.aload_n 0, 1) := by decide +kernel
theorem dX6_act_68 : decode cX6_act 68 = .ok (.dup, 1) := by decide +kernel
theorem dX6_act_69 : decode cX6_act 69 = .ok (.getfield 121, 3) := by decide +kernel
theorem dX6_act_72 : decode cX6_act 72 = .ok (.iconst 1, 1) := by decide +kernel
theorem dX6_act_73 : decode cX6_act 73 = .ok (.iadd, 1) := by decide +kernel
theorem dX6_act_74 : decode cX6_act 74 = .ok (.putfield 121, 3) := by decide +kernel
theorem dX6_act_77 : decode cX6_act 77 = .ok (.aload_n 0, 1) := by decide +kernel
theorem dX6_act_78 : decode cX6_act 78 = .ok (.getfield 121, 3) := by decide +kernel
theorem dX6_act_81 : decode cX6_act 81 = .ok (.iconst 1, 1) := by decide +kernel
theorem dX6_act_82 : decode cX6_act 82 = .ok (.isub, 1) := by decide +kernel
theorem dX6_act_83 : decode cX6_act 83 = .ok (.ireturn, 1) := by decide +kernel
theorem dX6_guard_0 : decode cX6_guard 0 = .ok (.iload_n 1, 1) := by decide +kernel
theorem dX6_guard_1 : decode cX6_guard 1 = .ok (.ifCond .lt 35, 3) := by decide +kernel
theorem dX6_guard_4 : decode cX6_guard 4 = .ok (.iload_n 1, 1) := by decide +kernel
theorem dX6_guard_5 : decode cX6_guard 5 = .ok (.iload_n 2, 1) := by decide +kernel
theorem dX6_guard_6 : decode cX6_guard 6 = .ok (.if_icmp .ge 30, 3) := by decide +kernel
theorem dX6_guard_9 : decode cX6_guard 9 = .ok (.iload_n 2, 1) := by decide +kernel
theorem dX6_guard_10 : decode cX6_guard 10 = .ok (.bipush 40, 2) := by decide +kernel
theorem dX6_guard_12 : decode cX6_guard 12 = .ok (.if_icmp .gt 24, 3) := by decide +kernel
theorem dX6_guard_15 : decode cX6_guard 15 = .ok (.iload_n 3, 1) := by decide +kernel
theorem dX6_guard_16 : decode cX6_guard 16 = .ok (.iconst 0, 1) := by decide +kernel
theorem dX6_guard_17 : decode cX6_guard 17 = .ok (.bipush 7, 2) := by decide +kernel
theorem dX6_guard_19 : decode cX6_guard 19 = .ok (.invokestatic 106, 3) := by decide +kernel
theorem dX6_guard_22 : decode cX6_guard 22 = .ok (.ifCond .eq 14, 3) := by decide +kernel
theorem dX6_guard_25 : decode cX6_guard 25 = .ok (.iload 4, 2) := by decide +kernel
theorem dX6_guard_27 : decode cX6_guard 27 = .ok (.iconst 0, 1) := by decide +kernel
theorem dX6_guard_28 : decode cX6_guard 28 = .ok (.bipush 40, 2) := by decide +kernel
theorem dX6_guard_30 : decode cX6_guard 30 = .ok (.invokestatic 106, 3) := by decide +kernel
theorem dX6_guard_33 : decode cX6_guard 33 = .ok (.ifCond .ne 6, 3) := by decide +kernel
theorem dX6_guard_36 : decode cX6_guard 36 = .ok (.bipush (-101), 2) := by decide +kernel
theorem dX6_guard_38 : decode cX6_guard 38 = .ok (.ireturn, 1) := by decide +kernel
theorem dX6_guard_39 : decode cX6_guard 39 = .ok (.aload_n 0, 1) := by decide +kernel
theorem dX6_guard_40 : decode cX6_guard 40 = .ok (.getfield 124, 3) := by decide +kernel
theorem dX6_guard_43 : decode cX6_guard 43 = .ok (.iconst 5, 1) := by decide +kernel
theorem dX6_guard_44 : decode cX6_guard 44 = .ok (.if_icmp .ne 6, 3) := by decide +kernel
theorem dX6_guard_47 : decode cX6_guard 47 = .ok (.bipush (-102), 2) := by decide +kernel
theorem dX6_guard_49 : decode cX6_guard 49 = .ok (.ireturn, 1) := by decide +kernel
theorem dX6_guard_50 : decode cX6_guard 50 = .ok (.aload_n 0, 1) := by decide +kernel
theorem dX6_guard_51 : decode cX6_guard 51 = .ok (.getfield 22, 3) := by decide +kernel
theorem dX6_guard_54 : decode cX6_guard 54 = .ok (.aload_n 0, 1) := by decide +kernel
theorem dX6_guard_55 : decode cX6_guard 55 = .ok (.getfield 124, 3) := by decide +kernel
theorem dX6_guard_58 : decode cX6_guard 58 = .ok (.iload_n 1, 1) := by decide +kernel
theorem dX6_guard_59 : decode cX6_guard 59 = .ok (.iastore, 1) := by decide +kernel
theorem dX6_guard_60 : decode cX6_guard 60 = .ok (.aload_n 0, 1) := by decide +kernel
theorem dX6_guard_61 : decode cX6_guard 61 = .ok (.getfield 25, 3) := by decide +kernel
theorem dX6_guard_64 : decode cX6_guard 64 = .ok (.aload_n 0, 1) := by decide +kernel
theorem dX6_guard_65 : decode cX6_guard 65 = .ok (.getfield 124, 3) := by decide +kernel
theorem dX6_guard_68 : decode cX6_guard 68 = .ok (.iload_n 2, 1) := by decide +kernel
theorem dX6_guard_69 : decode cX6_guard 69 = .ok (.iastore, 1) := by decide +kernel
theorem dX6_guard_70 : decode cX6_guard 70 = .ok (.aload_n 0, 1) := by decide +kernel
theorem dX6_guard_71 : decode cX6_guard 71 = .ok (.getfield 28, 3) := by decide +kernel
theorem dX6_guard_74 : decode cX6_guard 74 = .ok (.aload_n 0, 1) := by decide +kernel
theorem dX6_guard_75 : decode cX6_guard 75 = .ok (.getfield 124, 3) := by decide +kernel
theorem dX6_guard_78 : decode cX6_guard 78 = .ok (.iload_n 3, 1) := by decide +kernel
theorem dX6_guard_79 : decode cX6_guard 79 = .ok (.iastore, 1) := by decide +kernel
theorem dX6_guard_80 : decode cX6_guard 80 = .ok (.aload_n 0, 1) := by decide +kernel
theorem dX6_guard_81 : decode cX6_guard 81 = .ok (.getfield 31, 3) := by decide +kernel
theorem dX6_guard_84 : decode cX6_guard 84 = .ok (.aload_n 0, 1) := by decide +kernel
theorem dX6_guard_85 : decode cX6_guard 85 = .ok (.getfield 124, 3) := by decide +kernel
theorem dX6_guard_88 : decode cX6_guard 88 = .ok (.iload 4, 2) := by decide +kernel
theorem dX6_guard_90 : decode cX6_guard 90 = .ok (.iastore, 1) := by decide +kernel
theorem dX6_guard_91 : decode cX6_guard 91 = .ok (.aload_n 0, 1) := by decide +kernel
theorem dX6_guard_92 : decode cX6_guard 92 = .ok (.dup, 1) := by decide +kernel
theorem dX6_guard_93 : decode cX6_guard 93 = .ok (.getfield 124, 3) := by decide +kernel
theorem dX6_guard_96 : decode cX6_guard 96 = .ok (.iconst 1, 1) := by decide +kernel
theorem dX6_guard_97 : decode cX6_guard 97 = .ok (.iadd, 1) := by decide +kernel
theorem dX6_guard_98 : decode cX6_guard 98 = .ok (.putfield 124, 3) := by decide +kernel
theorem dX6_guard_101 : decode cX6_guard 101 = .ok (.aload_n 0, 1) := by decide +kernel
theorem dX6_guard_102 : decode cX6_guard 102 = .ok (.getfield 124, 3) := by decide +kernel
theorem dX6_guard_105 : decode cX6_guard 105 = .ok (.iconst 1, 1) := by decide +kernel
theorem dX6_guard_106 : decode cX6_guard 106 = .ok (.isub, 1) := by decide +kernel
theorem dX6_guard_107 : decode cX6_guard 107 = .ok (.ireturn, 1) := by decide +kernel
theorem dX6_clear_0 : decode cX6_clear 0 = .ok (.aload_n 0, 1) := by decide +kernel
theorem dX6_clear_1 : decode cX6_clear 1 = .ok (.getfield 121, 3) := by decide +kernel
theorem dX6_clear_4 : decode cX6_clear 4 = .ok (.istore_n 1, 1) := by decide +kernel
theorem dX6_clear_5 : decode cX6_clear 5 = .ok (.aload_n 0, 1) := by decide +kernel
theorem dX6_clear_6 : decode cX6_clear 6 = .ok (.iconst 0, 1) := by decide +kernel
theorem dX6_clear_7 : decode cX6_clear 7 = .ok (.putfield 121, 3) := by decide +kernel
theorem dX6_clear_10 : decode cX6_clear 10 = .ok (.aload_n 0, 1) := by decide +kernel
theorem dX6_clear_11 : decode cX6_clear 11 = .ok (.iconst 0, 1) := by decide +kernel
theorem dX6_clear_12 : decode cX6_clear 12 = .ok (.putfield 124, 3) := by decide +kernel
theorem dX6_clear_15 : decode cX6_clear 15 = .ok (.iload_n 1, 1) := by decide +kernel
theorem dX6_clear_16 : decode cX6_clear 16 = .ok (.ireturn, 1) := by decide +kernel
theorem dX6_isOf_0 : decode cX6_isOf 0 = .ok (.iload_n 1, 1) := by decide +kernel
theorem dX6_isOf_1 : decode cX6_isOf 1 = .ok (.ifCond .eq 23, 3) := by decide +kernel
theorem dX6_isOf_4 : decode cX6_isOf 4 = .ok (.iload_n 0, 1) := by decide +kernel
theorem dX6_isOf_5 : decode cX6_isOf 5 = .ok (.iload_n 1, 1) := by decide +kernel
theorem dX6_isOf_6 : decode cX6_isOf 6 = .ok (.if_icmp .eq 18, 3) := by decide +kernel
theorem dX6_isOf_9 : decode cX6_isOf 9 = .ok (.iload_n 1, 1) := by decide +kernel
theorem dX6_isOf_10 : decode cX6_isOf 10 = .ok (.iconst 3, 1) := by decide +kernel
theorem dX6_isOf_11 : decode cX6_isOf 11 = .ok (.if_icmp .ge 17, 3) := by decide +kernel
theorem dX6_isOf_14 : decode cX6_isOf 14 = .ok (.iload_n 0, 1) := by decide +kernel
theorem dX6_isOf_15 : decode cX6_isOf 15 = .ok (.iload_n 1, 1) := by decide +kernel
theorem dX6_isOf_16 : decode cX6_isOf 16 = .ok (.if_icmp .le 12, 3) := by decide +kernel
theorem dX6_isOf_19 : decode cX6_isOf 19 = .ok (.iload_n 0, 1) := by decide +kernel
theorem dX6_isOf_20 : decode cX6_isOf 20 = .ok (.iconst 3, 1) := by decide +kernel
theorem dX6_isOf_21 : decode cX6_isOf 21 = .ok (.if_icmp .gt 7, 3) := by decide +kernel
theorem dX6_isOf_24 : decode cX6_isOf 24 = .ok (.iconst 1, 1) := by decide +kernel
theorem dX6_isOf_25 : decode cX6_isOf 25 = .ok (.goto 4, 3) := by decide +kernel
theorem dX6_isOf_28 : decode cX6_isOf 28 = .ok (.iconst 0, 1) := by decide +kernel
theorem dX6_isOf_29 : decode cX6_isOf 29 = .ok (.ireturn, 1) := by decide +kernel
theorem dX6_isSize_0 : decode cX6_isSize 0 = .ok (.aload_n 0, 1) := by decide +kernel
theorem dX6_isSize_1 : decode cX6_isSize 1 = .ok (.iload_n 1, 1) := by decide +kernel
theorem dX6_isSize_2 : decode cX6_isSize 2 = .ok (.ifCond .ge 7, 3) := by decide +kernel
theorem dX6_isSize_5 : decode cX6_isSize 5 = .ok (.iconst 2, 1) := by decide +kernel
theorem dX6_isSize_6 : decode cX6_isSize 6 = .ok (.goto 15, 3) := by decide +kernel
theorem dX6_isSize_9 : decode cX6_isSize 9 = .ok (.iload_n 1, 1) := by decide +kernel
theorem dX6_isSize_10 : decode cX6_isSize 10 = .ok (.bipush 8, 2) := by decide +kernel
theorem dX6_isSize_12 : decode cX6_isSize 12 = .ok (.if_icmp .le 8, 3) := by decide +kernel
theorem dX6_isSize_15 : decode cX6_isSize 15 = .ok (.bipush 6, 2) := by decide +kernel
theorem dX6_isSize_17 : decode cX6_isSize 17 = .ok (.goto 4, 3) := by decide +kernel
theorem dX6_isSize_20 : decode cX6_isSize 20 = .ok (.iconst 0, 1) := by decide +kernel
theorem dX6_isSize_21 : decode cX6_isSize 21 = .ok (.putfield 127, 3) := by decide +kernel
theorem dX6_isSize_24 : decode cX6_isSize 24 = .ok (.aload_n 0, 1) := by decide +kernel
theorem dX6_isSize_25 : decode cX6_isSize 25 = .ok (.getfield 127, 3) := by decide +kernel
theorem dX6_isSize_28 : decode cX6_isSize 28 = .ok (.ifCond .ne 7, 3) := by decide +kernel
theorem dX6_isSize_31 : decode cX6_isSize 31 = .ok (.iconst 1, 1) := by decide +kernel
theorem dX6_isSize_32 : decode cX6_isSize 32 = .ok (.goto 4, 3) := by decide +kernel
theorem dX6_isSize_35 : decode cX6_isSize 35 = .ok (.iconst 0, 1) := by decide +kernel
theorem dX6_isSize_36 : decode cX6_isSize 36 = .ok (.ireturn, 1) := by decide +kernel
theorem dX6_isThere_0 : decode cX6_isThere 0 = .ok (.aload_n 0, 1) := by decide +kernel
theorem dX6_isThere_1 : decode cX6_isThere 1 = .ok (.iload_n 1, 1) := by decide +kernel
theorem dX6_isThere_2 : decode cX6_isThere 2 = .ok (.ifCond .eq 7, 3) := by decide +kernel
theorem dX6_isThere_5 : decode cX6_isThere 5 = .ok (.iconst 0, 1) := by decide +kernel
theorem dX6_isThere_6 : decode cX6_isThere 6 = .ok (.goto 4, 3) := by decide +kernel
theorem dX6_isThere_9 : decode cX6_isThere 9 = .ok (.iconst 1, 1) := by decide +kernel
theorem dX6_isThere_10 : decode cX6_isThere 10 = .ok (.putfield 127, 3) := by decide +kernel
theorem dX6_isThere_13 : decode cX6_isThere 13 = .ok (.iload_n 1, 1) := by decide +kernel
theorem dX6_isThere_14 : decode cX6_isThere 14 = .ok (.ireturn, 1) := by decide +kernel
theorem dX6_isIndex_0 : decode cX6_isIndex 0 = .ok (.aload_n 0, 1) := by decide +kernel
theorem dX6_isIndex_1 : decode cX6_isIndex 1 = .ok (.iload_n 1, 1) := by decide +kernel
theorem dX6_isIndex_2 : decode cX6_isIndex 2 = .ok (.iconst 0, 1) := by decide +kernel
theorem dX6_isIndex_3 : decode cX6_isIndex 3 = .ok (.iload_n 2, 1) := by decide +kernel
theorem dX6_isIndex_4 : decode cX6_isIndex 4 = .ok (.iconst 1, 1) := by decide +kernel
theorem dX6_isIndex_5 : decode cX6_isIndex 5 = .ok (.isub, 1) := by decide +kernel
theorem dX6_isIndex_6 : decode cX6_isIndex 6 = .ok (.invokestatic 106, 3) := by decide +kernel
theorem dX6_isIndex_9 : decode cX6_isIndex 9 = .ok (.ifCond .eq 7, 3) := by decide +kernel
theorem dX6_isIndex_12 : decode cX6_isIndex 12 = .ok (.iconst 0, 1) := by decide +kernel
theorem dX6_isIndex_13 : decode cX6_isIndex 13 = .ok (.goto 4, 3) := by decide +kernel
theorem dX6_isIndex_16 : decode cX6_isIndex 16 = .ok (.iconst 3, 1) := by decide +kernel
theorem dX6_isIndex_17 : decode cX6_isIndex 17 = .ok (.putfield 127, 3) := by decide +kernel
theorem dX6_isIndex_20 : decode cX6_isIndex 20 = .ok (.aload_n 0, 1) := by decide +kernel
theorem dX6_isIndex_21 : decode cX6_isIndex 21 = .ok (.getfield 127, 3) := by decide +kernel
theorem dX6_isIndex_24 : decode cX6_isIndex 24 = .ok (.ifCond .ne 7, 3) := by decide +kernel
theorem dX6_isIndex_27 : decode cX6_isIndex 27 = .ok (.iconst 1, 1) := by decide +kernel
theorem dX6_isIndex_28 : decode cX6_isIndex 28 = .ok (.goto 4, 3) := by decide +kernel
theorem dX6_isIndex_31 : decode cX6_isIndex 31 = .ok (.iconst 0, 1) := by decide +kernel
theorem dX6_isIndex_32 : decode cX6_isIndex 32 = .ok (.ireturn, 1) := by decide +kernel
theorem dX6_belts_0 : decode cX6_belts 0 = .ok (.iload_n 1, 1) := by decide +kernel
theorem dX6_belts_1 : decode cX6_belts 1 = .ok (.iconst 3, 1) := by decide +kernel
theorem dX6_belts_2 : decode cX6_belts 2 = .ok (.if_icmp .ne 7, 3) := by decide +kernel
theorem dX6_belts_5 : decode cX6_belts 5 = .ok (.iload_n 2, 1) := by decide +kernel
theorem dX6_belts_6 : decode cX6_belts 6 = .ok (.goto 13, 3) := by decide +kernel
theorem dX6_belts_9 : decode cX6_belts 9 = .ok (.iload_n 1, 1) := by decide +kernel
theorem dX6_belts_10 : decode cX6_belts 10 = .ok (.iconst 4, 1) := by decide +kernel
theorem dX6_belts_11 : decode cX6_belts 11 = .ok (.if_icmp .ne 7, 3) := by decide +kernel
theorem dX6_belts_14 : decode cX6_belts 14 = .ok (.iload_n 2, 1) := by decide +kernel
theorem dX6_belts_15 : decode cX6_belts 15 = .ok (.goto 4, 3) := by decide +kernel
theorem dX6_belts_18 : decode cX6_belts 18 = .ok (.iload_n 3, 1) := by decide +kernel
theorem dX6_belts_19 : decode cX6_belts 19 = .ok (.istore 5, 2) := by decide +kernel
theorem dX6_belts_21 : decode cX6_belts 21 = .ok (.iload_n 1, 1) := by decide +kernel
theorem dX6_belts_22 : decode cX6_belts 22 = .ok (.iconst 3, 1) := by decide +kernel
theorem dX6_belts_23 : decode cX6_belts 23 = .ok (.if_icmp .ne 66, 3) := by decide +kernel
theorem dX6_belts_26 : decode cX6_belts 26 = .ok (.aload_n 0, 1) := by decide +kernel
theorem dX6_belts_27 : decode cX6_belts 27 = .ok (.getfield 74, 3) := by decide +kernel
theorem dX6_belts_30 : decode cX6_belts 30 = .ok (.iload 4, 2) := by decide +kernel
theorem dX6_belts_32 : decode cX6_belts 32 = .ok (.iaload, 1) := by decide +kernel
theorem dX6_belts_33 : decode cX6_belts 33 = .ok (.istore 6, 2) := by decide +kernel
theorem dX6_belts_35 : decode cX6_belts 35 = .ok (.aload_n 0, 1) := by decide +kernel
theorem dX6_belts_36 : decode cX6_belts 36 = .ok (.iload 6, 2) := by decide +kernel
theorem dX6_belts_38 : decode cX6_belts 38 = .ok (.invokevirtual 130, 3) := by decide +kernel
theorem dX6_belts_41 : decode cX6_belts 41 = .ok (.ifCond .eq 47, 3) := by decide +kernel
theorem dX6_belts_44 : decode cX6_belts 44 = .ok (.aload_n 0, 1) := by decide +kernel
theorem dX6_belts_45 : decode cX6_belts 45 = .ok (.getfield 46, 3) := by decide +kernel
theorem dX6_belts_48 : decode cX6_belts 48 = .ok (.iload_n 2, 1) := by decide +kernel
theorem dX6_belts_49 : decode cX6_belts 49 = .ok (.iload 6, 2) := by decide +kernel
theorem dX6_belts_51 : decode cX6_belts 51 = .ok (.iastore, 1) := by decide +kernel
theorem dX6_belts_52 : decode cX6_belts 52 = .ok (.aload_n 0, 1) := by decide +kernel
theorem dX6_belts_53 : decode cX6_belts 53 = .ok (.getfield 49, 3) := by decide +kernel
theorem dX6_belts_56 : decode cX6_belts 56 = .ok (.iload_n 2, 1) := by decide +kernel
theorem dX6_belts_57 : decode cX6_belts 57 = .ok (.iload_n 3, 1) := by decide +kernel
theorem dX6_belts_58 : decode cX6_belts 58 = .ok (.iastore, 1) := by decide +kernel
theorem dX6_belts_59 : decode cX6_belts 59 = .ok (.iconst 0, 1) := by decide +kernel
theorem dX6_belts_60 : decode cX6_belts 60 = .ok (.istore 7, 2) := by decide +kernel
theorem dX6_belts_62 : decode cX6_belts 62 = .ok (.iload 7, 2) := by decide +kernel
theorem dX6_belts_64 : decode cX6_belts 64 = .ok (.iload 6, 2) := by decide +kernel
theorem dX6_belts_66 : decode cX6_belts 66 = .ok (.if_icmp .ge 22, 3) := by decide +kernel
theorem dX6_belts_69 : decode cX6_belts 69 = .ok (.aload_n 0, 1) := by decide +kernel
theorem dX6_belts_70 : decode cX6_belts 70 = .ok (.getfield 52, 3) := by decide +kernel
theorem dX6_belts_73 : decode cX6_belts 73 = .ok (.bipush 8, 2) := by decide +kernel
theorem dX6_belts_75 : decode cX6_belts 75 = .ok (.iload_n 2, 1) := by decide +kernel
theorem dX6_belts_76 : decode cX6_belts 76 = .ok (.imul, 1) := by decide +kernel
theorem dX6_belts_77 : decode cX6_belts 77 = .ok (.iload 7, 2) := by decide +kernel
theorem dX6_belts_79 : decode cX6_belts 79 = .ok (.iadd, 1) := by decide +kernel
theorem dX6_belts_80 : decode cX6_belts 80 = .ok (.iconst (-1), 1) := by decide +kernel
theorem dX6_belts_81 : decode cX6_belts 81 = .ok (.iastore, 1) := by decide +kernel
theorem dX6_belts_82 : decode cX6_belts 82 = .ok (.iinc 7 1, 3) := by decide +kernel
theorem dX6_belts_85 : decode cX6_belts 85 = .ok (.goto (-23), 3) := by decide +kernel
theorem dX6_belts_88 : decode cX6_belts 88 = .ok (.return_, 1) := by decide +kernel
theorem dX6_belts_89 : decode cX6_belts 89 = .ok (.iload_n 1, 1) := by decide +kernel
theorem dX6_belts_90 : decode cX6_belts 90 = .ok (.iconst 4, 1) := by decide +kernel
theorem dX6_belts_91 : decode cX6_belts 91 = .ok (.if_icmp .ne 12, 3) := by decide +kernel
theorem dX6_belts_94 : decode cX6_belts 94 = .ok (.aload_n 0, 1) := by decide +kernel
theorem dX6_belts_95 : decode cX6_belts 95 = .ok (.getfield 74, 3) := by decide +kernel
theorem dX6_belts_98 : decode cX6_belts 98 = .ok (.iload_n 3, 1) := by decide +kernel
theorem dX6_belts_99 : decode cX6_belts 99 = .ok (.iaload, 1) := by decide +kernel
theorem dX6_belts_100 : decode cX6_belts 100 = .ok (.goto 10, 3) := by decide +kernel
theorem dX6_belts_103 : decode cX6_belts 103 = .ok (.aload_n 0, 1) := by decide +kernel
theorem dX6_belts_104 : decode cX6_belts 104 = .ok (.getfield 74, 3) := by decide +kernel
theorem dX6_belts_107 : decode cX6_belts 107 = .ok (.iload 4, 2) := by decide +kernel
theorem dX6_belts_109 : decode cX6_belts 109 = .ok (.iaload, 1) := by decide +kernel
theorem dX6_belts_110 : decode cX6_belts 110 = .ok (.istore 6, 2) := by decide +kernel
theorem dX6_belts_112 : decode cX6_belts 112 = .ok (.aload_n 0, 1) := by decide +kernel
theorem dX6_belts_113 : decode cX6_belts 113 = .ok (.aload_n 0, 1) := by decide +kernel
theorem dX6_belts_114 : decode cX6_belts 114 = .ok (.getfield 46, 3) := by decide +kernel
theorem dX6_belts_117 : decode cX6_belts 117 = .ok (.iload 5, 2) := by decide +kernel
theorem dX6_belts_119 : decode cX6_belts 119 = .ok (.iaload, 1) := by decide +kernel
theorem dX6_belts_120 : decode cX6_belts 120 = .ok (.iconst (-1), 1) := by decide +kernel
theorem dX6_belts_121 : decode cX6_belts 121 = .ok (.if_icmp .eq 7, 3) := by decide +kernel
theorem dX6_belts_124 : decode cX6_belts 124 = .ok (.iconst 1, 1) := by decide +kernel
theorem dX6_belts_125 : decode cX6_belts 125 = .ok (.goto 4, 3) := by decide +kernel
theorem dX6_belts_128 : decode cX6_belts 128 = .ok (.iconst 0, 1) := by decide +kernel
theorem dX6_belts_129 : decode cX6_belts 129 = .ok (.invokevirtual 133, 3) := by decide +kernel
theorem dX6_belts_132 : decode cX6_belts 132 = .ok (.ifCond .eq 19, 3) := by decide +kernel
theorem dX6_belts_135 : decode cX6_belts 135 = .ok (.aload_n 0, 1) := by decide +kernel
theorem dX6_belts_136 : decode cX6_belts 136 = .ok (.iload 6, 2) := by decide +kernel
theorem dX6_belts_138 : decode cX6_belts 138 = .ok (.aload_n 0, 1) := by decide +kernel
theorem dX6_belts_139 : decode cX6_belts 139 = .ok (.getfield 46, 3) := by decide +kernel
theorem dX6_belts_142 : decode cX6_belts 142 = .ok (.iload 5, 2) := by decide +kernel
theorem dX6_belts_144 : decode cX6_belts 144 = .ok (.iaload, 1) := by decide +kernel
theorem dX6_belts_145 : decode cX6_belts 145 = .ok (.invokevirtual 137, 3) := by decide +kernel
theorem dX6_belts_148 : decode cX6_belts 148 = .ok (.ifCond .ne 4, 3) := by decide +kernel
theorem dX6_belts_151 : decode cX6_belts 151 = .ok (.return_, 1) := by decide +kernel
theorem dX6_belts_152 : decode cX6_belts 152 = .ok (.iload_n 1, 1) := by decide +kernel
theorem dX6_belts_153 : decode cX6_belts 153 = .ok (.iconst 5, 1) := by decide +kernel
theorem dX6_belts_154 : decode cX6_belts 154 = .ok (.if_icmp .ne 25, 3) := by decide +kernel
theorem dX6_belts_157 : decode cX6_belts 157 = .ok (.aload_n 0, 1) := by decide +kernel
theorem dX6_belts_158 : decode cX6_belts 158 = .ok (.getfield 43, 3) := by decide +kernel
theorem dX6_belts_161 : decode cX6_belts 161 = .ok (.iload_n 2, 1) := by decide +kernel
theorem dX6_belts_162 : decode cX6_belts 162 = .ok (.aload_n 0, 1) := by decide +kernel
theorem dX6_belts_163 : decode cX6_belts 163 = .ok (.getfield 52, 3) := by decide +kernel
theorem dX6_belts_166 : decode cX6_belts 166 = .ok (.bipush 8, 2) := by decide +kernel
theorem dX6_belts_168 : decode cX6_belts 168 = .ok (.iload 5, 2) := by decide +kernel
theorem dX6_belts_170 : decode cX6_belts 170 = .ok (.imul, 1) := by decide +kernel
theorem dX6_belts_171 : decode cX6_belts 171 = .ok (.iload 6, 2) := by decide +kernel
theorem dX6_belts_173 : decode cX6_belts 173 = .ok (.iadd, 1) := by decide +kernel
theorem dX6_belts_174 : decode cX6_belts 174 = .ok (.iaload, 1) := by decide +kernel
theorem dX6_belts_175 : decode cX6_belts 175 = .ok (.iastore, 1) := by decide +kernel
theorem dX6_belts_176 : decode cX6_belts 176 = .ok (.goto 67, 3) := by decide +kernel
theorem dX6_belts_179 : decode cX6_belts 179 = .ok (.aload_n 0, 1) := by decide +kernel
theorem dX6_belts_180 : decode cX6_belts 180 = .ok (.getfield 43, 3) := by decide +kernel
theorem dX6_belts_183 : decode cX6_belts 183 = .ok (.iload 4, 2) := by decide +kernel
theorem dX6_belts_185 : decode cX6_belts 185 = .ok (.iaload, 1) := by decide +kernel
theorem dX6_belts_186 : decode cX6_belts 186 = .ok (.iconst (-1), 1) := by decide +kernel
theorem dX6_belts_187 : decode cX6_belts 187 = .ok (.if_icmp .eq 36, 3) := by decide +kernel
theorem dX6_belts_190 : decode cX6_belts 190 = .ok (.aload_n 0, 1) := by decide +kernel
theorem dX6_belts_191 : decode cX6_belts 191 = .ok (.getfield 34, 3) := by decide +kernel
theorem dX6_belts_194 : decode cX6_belts 194 = .ok (.aload_n 0, 1) := by decide +kernel
theorem dX6_belts_195 : decode cX6_belts 195 = .ok (.getfield 43, 3) := by decide +kernel
theorem dX6_belts_198 : decode cX6_belts 198 = .ok (.iload 4, 2) := by decide +kernel
theorem dX6_belts_200 : decode cX6_belts 200 = .ok (.iaload, 1) := by decide +kernel
theorem dX6_belts_201 : decode cX6_belts 201 = .ok (.iaload, 1) := by decide +kernel
theorem dX6_belts_202 : decode cX6_belts 202 = .ok (.aload_n 0, 1) := by decide +kernel
theorem dX6_belts_203 : decode cX6_belts 203 = .ok (.getfield 49, 3) := by decide +kernel
theorem dX6_belts_206 : decode cX6_belts 206 = .ok (.iload 5, 2) := by decide +kernel
theorem dX6_belts_208 : decode cX6_belts 208 = .ok (.iaload, 1) := by decide +kernel
theorem dX6_belts_209 : decode cX6_belts 209 = .ok (.invokestatic 141, 3) := by decide +kernel
theorem dX6_belts_212 : decode cX6_belts 212 = .ok (.ifCond .ne 11, 3) := by decide +kernel
theorem dX6_belts_215 : decode cX6_belts 215 = .ok (.aload_n 0, 1) := by decide +kernel
theorem dX6_belts_216 : decode cX6_belts 216 = .ok (.iconst 5, 1) := by decide +kernel
theorem dX6_belts_217 : decode cX6_belts 217 = .ok (.putfield 127, 3) := by decide +kernel
theorem dX6_belts_220 : decode cX6_belts 220 = .ok (.goto 23, 3) := by decide +kernel
theorem dX6_belts_223 : decode cX6_belts 223 = .ok (.aload_n 0, 1) := by decide +kernel
theorem dX6_belts_224 : decode cX6_belts 224 = .ok (.getfield 52, 3) := by decide +kernel
theorem dX6_belts_227 : decode cX6_belts 227 = .ok (.bipush 8, 2) := by decide +kernel
theorem dX6_belts_229 : decode cX6_belts 229 = .ok (.iload 5, 2) := by decide +kernel
theorem dX6_belts_231 : decode cX6_belts 231 = .ok (.imul, 1) := by decide +kernel
theorem dX6_belts_232 : decode cX6_belts 232 = .ok (.iload 6, 2) := by decide +kernel
theorem dX6_belts_234 : decode cX6_belts 234 = .ok (.iadd, 1) := by decide +kernel
theorem dX6_belts_235 : decode cX6_belts 235 = .ok (.aload_n 0, 1) := by decide +kernel
theorem dX6_belts_236 : decode cX6_belts 236 = .ok (.getfield 43, 3) := by decide +kernel
theorem dX6_belts_239 : decode cX6_belts 239 = .ok (.iload 4, 2) := by decide +kernel
theorem dX6_belts_241 : decode cX6_belts 241 = .ok (.iaload, 1) := by decide +kernel
theorem dX6_belts_242 : decode cX6_belts 242 = .ok (.iastore, 1) := by decide +kernel
theorem dX6_belts_243 : decode cX6_belts 243 = .ok (.return_, 1) := by decide +kernel
theorem dX6_stamped_0 : decode cX6_stamped 0 = .ok (.aload_n 0, 1) := by decide +kernel
theorem dX6_stamped_1 : decode cX6_stamped 1 = .ok (.getfield 40, 3) := by decide +kernel
theorem dX6_stamped_4 : decode cX6_stamped 4 = .ok (.iload_n 1, 1) := by decide +kernel
theorem dX6_stamped_5 : decode cX6_stamped 5 = .ok (.dup2, 1) := by decide +kernel
theorem dX6_stamped_6 : decode cX6_stamped 6 = .ok (.iaload, 1) := by decide +kernel
theorem dX6_stamped_7 : decode cX6_stamped 7 = .ok (.iconst 1, 1) := by decide +kernel
theorem dX6_stamped_8 : decode cX6_stamped 8 = .ok (.iadd, 1) := by decide +kernel
theorem dX6_stamped_9 : decode cX6_stamped 9 = .ok (.iastore, 1) := by decide +kernel
theorem dX6_stamped_10 : decode cX6_stamped 10 = .ok (.aload_n 0, 1) := by decide +kernel
theorem dX6_stamped_11 : decode cX6_stamped 11 = .ok (.getfield 37, 3) := by decide +kernel
theorem dX6_stamped_14 : decode cX6_stamped 14 = .ok (.iload_n 1, 1) := by decide +kernel
theorem dX6_stamped_15 : decode cX6_stamped 15 = .ok (.iaload, 1) := by decide +kernel
theorem dX6_stamped_16 : decode cX6_stamped 16 = .ok (.aload_n 0, 1) := by decide +kernel
theorem dX6_stamped_17 : decode cX6_stamped 17 = .ok (.getfield 40, 3) := by decide +kernel
theorem dX6_stamped_20 : decode cX6_stamped 20 = .ok (.iload_n 1, 1) := by decide +kernel
theorem dX6_stamped_21 : decode cX6_stamped 21 = .ok (.iaload, 1) := by decide +kernel
theorem dX6_stamped_22 : decode cX6_stamped 22 = .ok (.iadd, 1) := by decide +kernel
theorem dX6_stamped_23 : decode cX6_stamped 23 = .ok (.istore_n 2, 1) := by decide +kernel
theorem dX6_stamped_24 : decode cX6_stamped 24 = .ok (.aload_n 0, 1) := by decide +kernel
theorem dX6_stamped_25 : decode cX6_stamped 25 = .ok (.getfield 34, 3) := by decide +kernel
theorem dX6_stamped_28 : decode cX6_stamped 28 = .ok (.iload_n 1, 1) := by decide +kernel
theorem dX6_stamped_29 : decode cX6_stamped 29 = .ok (.iaload, 1) := by decide +kernel
theorem dX6_stamped_30 : decode cX6_stamped 30 = .ok (.ifCond .ne 7, 3) := by decide +kernel
theorem dX6_stamped_33 : decode cX6_stamped 33 = .ok (.iload_n 2, 1) := by decide +kernel
theorem dX6_stamped_34 : decode cX6_stamped 34 = .ok (.goto 40, 3) := by decide +kernel
theorem dX6_stamped_37 : decode cX6_stamped 37 = .ok (.aload_n 0, 1) := by decide +kernel
theorem dX6_stamped_38 : decode cX6_stamped 38 = .ok (.getfield 34, 3) := by decide +kernel
theorem dX6_stamped_41 : decode cX6_stamped 41 = .ok (.iload_n 1, 1) := by decide +kernel
theorem dX6_stamped_42 : decode cX6_stamped 42 = .ok (.iaload, 1) := by decide +kernel
theorem dX6_stamped_43 : decode cX6_stamped 43 = .ok (.iconst 4, 1) := by decide +kernel
theorem dX6_stamped_44 : decode cX6_stamped 44 = .ok (.if_icmp .ne 9, 3) := by decide +kernel
theorem dX6_stamped_47 : decode cX6_stamped 47 = .ok (.iconst 3, 1) := by decide +kernel
theorem dX6_stamped_48 : decode cX6_stamped 48 = .ok (.iload_n 2, 1) := by decide +kernel
theorem dX6_stamped_49 : decode cX6_stamped 49 = .ok (.imul, 1) := by decide +kernel
theorem dX6_stamped_50 : decode cX6_stamped 50 = .ok (.goto 24, 3) := by decide +kernel
theorem dX6_stamped_53 : decode cX6_stamped 53 = .ok (.aload_n 0, 1) := by decide +kernel
theorem dX6_stamped_54 : decode cX6_stamped 54 = .ok (.getfield 34, 3) := by decide +kernel
theorem dX6_stamped_57 : decode cX6_stamped 57 = .ok (.iload_n 1, 1) := by decide +kernel
theorem dX6_stamped_58 : decode cX6_stamped 58 = .ok (.iaload, 1) := by decide +kernel
theorem dX6_stamped_59 : decode cX6_stamped 59 = .ok (.iconst 3, 1) := by decide +kernel
theorem dX6_stamped_60 : decode cX6_stamped 60 = .ok (.if_icmp .ne 11, 3) := by decide +kernel
theorem dX6_stamped_63 : decode cX6_stamped 63 = .ok (.iconst 2, 1) := by decide +kernel
theorem dX6_stamped_64 : decode cX6_stamped 64 = .ok (.iload_n 2, 1) := by decide +kernel
theorem dX6_stamped_65 : decode cX6_stamped 65 = .ok (.imul, 1) := by decide +kernel
theorem dX6_stamped_66 : decode cX6_stamped 66 = .ok (.iconst 1, 1) := by decide +kernel
theorem dX6_stamped_67 : decode cX6_stamped 67 = .ok (.isub, 1) := by decide +kernel
theorem dX6_stamped_68 : decode cX6_stamped 68 = .ok (.goto 6, 3) := by decide +kernel
theorem dX6_stamped_71 : decode cX6_stamped 71 = .ok (.iconst 2, 1) := by decide +kernel
theorem dX6_stamped_72 : decode cX6_stamped 72 = .ok (.iload_n 2, 1) := by decide +kernel
theorem dX6_stamped_73 : decode cX6_stamped 73 = .ok (.imul, 1) := by decide +kernel
theorem dX6_stamped_74 : decode cX6_stamped 74 = .ok (.ireturn, 1) := by decide +kernel
theorem dX6_feed_0 : decode cX6_feed 0 = .ok (.aload_n 0, 1) := by decide +kernel
theorem dX6_feed_1 : decode cX6_feed 1 = .ok (.getfield 34, 3) := by decide +kernel
theorem dX6_feed_4 : decode cX6_feed 4 = .ok (.iload_n 2, 1) := by decide +kernel
theorem dX6_feed_5 : decode cX6_feed 5 = .ok (.iaload, 1) := by decide +kernel
theorem dX6_feed_6 : decode cX6_feed 6 = .ok (.iconst 3, 1) := by decide +kernel
theorem dX6_feed_7 : decode cX6_feed 7 = .ok (.if_icmp .ge 11, 3) := by decide +kernel
theorem dX6_feed_10 : decode cX6_feed 10 = .ok (.aload_n 0, 1) := by decide +kernel
theorem dX6_feed_11 : decode cX6_feed 11 = .ok (.iconst 4, 1) := by decide +kernel
theorem dX6_feed_12 : decode cX6_feed 12 = .ok (.putfield 127, 3) := by decide +kernel
theorem dX6_feed_15 : decode cX6_feed 15 = .ok (.goto 67, 3) := by decide +kernel
theorem dX6_feed_18 : decode cX6_feed 18 = .ok (.aload_n 0, 1) := by decide +kernel
theorem dX6_feed_19 : decode cX6_feed 19 = .ok (.getfield 34, 3) := by decide +kernel
theorem dX6_feed_22 : decode cX6_feed 22 = .ok (.iload_n 2, 1) := by decide +kernel
theorem dX6_feed_23 : decode cX6_feed 23 = .ok (.iaload, 1) := by decide +kernel
theorem dX6_feed_24 : decode cX6_feed 24 = .ok (.iconst 3, 1) := by decide +kernel
theorem dX6_feed_25 : decode cX6_feed 25 = .ok (.if_icmp .ne 28, 3) := by decide +kernel
theorem dX6_feed_28 : decode cX6_feed 28 = .ok (.aload_n 0, 1) := by decide +kernel
theorem dX6_feed_29 : decode cX6_feed 29 = .ok (.getfield 37, 3) := by decide +kernel
theorem dX6_feed_32 : decode cX6_feed 32 = .ok (.iload_n 2, 1) := by decide +kernel
theorem dX6_feed_33 : decode cX6_feed 33 = .ok (.dup2, 1) := by decide +kernel
theorem dX6_feed_34 : decode cX6_feed 34 = .ok (.iaload, 1) := by decide +kernel
theorem dX6_feed_35 : decode cX6_feed 35 = .ok (.iconst 5, 1) := by decide +kernel
theorem dX6_feed_36 : decode cX6_feed 36 = .ok (.iadd, 1) := by decide +kernel
theorem dX6_feed_37 : decode cX6_feed 37 = .ok (.iastore, 1) := by decide +kernel
theorem dX6_feed_38 : decode cX6_feed 38 = .ok (.aload_n 0, 1) := by decide +kernel
theorem dX6_feed_39 : decode cX6_feed 39 = .ok (.getfield 74, 3) := by decide +kernel
theorem dX6_feed_42 : decode cX6_feed 42 = .ok (.iload_n 1, 1) := by decide +kernel
theorem dX6_feed_43 : decode cX6_feed 43 = .ok (.aload_n 0, 1) := by decide +kernel
theorem dX6_feed_44 : decode cX6_feed 44 = .ok (.getfield 37, 3) := by decide +kernel
theorem dX6_feed_47 : decode cX6_feed 47 = .ok (.iload_n 2, 1) := by decide +kernel
theorem dX6_feed_48 : decode cX6_feed 48 = .ok (.iaload, 1) := by decide +kernel
theorem dX6_feed_49 : decode cX6_feed 49 = .ok (.iastore, 1) := by decide +kernel
theorem dX6_feed_50 : decode cX6_feed 50 = .ok (.goto 32, 3) := by decide +kernel
theorem dX6_feed_53 : decode cX6_feed 53 = .ok (.aload_n 0, 1) := by decide +kernel
theorem dX6_feed_54 : decode cX6_feed 54 = .ok (.getfield 37, 3) := by decide +kernel
theorem dX6_feed_57 : decode cX6_feed 57 = .ok (.iload_n 2, 1) := by decide +kernel
theorem dX6_feed_58 : decode cX6_feed 58 = .ok (.dup2, 1) := by decide +kernel
theorem dX6_feed_59 : decode cX6_feed 59 = .ok (.iaload, 1) := by decide +kernel
theorem dX6_feed_60 : decode cX6_feed 60 = .ok (.iconst 2, 1) := by decide +kernel
theorem dX6_feed_61 : decode cX6_feed 61 = .ok (.imul, 1) := by decide +kernel
theorem dX6_feed_62 : decode cX6_feed 62 = .ok (.iastore, 1) := by decide +kernel
theorem dX6_feed_63 : decode cX6_feed 63 = .ok (.aload_n 0, 1) := by decide +kernel
theorem dX6_feed_64 : decode cX6_feed 64 = .ok (.getfield 74, 3) := by decide +kernel
theorem dX6_feed_67 : decode cX6_feed 67 = .ok (.iload_n 1, 1) := by decide +kernel
theorem dX6_feed_68 : decode cX6_feed 68 = .ok (.aload_n 0, 1) := by decide +kernel
theorem dX6_feed_69 : decode cX6_feed 69 = .ok (.getfield 37, 3) := by decide +kernel
theorem dX6_feed_72 : decode cX6_feed 72 = .ok (.iload_n 2, 1) := by decide +kernel
theorem dX6_feed_73 : decode cX6_feed 73 = .ok (.iaload, 1) := by decide +kernel
theorem dX6_feed_74 : decode cX6_feed 74 = .ok (.aload_n 0, 1) := by decide +kernel
theorem dX6_feed_75 : decode cX6_feed 75 = .ok (.getfield 40, 3) := by decide +kernel
theorem dX6_feed_78 : decode cX6_feed 78 = .ok (.iload_n 2, 1) := by decide +kernel
theorem dX6_feed_79 : decode cX6_feed 79 = .ok (.iaload, 1) := by decide +kernel
theorem dX6_feed_80 : decode cX6_feed 80 = .ok (.isub, 1) := by decide +kernel
theorem dX6_feed_81 : decode cX6_feed 81 = .ok (.iastore, 1) := by decide +kernel
theorem dX6_feed_82 : decode cX6_feed 82 = .ok (.return_, 1) := by decide +kernel
theorem dX6_one_0 : decode cX6_one 0 = .ok (.iload_n 1, 1) := by decide +kernel
theorem dX6_one_1 : decode cX6_one 1 = .ok (.bipush 9, 2) := by decide +kernel
theorem dX6_one_3 : decode cX6_one 3 = .ok (.if_icmp .eq 9, 3) := by decide +kernel
theorem dX6_one_6 : decode cX6_one 6 = .ok (.iload_n 1, 1) := by decide +kernel
theorem dX6_one_7 : decode cX6_one 7 = .ok (.bipush 12, 2) := by decide +kernel
theorem dX6_one_9 : decode cX6_one 9 = .ok (.if_icmp .ne 12, 3) := by decide +kernel
theorem dX6_one_12 : decode cX6_one 12 = .ok (.aload_n 0, 1) := by decide +kernel
theorem dX6_one_13 : decode cX6_one 13 = .ok (.getfield 43, 3) := by decide +kernel
theorem dX6_one_16 : decode cX6_one 16 = .ok (.iload_n 2, 1) := by decide +kernel
theorem dX6_one_17 : decode cX6_one 17 = .ok (.iaload, 1) := by decide +kernel
theorem dX6_one_18 : decode cX6_one 18 = .ok (.goto 9, 3) := by decide +kernel
theorem dX6_one_21 : decode cX6_one 21 = .ok (.aload_n 0, 1) := by decide +kernel
theorem dX6_one_22 : decode cX6_one 22 = .ok (.getfield 43, 3) := by decide +kernel
theorem dX6_one_25 : decode cX6_one 25 = .ok (.iload_n 3, 1) := by decide +kernel
theorem dX6_one_26 : decode cX6_one 26 = .ok (.iaload, 1) := by decide +kernel
theorem dX6_one_27 : decode cX6_one 27 = .ok (.istore 4, 2) := by decide +kernel
theorem dX6_one_29 : decode cX6_one 29 = .ok (.iload_n 1, 1) := by decide +kernel
theorem dX6_one_30 : decode cX6_one 30 = .ok (.bipush 12, 2) := by decide +kernel
theorem dX6_one_32 : decode cX6_one 32 = .ok (.if_icmp .ne 33, 3) := by decide +kernel
theorem dX6_one_35 : decode cX6_one 35 = .ok (.aload_n 0, 1) := by decide +kernel
theorem dX6_one_36 : decode cX6_one 36 = .ok (.iload 4, 2) := by decide +kernel
theorem dX6_one_38 : decode cX6_one 38 = .ok (.iconst (-1), 1) := by decide +kernel
theorem dX6_one_39 : decode cX6_one 39 = .ok (.if_icmp .eq 17, 3) := by decide +kernel
theorem dX6_one_42 : decode cX6_one 42 = .ok (.aload_n 0, 1) := by decide +kernel
theorem dX6_one_43 : decode cX6_one 43 = .ok (.getfield 34, 3) := by decide +kernel
theorem dX6_one_46 : decode cX6_one 46 = .ok (.iload 4, 2) := by decide +kernel
theorem dX6_one_48 : decode cX6_one 48 = .ok (.iaload, 1) := by decide +kernel
theorem dX6_one_49 : decode cX6_one 49 = .ok (.iload_n 3, 1) := by decide +kernel
theorem dX6_one_50 : decode cX6_one 50 = .ok (.invokestatic 141, 3) := by decide +kernel
theorem dX6_one_53 : decode cX6_one 53 = .ok (.ifCond .eq 7, 3) := by decide +kernel
theorem dX6_one_56 : decode cX6_one 56 = .ok (.iconst 0, 1) := by decide +kernel
theorem dX6_one_57 : decode cX6_one 57 = .ok (.goto 4, 3) := by decide +kernel
theorem dX6_one_60 : decode cX6_one 60 = .ok (.iconst 4, 1) := by decide +kernel
theorem dX6_one_61 : decode cX6_one 61 = .ok (.putfield 127, 3) := by decide +kernel
theorem dX6_one_64 : decode cX6_one 64 = .ok (.return_, 1) := by decide +kernel
theorem dX6_one_65 : decode cX6_one 65 = .ok (.aload_n 0, 1) := by decide +kernel
theorem dX6_one_66 : decode cX6_one 66 = .ok (.iload 4, 2) := by decide +kernel
theorem dX6_one_68 : decode cX6_one 68 = .ok (.iconst (-1), 1) := by decide +kernel
theorem dX6_one_69 : decode cX6_one 69 = .ok (.if_icmp .eq 7, 3) := by decide +kernel
theorem dX6_one_72 : decode cX6_one 72 = .ok (.iconst 1, 1) := by decide +kernel
theorem dX6_one_73 : decode cX6_one 73 = .ok (.goto 4, 3) := by decide +kernel
theorem dX6_one_76 : decode cX6_one 76 = .ok (.iconst 0, 1) := by decide +kernel
theorem dX6_one_77 : decode cX6_one 77 = .ok (.invokevirtual 133, 3) := by decide +kernel
theorem dX6_one_80 : decode cX6_one 80 = .ok (.ifCond .ne 4, 3) := by decide +kernel
theorem dX6_one_83 : decode cX6_one 83 = .ok (.return_, 1) := by decide +kernel
theorem dX6_one_84 : decode cX6_one 84 = .ok (.iload_n 1, 1) := by decide +kernel
theorem dX6_one_85 : decode cX6_one 85 = .ok (.bipush 8, 2) := by decide +kernel
theorem dX6_one_87 : decode cX6_one 87 = .ok (.if_icmp .ne 19, 3) := by decide +kernel
theorem dX6_one_90 : decode cX6_one 90 = .ok (.aload_n 0, 1) := by decide +kernel
theorem dX6_one_91 : decode cX6_one 91 = .ok (.getfield 74, 3) := by decide +kernel
theorem dX6_one_94 : decode cX6_one 94 = .ok (.iload_n 2, 1) := by decide +kernel
theorem dX6_one_95 : decode cX6_one 95 = .ok (.aload_n 0, 1) := by decide +kernel
theorem dX6_one_96 : decode cX6_one 96 = .ok (.getfield 37, 3) := by decide +kernel
theorem dX6_one_99 : decode cX6_one 99 = .ok (.iload 4, 2) := by decide +kernel
theorem dX6_one_101 : decode cX6_one 101 = .ok (.iaload, 1) := by decide +kernel
theorem dX6_one_102 : decode cX6_one 102 = .ok (.iastore, 1) := by decide +kernel
theorem dX6_one_103 : decode cX6_one 103 = .ok (.goto 53, 3) := by decide +kernel
theorem dX6_one_106 : decode cX6_one 106 = .ok (.iload_n 1, 1) := by decide +kernel
theorem dX6_one_107 : decode cX6_one 107 = .ok (.bipush 9, 2) := by decide +kernel
theorem dX6_one_109 : decode cX6_one 109 = .ok (.if_icmp .ne 19, 3) := by decide +kernel
theorem dX6_one_112 : decode cX6_one 112 = .ok (.aload_n 0, 1) := by decide +kernel
theorem dX6_one_113 : decode cX6_one 113 = .ok (.getfield 37, 3) := by decide +kernel
theorem dX6_one_116 : decode cX6_one 116 = .ok (.iload 4, 2) := by decide +kernel
theorem dX6_one_118 : decode cX6_one 118 = .ok (.aload_n 0, 1) := by decide +kernel
theorem dX6_one_119 : decode cX6_one 119 = .ok (.getfield 74, 3) := by decide +kernel
theorem dX6_one_122 : decode cX6_one 122 = .ok (.iload_n 3, 1) := by decide +kernel
theorem dX6_one_123 : decode cX6_one 123 = .ok (.iaload, 1) := by decide +kernel
theorem dX6_one_124 : decode cX6_one 124 = .ok (.iastore, 1) := by decide +kernel
theorem dX6_one_125 : decode cX6_one 125 = .ok (.goto 31, 3) := by decide +kernel
theorem dX6_one_128 : decode cX6_one 128 = .ok (.iload_n 1, 1) := by decide +kernel
theorem dX6_one_129 : decode cX6_one 129 = .ok (.bipush 10, 2) := by decide +kernel
theorem dX6_one_131 : decode cX6_one 131 = .ok (.if_icmp .ne 18, 3) := by decide +kernel
theorem dX6_one_134 : decode cX6_one 134 = .ok (.aload_n 0, 1) := by decide +kernel
theorem dX6_one_135 : decode cX6_one 135 = .ok (.getfield 74, 3) := by decide +kernel
theorem dX6_one_138 : decode cX6_one 138 = .ok (.iload_n 2, 1) := by decide +kernel
theorem dX6_one_139 : decode cX6_one 139 = .ok (.aload_n 0, 1) := by decide +kernel
theorem dX6_one_140 : decode cX6_one 140 = .ok (.iload 4, 2) := by decide +kernel
theorem dX6_one_142 : decode cX6_one 142 = .ok (.invokevirtual 144, 3) := by decide +kernel
theorem dX6_one_145 : decode cX6_one 145 = .ok (.iastore, 1) := by decide +kernel
theorem dX6_one_146 : decode cX6_one 146 = .ok (.goto 10, 3) := by decide +kernel
theorem dX6_one_149 : decode cX6_one 149 = .ok (.aload_n 0, 1) := by decide +kernel
theorem dX6_one_150 : decode cX6_one 150 = .ok (.iload_n 2, 1) := by decide +kernel
theorem dX6_one_151 : decode cX6_one 151 = .ok (.iload 4, 2) := by decide +kernel
theorem dX6_one_153 : decode cX6_one 153 = .ok (.invokevirtual 148, 3) := by decide +kernel
theorem dX6_one_156 : decode cX6_one 156 = .ok (.return_, 1) := by decide +kernel
theorem dX6_counts_0 : decode cX6_counts 0 = .ok (.iload_n 1, 1) := by decide +kernel
theorem dX6_counts_1 : decode cX6_counts 1 = .ok (.bipush 13, 2) := by decide +kernel
theorem dX6_counts_3 : decode cX6_counts 3 = .ok (.if_icmp .ne 58, 3) := by decide +kernel
theorem dX6_counts_6 : decode cX6_counts 6 = .ok (.aload_n 0, 1) := by decide +kernel
theorem dX6_counts_7 : decode cX6_counts 7 = .ok (.getfield 74, 3) := by decide +kernel
theorem dX6_counts_10 : decode cX6_counts 10 = .ok (.iload_n 3, 1) := by decide +kernel
theorem dX6_counts_11 : decode cX6_counts 11 = .ok (.iaload, 1) := by decide +kernel
theorem dX6_counts_12 : decode cX6_counts 12 = .ok (.istore 5, 2) := by decide +kernel
theorem dX6_counts_14 : decode cX6_counts 14 = .ok (.aload_n 0, 1) := by decide +kernel
theorem dX6_counts_15 : decode cX6_counts 15 = .ok (.iload 5, 2) := by decide +kernel
theorem dX6_counts_17 : decode cX6_counts 17 = .ok (.invokevirtual 130, 3) := by decide +kernel
theorem dX6_counts_20 : decode cX6_counts 20 = .ok (.ifCond .eq 40, 3) := by decide +kernel
theorem dX6_counts_23 : decode cX6_counts 23 = .ok (.aload_n 0, 1) := by decide +kernel
theorem dX6_counts_24 : decode cX6_counts 24 = .ok (.getfield 55, 3) := by decide +kernel
theorem dX6_counts_27 : decode cX6_counts 27 = .ok (.iload_n 2, 1) := by decide +kernel
theorem dX6_counts_28 : decode cX6_counts 28 = .ok (.iload 5, 2) := by decide +kernel
theorem dX6_counts_30 : decode cX6_counts 30 = .ok (.iastore, 1) := by decide +kernel
theorem dX6_counts_31 : decode cX6_counts 31 = .ok (.iconst 0, 1) := by decide +kernel
theorem dX6_counts_32 : decode cX6_counts 32 = .ok (.istore 6, 2) := by decide +kernel
theorem dX6_counts_34 : decode cX6_counts 34 = .ok (.iload 6, 2) := by decide +kernel
theorem dX6_counts_36 : decode cX6_counts 36 = .ok (.iload 5, 2) := by decide +kernel
theorem dX6_counts_38 : decode cX6_counts 38 = .ok (.if_icmp .ge 22, 3) := by decide +kernel
theorem dX6_counts_41 : decode cX6_counts 41 = .ok (.aload_n 0, 1) := by decide +kernel
theorem dX6_counts_42 : decode cX6_counts 42 = .ok (.getfield 58, 3) := by decide +kernel
theorem dX6_counts_45 : decode cX6_counts 45 = .ok (.bipush 8, 2) := by decide +kernel
theorem dX6_counts_47 : decode cX6_counts 47 = .ok (.iload_n 2, 1) := by decide +kernel
theorem dX6_counts_48 : decode cX6_counts 48 = .ok (.imul, 1) := by decide +kernel
theorem dX6_counts_49 : decode cX6_counts 49 = .ok (.iload 6, 2) := by decide +kernel
theorem dX6_counts_51 : decode cX6_counts 51 = .ok (.iadd, 1) := by decide +kernel
theorem dX6_counts_52 : decode cX6_counts 52 = .ok (.iconst 0, 1) := by decide +kernel
theorem dX6_counts_53 : decode cX6_counts 53 = .ok (.iastore, 1) := by decide +kernel
theorem dX6_counts_54 : decode cX6_counts 54 = .ok (.iinc 6 1, 3) := by decide +kernel
theorem dX6_counts_57 : decode cX6_counts 57 = .ok (.goto (-23), 3) := by decide +kernel
theorem dX6_counts_60 : decode cX6_counts 60 = .ok (.return_, 1) := by decide +kernel
theorem dX6_counts_61 : decode cX6_counts 61 = .ok (.iload_n 1, 1) := by decide +kernel
theorem dX6_counts_62 : decode cX6_counts 62 = .ok (.bipush 14, 2) := by decide +kernel
theorem dX6_counts_64 : decode cX6_counts 64 = .ok (.if_icmp .ne 7, 3) := by decide +kernel
theorem dX6_counts_67 : decode cX6_counts 67 = .ok (.iload_n 2, 1) := by decide +kernel
theorem dX6_counts_68 : decode cX6_counts 68 = .ok (.goto 4, 3) := by decide +kernel
theorem dX6_counts_71 : decode cX6_counts 71 = .ok (.iload_n 3, 1) := by decide +kernel
theorem dX6_counts_72 : decode cX6_counts 72 = .ok (.istore 5, 2) := by decide +kernel
theorem dX6_counts_74 : decode cX6_counts 74 = .ok (.iload_n 1, 1) := by decide +kernel
theorem dX6_counts_75 : decode cX6_counts 75 = .ok (.bipush 14, 2) := by decide +kernel
theorem dX6_counts_77 : decode cX6_counts 77 = .ok (.if_icmp .ne 12, 3) := by decide +kernel
theorem dX6_counts_80 : decode cX6_counts 80 = .ok (.aload_n 0, 1) := by decide +kernel
theorem dX6_counts_81 : decode cX6_counts 81 = .ok (.getfield 74, 3) := by decide +kernel
theorem dX6_counts_84 : decode cX6_counts 84 = .ok (.iload_n 3, 1) := by decide +kernel
theorem dX6_counts_85 : decode cX6_counts 85 = .ok (.iaload, 1) := by decide +kernel
theorem dX6_counts_86 : decode cX6_counts 86 = .ok (.goto 10, 3) := by decide +kernel
theorem dX6_counts_89 : decode cX6_counts 89 = .ok (.aload_n 0, 1) := by decide +kernel
theorem dX6_counts_90 : decode cX6_counts 90 = .ok (.getfield 74, 3) := by decide +kernel
theorem dX6_counts_93 : decode cX6_counts 93 = .ok (.iload 4, 2) := by decide +kernel
theorem dX6_counts_95 : decode cX6_counts 95 = .ok (.iaload, 1) := by decide +kernel
theorem dX6_counts_96 : decode cX6_counts 96 = .ok (.istore 6, 2) := by decide +kernel
theorem dX6_counts_98 : decode cX6_counts 98 = .ok (.aload_n 0, 1) := by decide +kernel
theorem dX6_counts_99 : decode cX6_counts 99 = .ok (.aload_n 0, 1) := by decide +kernel
theorem dX6_counts_100 : decode cX6_counts 100 = .ok (.getfield 55, 3) := by decide +kernel
theorem dX6_counts_103 : decode cX6_counts 103 = .ok (.iload 5, 2) := by decide +kernel
theorem dX6_counts_105 : decode cX6_counts 105 = .ok (.iaload, 1) := by decide +kernel
theorem dX6_counts_106 : decode cX6_counts 106 = .ok (.iconst (-1), 1) := by decide +kernel
theorem dX6_counts_107 : decode cX6_counts 107 = .ok (.if_icmp .eq 7, 3) := by decide +kernel
theorem dX6_counts_110 : decode cX6_counts 110 = .ok (.iconst 1, 1) := by decide +kernel
theorem dX6_counts_111 : decode cX6_counts 111 = .ok (.goto 4, 3) := by decide +kernel
theorem dX6_counts_114 : decode cX6_counts 114 = .ok (.iconst 0, 1) := by decide +kernel
theorem dX6_counts_115 : decode cX6_counts 115 = .ok (.invokevirtual 133, 3) := by decide +kernel
theorem dX6_counts_118 : decode cX6_counts 118 = .ok (.ifCond .eq 19, 3) := by decide +kernel
theorem dX6_counts_121 : decode cX6_counts 121 = .ok (.aload_n 0, 1) := by decide +kernel
theorem dX6_counts_122 : decode cX6_counts 122 = .ok (.iload 6, 2) := by decide +kernel
theorem dX6_counts_124 : decode cX6_counts 124 = .ok (.aload_n 0, 1) := by decide +kernel
theorem dX6_counts_125 : decode cX6_counts 125 = .ok (.getfield 55, 3) := by decide +kernel
theorem dX6_counts_128 : decode cX6_counts 128 = .ok (.iload 5, 2) := by decide +kernel
theorem dX6_counts_130 : decode cX6_counts 130 = .ok (.iaload, 1) := by decide +kernel
theorem dX6_counts_131 : decode cX6_counts 131 = .ok (.invokevirtual 137, 3) := by decide +kernel
theorem dX6_counts_134 : decode cX6_counts 134 = .ok (.ifCond .ne 4, 3) := by decide +kernel
theorem dX6_counts_137 : decode cX6_counts 137 = .ok (.return_, 1) := by decide +kernel
theorem dX6_counts_138 : decode cX6_counts 138 = .ok (.iload_n 1, 1) := by decide +kernel
theorem dX6_counts_139 : decode cX6_counts 139 = .ok (.bipush 14, 2) := by decide +kernel
theorem dX6_counts_141 : decode cX6_counts 141 = .ok (.if_icmp .ne 23, 3) := by decide +kernel
theorem dX6_counts_144 : decode cX6_counts 144 = .ok (.aload_n 0, 1) := by decide +kernel
theorem dX6_counts_145 : decode cX6_counts 145 = .ok (.getfield 58, 3) := by decide +kernel
theorem dX6_counts_148 : decode cX6_counts 148 = .ok (.bipush 8, 2) := by decide +kernel
theorem dX6_counts_150 : decode cX6_counts 150 = .ok (.iload 5, 2) := by decide +kernel
theorem dX6_counts_152 : decode cX6_counts 152 = .ok (.imul, 1) := by decide +kernel
theorem dX6_counts_153 : decode cX6_counts 153 = .ok (.iload 6, 2) := by decide +kernel
theorem dX6_counts_155 : decode cX6_counts 155 = .ok (.iadd, 1) := by decide +kernel
theorem dX6_counts_156 : decode cX6_counts 156 = .ok (.dup2, 1) := by decide +kernel
theorem dX6_counts_157 : decode cX6_counts 157 = .ok (.iaload, 1) := by decide +kernel
theorem dX6_counts_158 : decode cX6_counts 158 = .ok (.iconst 1, 1) := by decide +kernel
theorem dX6_counts_159 : decode cX6_counts 159 = .ok (.iadd, 1) := by decide +kernel
theorem dX6_counts_160 : decode cX6_counts 160 = .ok (.iastore, 1) := by decide +kernel
theorem dX6_counts_161 : decode cX6_counts 161 = .ok (.goto 22, 3) := by decide +kernel
theorem dX6_counts_164 : decode cX6_counts 164 = .ok (.aload_n 0, 1) := by decide +kernel
theorem dX6_counts_165 : decode cX6_counts 165 = .ok (.getfield 74, 3) := by decide +kernel
theorem dX6_counts_168 : decode cX6_counts 168 = .ok (.iload_n 2, 1) := by decide +kernel
theorem dX6_counts_169 : decode cX6_counts 169 = .ok (.aload_n 0, 1) := by decide +kernel
theorem dX6_counts_170 : decode cX6_counts 170 = .ok (.getfield 58, 3) := by decide +kernel
theorem dX6_counts_173 : decode cX6_counts 173 = .ok (.bipush 8, 2) := by decide +kernel
theorem dX6_counts_175 : decode cX6_counts 175 = .ok (.iload 5, 2) := by decide +kernel
theorem dX6_counts_177 : decode cX6_counts 177 = .ok (.imul, 1) := by decide +kernel
theorem dX6_counts_178 : decode cX6_counts 178 = .ok (.iload 6, 2) := by decide +kernel
theorem dX6_counts_180 : decode cX6_counts 180 = .ok (.iadd, 1) := by decide +kernel
theorem dX6_counts_181 : decode cX6_counts 181 = .ok (.iaload, 1) := by decide +kernel
theorem dX6_counts_182 : decode cX6_counts 182 = .ok (.iastore, 1) := by decide +kernel
theorem dX6_counts_183 : decode cX6_counts 183 = .ok (.return_, 1) := by decide +kernel
theorem dX6_rest_0 : decode cX6_rest 0 = .ok (.iload_n 1, 1) := by decide +kernel
theorem dX6_rest_1 : decode cX6_rest 1 = .ok (.tableswitch 422 0 23 #[111, 170, 180, 422, 422, 422, 195, 232, 422, 422, 422, 422, 422, 422, 422, 422, 242, 278, 322, 344, 354, 386, 396, 414], 111) := by decide +kernel
theorem dX6_rest_112 : decode cX6_rest 112 = .ok (.aload_n 0, 1) := by decide +kernel
theorem dX6_rest_113 : decode cX6_rest 113 = .ok (.getfield 34, 3) := by decide +kernel
theorem dX6_rest_116 : decode cX6_rest 116 = .ok (.aload_n 0, 1) := by decide +kernel
theorem dX6_rest_117 : decode cX6_rest 117 = .ok (.getfield 84, 3) := by decide +kernel
theorem dX6_rest_120 : decode cX6_rest 120 = .ok (.iload_n 3, 1) := by decide +kernel
theorem dX6_rest_121 : decode cX6_rest 121 = .ok (.iastore, 1) := by decide +kernel
theorem dX6_rest_122 : decode cX6_rest 122 = .ok (.aload_n 0, 1) := by decide +kernel
theorem dX6_rest_123 : decode cX6_rest 123 = .ok (.getfield 37, 3) := by decide +kernel
theorem dX6_rest_126 : decode cX6_rest 126 = .ok (.aload_n 0, 1) := by decide +kernel
theorem dX6_rest_127 : decode cX6_rest 127 = .ok (.getfield 84, 3) := by decide +kernel
theorem dX6_rest_130 : decode cX6_rest 130 = .ok (.aload_n 0, 1) := by decide +kernel
theorem dX6_rest_131 : decode cX6_rest 131 = .ok (.getfield 74, 3) := by decide +kernel
theorem dX6_rest_134 : decode cX6_rest 134 = .ok (.iload 4, 2) := by decide +kernel
theorem dX6_rest_136 : decode cX6_rest 136 = .ok (.iaload, 1) := by decide +kernel
theorem dX6_rest_137 : decode cX6_rest 137 = .ok (.iastore, 1) := by decide +kernel
theorem dX6_rest_138 : decode cX6_rest 138 = .ok (.aload_n 0, 1) := by decide +kernel
theorem dX6_rest_139 : decode cX6_rest 139 = .ok (.getfield 40, 3) := by decide +kernel
theorem dX6_rest_142 : decode cX6_rest 142 = .ok (.aload_n 0, 1) := by decide +kernel
theorem dX6_rest_143 : decode cX6_rest 143 = .ok (.getfield 84, 3) := by decide +kernel
theorem dX6_rest_146 : decode cX6_rest 146 = .ok (.iconst 0, 1) := by decide +kernel
theorem dX6_rest_147 : decode cX6_rest 147 = .ok (.iastore, 1) := by decide +kernel
theorem dX6_rest_148 : decode cX6_rest 148 = .ok (.aload_n 0, 1) := by decide +kernel
theorem dX6_rest_149 : decode cX6_rest 149 = .ok (.getfield 43, 3) := by decide +kernel
theorem dX6_rest_152 : decode cX6_rest 152 = .ok (.iload_n 2, 1) := by decide +kernel
theorem dX6_rest_153 : decode cX6_rest 153 = .ok (.aload_n 0, 1) := by decide +kernel
theorem dX6_rest_154 : decode cX6_rest 154 = .ok (.getfield 84, 3) := by decide +kernel
theorem dX6_rest_157 : decode cX6_rest 157 = .ok (.iastore, 1) := by decide +kernel
theorem dX6_rest_158 : decode cX6_rest 158 = .ok (.aload_n 0, 1) := by decide +kernel
theorem dX6_rest_159 : decode cX6_rest 159 = .ok (.dup, 1) := by decide +kernel
end
section
theorem dX6_rest_160 : decode cX6_rest 160 = .ok (.getfield 84, 3) := by decide +kernel
theorem dX6_rest_163 : decode cX6_rest 163 = .ok (.iconst 1, 1) := by decide +kernel
theorem dX6_rest_164 : decode cX6_rest 164 = .ok (.iadd, 1) := by decide +kernel
theorem dX6_rest_165 : decode cX6_rest 165 = .ok (.putfield 84, 3) := by decide +kernel
theorem dX6_rest_168 : decode cX6_rest 168 = .ok (.goto 277, 3) := by decide +kernel
theorem dX6_rest_171 : decode cX6_rest 171 = .ok (.aload_n 0, 1) := by decide +kernel
theorem dX6_rest_172 : decode cX6_rest 172 = .ok (.getfield 43, 3) := by decide +kernel
theorem dX6_rest_175 : decode cX6_rest 175 = .ok (.iload_n 2, 1) := by decide +kernel
theorem dX6_rest_176 : decode cX6_rest 176 = .ok (.iconst (-1), 1) := by decide +kernel
theorem dX6_rest_177 : decode cX6_rest 177 = .ok (.iastore, 1) := by decide +kernel
theorem dX6_rest_178 : decode cX6_rest 178 = .ok (.goto 267, 3) := by decide +kernel
theorem dX6_rest_181 : decode cX6_rest 181 = .ok (.aload_n 0, 1) := by decide +kernel
theorem dX6_rest_182 : decode cX6_rest 182 = .ok (.getfield 43, 3) := by decide +kernel
theorem dX6_rest_185 : decode cX6_rest 185 = .ok (.iload_n 2, 1) := by decide +kernel
theorem dX6_rest_186 : decode cX6_rest 186 = .ok (.aload_n 0, 1) := by decide +kernel
theorem dX6_rest_187 : decode cX6_rest 187 = .ok (.getfield 43, 3) := by decide +kernel
theorem dX6_rest_190 : decode cX6_rest 190 = .ok (.iload_n 3, 1) := by decide +kernel
theorem dX6_rest_191 : decode cX6_rest 191 = .ok (.iaload, 1) := by decide +kernel
theorem dX6_rest_192 : decode cX6_rest 192 = .ok (.iastore, 1) := by decide +kernel
theorem dX6_rest_193 : decode cX6_rest 193 = .ok (.goto 252, 3) := by decide +kernel
theorem dX6_rest_196 : decode cX6_rest 196 = .ok (.aload_n 0, 1) := by decide +kernel
theorem dX6_rest_197 : decode cX6_rest 197 = .ok (.aload_n 0, 1) := by decide +kernel
theorem dX6_rest_198 : decode cX6_rest 198 = .ok (.getfield 46, 3) := by decide +kernel
theorem dX6_rest_201 : decode cX6_rest 201 = .ok (.iload_n 3, 1) := by decide +kernel
theorem dX6_rest_202 : decode cX6_rest 202 = .ok (.iaload, 1) := by decide +kernel
theorem dX6_rest_203 : decode cX6_rest 203 = .ok (.iconst (-1), 1) := by decide +kernel
theorem dX6_rest_204 : decode cX6_rest 204 = .ok (.if_icmp .eq 7, 3) := by decide +kernel
theorem dX6_rest_207 : decode cX6_rest 207 = .ok (.iconst 1, 1) := by decide +kernel
theorem dX6_rest_208 : decode cX6_rest 208 = .ok (.goto 4, 3) := by decide +kernel
theorem dX6_rest_211 : decode cX6_rest 211 = .ok (.iconst 0, 1) := by decide +kernel
theorem dX6_rest_212 : decode cX6_rest 212 = .ok (.invokevirtual 133, 3) := by decide +kernel
theorem dX6_rest_215 : decode cX6_rest 215 = .ok (.ifCond .eq 230, 3) := by decide +kernel
theorem dX6_rest_218 : decode cX6_rest 218 = .ok (.aload_n 0, 1) := by decide +kernel
theorem dX6_rest_219 : decode cX6_rest 219 = .ok (.getfield 74, 3) := by decide +kernel
theorem dX6_rest_222 : decode cX6_rest 222 = .ok (.iload_n 2, 1) := by decide +kernel
theorem dX6_rest_223 : decode cX6_rest 223 = .ok (.aload_n 0, 1) := by decide +kernel
theorem dX6_rest_224 : decode cX6_rest 224 = .ok (.getfield 46, 3) := by decide +kernel
theorem dX6_rest_227 : decode cX6_rest 227 = .ok (.iload_n 3, 1) := by decide +kernel
theorem dX6_rest_228 : decode cX6_rest 228 = .ok (.iaload, 1) := by decide +kernel
theorem dX6_rest_229 : decode cX6_rest 229 = .ok (.iastore, 1) := by decide +kernel
theorem dX6_rest_230 : decode cX6_rest 230 = .ok (.goto 215, 3) := by decide +kernel
theorem dX6_rest_233 : decode cX6_rest 233 = .ok (.aload_n 0, 1) := by decide +kernel
theorem dX6_rest_234 : decode cX6_rest 234 = .ok (.getfield 46, 3) := by decide +kernel
theorem dX6_rest_237 : decode cX6_rest 237 = .ok (.iload_n 2, 1) := by decide +kernel
theorem dX6_rest_238 : decode cX6_rest 238 = .ok (.iconst (-1), 1) := by decide +kernel
theorem dX6_rest_239 : decode cX6_rest 239 = .ok (.iastore, 1) := by decide +kernel
theorem dX6_rest_240 : decode cX6_rest 240 = .ok (.goto 205, 3) := by decide +kernel
theorem dX6_rest_243 : decode cX6_rest 243 = .ok (.aload_n 0, 1) := by decide +kernel
theorem dX6_rest_244 : decode cX6_rest 244 = .ok (.aload_n 0, 1) := by decide +kernel
theorem dX6_rest_245 : decode cX6_rest 245 = .ok (.getfield 74, 3) := by decide +kernel
theorem dX6_rest_248 : decode cX6_rest 248 = .ok (.iload_n 3, 1) := by decide +kernel
theorem dX6_rest_249 : decode cX6_rest 249 = .ok (.iaload, 1) := by decide +kernel
theorem dX6_rest_250 : decode cX6_rest 250 = .ok (.invokevirtual 130, 3) := by decide +kernel
theorem dX6_rest_253 : decode cX6_rest 253 = .ok (.ifCond .eq 192, 3) := by decide +kernel
theorem dX6_rest_256 : decode cX6_rest 256 = .ok (.aload_n 0, 1) := by decide +kernel
theorem dX6_rest_257 : decode cX6_rest 257 = .ok (.getfield 61, 3) := by decide +kernel
theorem dX6_rest_260 : decode cX6_rest 260 = .ok (.iload_n 2, 1) := by decide +kernel
theorem dX6_rest_261 : decode cX6_rest 261 = .ok (.aload_n 0, 1) := by decide +kernel
theorem dX6_rest_262 : decode cX6_rest 262 = .ok (.getfield 74, 3) := by decide +kernel
theorem dX6_rest_265 : decode cX6_rest 265 = .ok (.iload_n 3, 1) := by decide +kernel
theorem dX6_rest_266 : decode cX6_rest 266 = .ok (.iaload, 1) := by decide +kernel
theorem dX6_rest_267 : decode cX6_rest 267 = .ok (.iastore, 1) := by decide +kernel
theorem dX6_rest_268 : decode cX6_rest 268 = .ok (.aload_n 0, 1) := by decide +kernel
theorem dX6_rest_269 : decode cX6_rest 269 = .ok (.getfield 64, 3) := by decide +kernel
theorem dX6_rest_272 : decode cX6_rest 272 = .ok (.iload_n 2, 1) := by decide +kernel
theorem dX6_rest_273 : decode cX6_rest 273 = .ok (.iload 4, 2) := by decide +kernel
theorem dX6_rest_275 : decode cX6_rest 275 = .ok (.iastore, 1) := by decide +kernel
theorem dX6_rest_276 : decode cX6_rest 276 = .ok (.goto 169, 3) := by decide +kernel
theorem dX6_rest_279 : decode cX6_rest 279 = .ok (.aload_n 0, 1) := by decide +kernel
theorem dX6_rest_280 : decode cX6_rest 280 = .ok (.aload_n 0, 1) := by decide +kernel
theorem dX6_rest_281 : decode cX6_rest 281 = .ok (.getfield 61, 3) := by decide +kernel
theorem dX6_rest_284 : decode cX6_rest 284 = .ok (.iload_n 3, 1) := by decide +kernel
theorem dX6_rest_285 : decode cX6_rest 285 = .ok (.iaload, 1) := by decide +kernel
theorem dX6_rest_286 : decode cX6_rest 286 = .ok (.iconst (-1), 1) := by decide +kernel
theorem dX6_rest_287 : decode cX6_rest 287 = .ok (.if_icmp .eq 7, 3) := by decide +kernel
theorem dX6_rest_290 : decode cX6_rest 290 = .ok (.iconst 1, 1) := by decide +kernel
theorem dX6_rest_291 : decode cX6_rest 291 = .ok (.goto 4, 3) := by decide +kernel
theorem dX6_rest_294 : decode cX6_rest 294 = .ok (.iconst 0, 1) := by decide +kernel
theorem dX6_rest_295 : decode cX6_rest 295 = .ok (.invokevirtual 133, 3) := by decide +kernel
theorem dX6_rest_298 : decode cX6_rest 298 = .ok (.ifCond .eq 147, 3) := by decide +kernel
theorem dX6_rest_301 : decode cX6_rest 301 = .ok (.aload_n 0, 1) := by decide +kernel
theorem dX6_rest_302 : decode cX6_rest 302 = .ok (.getfield 74, 3) := by decide +kernel
theorem dX6_rest_305 : decode cX6_rest 305 = .ok (.iload_n 2, 1) := by decide +kernel
theorem dX6_rest_306 : decode cX6_rest 306 = .ok (.aload_n 0, 1) := by decide +kernel
theorem dX6_rest_307 : decode cX6_rest 307 = .ok (.getfield 61, 3) := by decide +kernel
theorem dX6_rest_310 : decode cX6_rest 310 = .ok (.iload_n 3, 1) := by decide +kernel
theorem dX6_rest_311 : decode cX6_rest 311 = .ok (.iaload, 1) := by decide +kernel
theorem dX6_rest_312 : decode cX6_rest 312 = .ok (.aload_n 0, 1) := by decide +kernel
theorem dX6_rest_313 : decode cX6_rest 313 = .ok (.getfield 64, 3) := by decide +kernel
theorem dX6_rest_316 : decode cX6_rest 316 = .ok (.iload_n 3, 1) := by decide +kernel
theorem dX6_rest_317 : decode cX6_rest 317 = .ok (.iaload, 1) := by decide +kernel
theorem dX6_rest_318 : decode cX6_rest 318 = .ok (.imul, 1) := by decide +kernel
theorem dX6_rest_319 : decode cX6_rest 319 = .ok (.iastore, 1) := by decide +kernel
theorem dX6_rest_320 : decode cX6_rest 320 = .ok (.goto 125, 3) := by decide +kernel
theorem dX6_rest_323 : decode cX6_rest 323 = .ok (.aload_n 0, 1) := by decide +kernel
theorem dX6_rest_324 : decode cX6_rest 324 = .ok (.getfield 67, 3) := by decide +kernel
theorem dX6_rest_327 : decode cX6_rest 327 = .ok (.iload_n 2, 1) := by decide +kernel
theorem dX6_rest_328 : decode cX6_rest 328 = .ok (.iconst 1, 1) := by decide +kernel
theorem dX6_rest_329 : decode cX6_rest 329 = .ok (.bastore, 1) := by decide +kernel
theorem dX6_rest_330 : decode cX6_rest 330 = .ok (.aload_n 0, 1) := by decide +kernel
theorem dX6_rest_331 : decode cX6_rest 331 = .ok (.getfield 71, 3) := by decide +kernel
theorem dX6_rest_334 : decode cX6_rest 334 = .ok (.iload_n 2, 1) := by decide +kernel
theorem dX6_rest_335 : decode cX6_rest 335 = .ok (.aload_n 0, 1) := by decide +kernel
theorem dX6_rest_336 : decode cX6_rest 336 = .ok (.getfield 74, 3) := by decide +kernel
theorem dX6_rest_339 : decode cX6_rest 339 = .ok (.iload_n 3, 1) := by decide +kernel
theorem dX6_rest_340 : decode cX6_rest 340 = .ok (.iaload, 1) := by decide +kernel
theorem dX6_rest_341 : decode cX6_rest 341 = .ok (.iastore, 1) := by decide +kernel
theorem dX6_rest_342 : decode cX6_rest 342 = .ok (.goto 103, 3) := by decide +kernel
theorem dX6_rest_345 : decode cX6_rest 345 = .ok (.aload_n 0, 1) := by decide +kernel
theorem dX6_rest_346 : decode cX6_rest 346 = .ok (.getfield 67, 3) := by decide +kernel
theorem dX6_rest_349 : decode cX6_rest 349 = .ok (.iload_n 2, 1) := by decide +kernel
theorem dX6_rest_350 : decode cX6_rest 350 = .ok (.iconst 0, 1) := by decide +kernel
theorem dX6_rest_351 : decode cX6_rest 351 = .ok (.bastore, 1) := by decide +kernel
theorem dX6_rest_352 : decode cX6_rest 352 = .ok (.goto 93, 3) := by decide +kernel
theorem dX6_rest_355 : decode cX6_rest 355 = .ok (.aload_n 0, 1) := by decide +kernel
theorem dX6_rest_356 : decode cX6_rest 356 = .ok (.aload_n 0, 1) := by decide +kernel
theorem dX6_rest_357 : decode cX6_rest 357 = .ok (.getfield 67, 3) := by decide +kernel
theorem dX6_rest_360 : decode cX6_rest 360 = .ok (.iload_n 2, 1) := by decide +kernel
theorem dX6_rest_361 : decode cX6_rest 361 = .ok (.baload, 1) := by decide +kernel
theorem dX6_rest_362 : decode cX6_rest 362 = .ok (.invokevirtual 133, 3) := by decide +kernel
theorem dX6_rest_365 : decode cX6_rest 365 = .ok (.ifCond .eq 80, 3) := by decide +kernel
theorem dX6_rest_368 : decode cX6_rest 368 = .ok (.aload_n 0, 1) := by decide +kernel
theorem dX6_rest_369 : decode cX6_rest 369 = .ok (.bipush 7, 2) := by decide +kernel
theorem dX6_rest_371 : decode cX6_rest 371 = .ok (.putfield 127, 3) := by decide +kernel
theorem dX6_rest_374 : decode cX6_rest 374 = .ok (.aload_n 0, 1) := by decide +kernel
theorem dX6_rest_375 : decode cX6_rest 375 = .ok (.aload_n 0, 1) := by decide +kernel
theorem dX6_rest_376 : decode cX6_rest 376 = .ok (.getfield 71, 3) := by decide +kernel
theorem dX6_rest_379 : decode cX6_rest 379 = .ok (.iload_n 2, 1) := by decide +kernel
theorem dX6_rest_380 : decode cX6_rest 380 = .ok (.iaload, 1) := by decide +kernel
theorem dX6_rest_381 : decode cX6_rest 381 = .ok (.putfield 100, 3) := by decide +kernel
theorem dX6_rest_384 : decode cX6_rest 384 = .ok (.goto 61, 3) := by decide +kernel
theorem dX6_rest_387 : decode cX6_rest 387 = .ok (.aload_n 0, 1) := by decide +kernel
theorem dX6_rest_388 : decode cX6_rest 388 = .ok (.getfield 74, 3) := by decide +kernel
theorem dX6_rest_391 : decode cX6_rest 391 = .ok (.iload_n 2, 1) := by decide +kernel
theorem dX6_rest_392 : decode cX6_rest 392 = .ok (.iload_n 3, 1) := by decide +kernel
theorem dX6_rest_393 : decode cX6_rest 393 = .ok (.iastore, 1) := by decide +kernel
theorem dX6_rest_394 : decode cX6_rest 394 = .ok (.goto 51, 3) := by decide +kernel
theorem dX6_rest_397 : decode cX6_rest 397 = .ok (.aload_n 0, 1) := by decide +kernel
theorem dX6_rest_398 : decode cX6_rest 398 = .ok (.getfield 74, 3) := by decide +kernel
theorem dX6_rest_401 : decode cX6_rest 401 = .ok (.iload_n 2, 1) := by decide +kernel
theorem dX6_rest_402 : decode cX6_rest 402 = .ok (.dup2, 1) := by decide +kernel
theorem dX6_rest_403 : decode cX6_rest 403 = .ok (.iaload, 1) := by decide +kernel
theorem dX6_rest_404 : decode cX6_rest 404 = .ok (.aload_n 0, 1) := by decide +kernel
theorem dX6_rest_405 : decode cX6_rest 405 = .ok (.getfield 74, 3) := by decide +kernel
theorem dX6_rest_408 : decode cX6_rest 408 = .ok (.iload_n 3, 1) := by decide +kernel
theorem dX6_rest_409 : decode cX6_rest 409 = .ok (.iaload, 1) := by decide +kernel
theorem dX6_rest_410 : decode cX6_rest 410 = .ok (.iadd, 1) := by decide +kernel
theorem dX6_rest_411 : decode cX6_rest 411 = .ok (.iastore, 1) := by decide +kernel
theorem dX6_rest_412 : decode cX6_rest 412 = .ok (.goto 33, 3) := by decide +kernel
theorem dX6_rest_415 : decode cX6_rest 415 = .ok (.aload_n 0, 1) := by decide +kernel
theorem dX6_rest_416 : decode cX6_rest 416 = .ok (.iload_n 2, 1) := by decide +kernel
theorem dX6_rest_417 : decode cX6_rest 417 = .ok (.putfield 88, 3) := by decide +kernel
theorem dX6_rest_420 : decode cX6_rest 420 = .ok (.goto 25, 3) := by decide +kernel
theorem dX6_rest_423 : decode cX6_rest 423 = .ok (.aload_n 0, 1) := by decide +kernel
theorem dX6_rest_424 : decode cX6_rest 424 = .ok (.aload_n 0, 1) := by decide +kernel
theorem dX6_rest_425 : decode cX6_rest 425 = .ok (.getfield 74, 3) := by decide +kernel
theorem dX6_rest_428 : decode cX6_rest 428 = .ok (.iload_n 2, 1) := by decide +kernel
theorem dX6_rest_429 : decode cX6_rest 429 = .ok (.iaload, 1) := by decide +kernel
theorem dX6_rest_430 : decode cX6_rest 430 = .ok (.iconst 1, 1) := by decide +kernel
theorem dX6_rest_431 : decode cX6_rest 431 = .ok (.if_icmp .ge 7, 3) := by decide +kernel
theorem dX6_rest_434 : decode cX6_rest 434 = .ok (.iload_n 3, 1) := by decide +kernel
theorem dX6_rest_435 : decode cX6_rest 435 = .ok (.goto 7, 3) := by decide +kernel
theorem dX6_rest_438 : decode cX6_rest 438 = .ok (.aload_n 0, 1) := by decide +kernel
theorem dX6_rest_439 : decode cX6_rest 439 = .ok (.getfield 88, 3) := by decide +kernel
theorem dX6_rest_442 : decode cX6_rest 442 = .ok (.putfield 88, 3) := by decide +kernel
theorem dX6_rest_445 : decode cX6_rest 445 = .ok (.return_, 1) := by decide +kernel
theorem dX6_goOn_0 : decode cX6_goOn 0 = .ok (.aload_n 0, 1) := by decide +kernel
theorem dX6_goOn_1 : decode cX6_goOn 1 = .ok (.getfield 88, 3) := by decide +kernel
theorem dX6_goOn_4 : decode cX6_goOn 4 = .ok (.istore_n 1, 1) := by decide +kernel
theorem dX6_goOn_5 : decode cX6_goOn 5 = .ok (.aload_n 0, 1) := by decide +kernel
theorem dX6_goOn_6 : decode cX6_goOn 6 = .ok (.getfield 7, 3) := by decide +kernel
theorem dX6_goOn_9 : decode cX6_goOn 9 = .ok (.iload_n 1, 1) := by decide +kernel
theorem dX6_goOn_10 : decode cX6_goOn 10 = .ok (.iaload, 1) := by decide +kernel
theorem dX6_goOn_11 : decode cX6_goOn 11 = .ok (.istore_n 2, 1) := by decide +kernel
theorem dX6_goOn_12 : decode cX6_goOn 12 = .ok (.aload_n 0, 1) := by decide +kernel
theorem dX6_goOn_13 : decode cX6_goOn 13 = .ok (.getfield 13, 3) := by decide +kernel
theorem dX6_goOn_16 : decode cX6_goOn 16 = .ok (.iload_n 1, 1) := by decide +kernel
theorem dX6_goOn_17 : decode cX6_goOn 17 = .ok (.iaload, 1) := by decide +kernel
theorem dX6_goOn_18 : decode cX6_goOn 18 = .ok (.istore_n 3, 1) := by decide +kernel
theorem dX6_goOn_19 : decode cX6_goOn 19 = .ok (.aload_n 0, 1) := by decide +kernel
theorem dX6_goOn_20 : decode cX6_goOn 20 = .ok (.getfield 16, 3) := by decide +kernel
theorem dX6_goOn_23 : decode cX6_goOn 23 = .ok (.iload_n 1, 1) := by decide +kernel
theorem dX6_goOn_24 : decode cX6_goOn 24 = .ok (.iaload, 1) := by decide +kernel
theorem dX6_goOn_25 : decode cX6_goOn 25 = .ok (.istore 4, 2) := by decide +kernel
theorem dX6_goOn_27 : decode cX6_goOn 27 = .ok (.aload_n 0, 1) := by decide +kernel
theorem dX6_goOn_28 : decode cX6_goOn 28 = .ok (.getfield 19, 3) := by decide +kernel
theorem dX6_goOn_31 : decode cX6_goOn 31 = .ok (.iload_n 1, 1) := by decide +kernel
theorem dX6_goOn_32 : decode cX6_goOn 32 = .ok (.iaload, 1) := by decide +kernel
theorem dX6_goOn_33 : decode cX6_goOn 33 = .ok (.istore 5, 2) := by decide +kernel
theorem dX6_goOn_35 : decode cX6_goOn 35 = .ok (.aload_n 0, 1) := by decide +kernel
theorem dX6_goOn_36 : decode cX6_goOn 36 = .ok (.iload_n 1, 1) := by decide +kernel
theorem dX6_goOn_37 : decode cX6_goOn 37 = .ok (.iconst 1, 1) := by decide +kernel
theorem dX6_goOn_38 : decode cX6_goOn 38 = .ok (.iadd, 1) := by decide +kernel
theorem dX6_goOn_39 : decode cX6_goOn 39 = .ok (.putfield 88, 3) := by decide +kernel
theorem dX6_goOn_42 : decode cX6_goOn 42 = .ok (.aload_n 0, 1) := by decide +kernel
theorem dX6_goOn_43 : decode cX6_goOn 43 = .ok (.dup, 1) := by decide +kernel
theorem dX6_goOn_44 : decode cX6_goOn 44 = .ok (.getfield 91, 3) := by decide +kernel
theorem dX6_goOn_47 : decode cX6_goOn 47 = .ok (.iconst 1, 1) := by decide +kernel
theorem dX6_goOn_48 : decode cX6_goOn 48 = .ok (.iadd, 1) := by decide +kernel
theorem dX6_goOn_49 : decode cX6_goOn 49 = .ok (.putfield 91, 3) := by decide +kernel
theorem dX6_goOn_52 : decode cX6_goOn 52 = .ok (.aload_n 0, 1) := by decide +kernel
theorem dX6_goOn_53 : decode cX6_goOn 53 = .ok (.iconst 0, 1) := by decide +kernel
theorem dX6_goOn_54 : decode cX6_goOn 54 = .ok (.putfield 127, 3) := by decide +kernel
theorem dX6_goOn_57 : decode cX6_goOn 57 = .ok (.iload_n 2, 1) := by decide +kernel
theorem dX6_goOn_58 : decode cX6_goOn 58 = .ok (.iconst 3, 1) := by decide +kernel
theorem dX6_goOn_59 : decode cX6_goOn 59 = .ok (.iconst 5, 1) := by decide +kernel
theorem dX6_goOn_60 : decode cX6_goOn 60 = .ok (.invokestatic 106, 3) := by decide +kernel
theorem dX6_goOn_63 : decode cX6_goOn 63 = .ok (.ifCond .eq 16, 3) := by decide +kernel
theorem dX6_goOn_66 : decode cX6_goOn 66 = .ok (.aload_n 0, 1) := by decide +kernel
theorem dX6_goOn_67 : decode cX6_goOn 67 = .ok (.iload_n 2, 1) := by decide +kernel
theorem dX6_goOn_68 : decode cX6_goOn 68 = .ok (.iload_n 3, 1) := by decide +kernel
theorem dX6_goOn_69 : decode cX6_goOn 69 = .ok (.iload 4, 2) := by decide +kernel
theorem dX6_goOn_71 : decode cX6_goOn 71 = .ok (.iload 5, 2) := by decide +kernel
theorem dX6_goOn_73 : decode cX6_goOn 73 = .ok (.invokevirtual 152, 3) := by decide +kernel
theorem dX6_goOn_76 : decode cX6_goOn 76 = .ok (.goto 59, 3) := by decide +kernel
theorem dX6_goOn_79 : decode cX6_goOn 79 = .ok (.iload_n 2, 1) := by decide +kernel
theorem dX6_goOn_80 : decode cX6_goOn 80 = .ok (.bipush 8, 2) := by decide +kernel
theorem dX6_goOn_82 : decode cX6_goOn 82 = .ok (.bipush 12, 2) := by decide +kernel
theorem dX6_goOn_84 : decode cX6_goOn 84 = .ok (.invokestatic 106, 3) := by decide +kernel
theorem dX6_goOn_87 : decode cX6_goOn 87 = .ok (.ifCond .eq 14, 3) := by decide +kernel
theorem dX6_goOn_90 : decode cX6_goOn 90 = .ok (.aload_n 0, 1) := by decide +kernel
theorem dX6_goOn_91 : decode cX6_goOn 91 = .ok (.iload_n 2, 1) := by decide +kernel
theorem dX6_goOn_92 : decode cX6_goOn 92 = .ok (.iload_n 3, 1) := by decide +kernel
theorem dX6_goOn_93 : decode cX6_goOn 93 = .ok (.iload 4, 2) := by decide +kernel
theorem dX6_goOn_95 : decode cX6_goOn 95 = .ok (.invokevirtual 156, 3) := by decide +kernel
theorem dX6_goOn_98 : decode cX6_goOn 98 = .ok (.goto 37, 3) := by decide +kernel
theorem dX6_goOn_101 : decode cX6_goOn 101 = .ok (.iload_n 2, 1) := by decide +kernel
theorem dX6_goOn_102 : decode cX6_goOn 102 = .ok (.bipush 13, 2) := by decide +kernel
theorem dX6_goOn_104 : decode cX6_goOn 104 = .ok (.bipush 15, 2) := by decide +kernel
theorem dX6_goOn_106 : decode cX6_goOn 106 = .ok (.invokestatic 106, 3) := by decide +kernel
theorem dX6_goOn_109 : decode cX6_goOn 109 = .ok (.ifCond .eq 16, 3) := by decide +kernel
theorem dX6_goOn_112 : decode cX6_goOn 112 = .ok (.aload_n 0, 1) := by decide +kernel
theorem dX6_goOn_113 : decode cX6_goOn 113 = .ok (.iload_n 2, 1) := by decide +kernel
theorem dX6_goOn_114 : decode cX6_goOn 114 = .ok (.iload_n 3, 1) := by decide +kernel
theorem dX6_goOn_115 : decode cX6_goOn 115 = .ok (.iload 4, 2) := by decide +kernel
theorem dX6_goOn_117 : decode cX6_goOn 117 = .ok (.iload 5, 2) := by decide +kernel
theorem dX6_goOn_119 : decode cX6_goOn 119 = .ok (.invokevirtual 160, 3) := by decide +kernel
theorem dX6_goOn_122 : decode cX6_goOn 122 = .ok (.goto 13, 3) := by decide +kernel
theorem dX6_goOn_125 : decode cX6_goOn 125 = .ok (.aload_n 0, 1) := by decide +kernel
theorem dX6_goOn_126 : decode cX6_goOn 126 = .ok (.iload_n 2, 1) := by decide +kernel
theorem dX6_goOn_127 : decode cX6_goOn 127 = .ok (.iload_n 3, 1) := by decide +kernel
theorem dX6_goOn_128 : decode cX6_goOn 128 = .ok (.iload 4, 2) := by decide +kernel
theorem dX6_goOn_130 : decode cX6_goOn 130 = .ok (.iload 5, 2) := by decide +kernel
theorem dX6_goOn_132 : decode cX6_goOn 132 = .ok (.invokevirtual 163, 3) := by decide +kernel
theorem dX6_goOn_135 : decode cX6_goOn 135 = .ok (.aload_n 0, 1) := by decide +kernel
theorem dX6_goOn_136 : decode cX6_goOn 136 = .ok (.getfield 127, 3) := by decide +kernel
theorem dX6_goOn_139 : decode cX6_goOn 139 = .ok (.ifCond .eq 8, 3) := by decide +kernel
theorem dX6_goOn_142 : decode cX6_goOn 142 = .ok (.aload_n 0, 1) := by decide +kernel
theorem dX6_goOn_143 : decode cX6_goOn 143 = .ok (.iload_n 1, 1) := by decide +kernel
theorem dX6_goOn_144 : decode cX6_goOn 144 = .ok (.invokevirtual 166, 3) := by decide +kernel
theorem dX6_goOn_147 : decode cX6_goOn 147 = .ok (.return_, 1) := by decide +kernel
theorem dX6_fails_0 : decode cX6_fails 0 = .ok (.iconst 0, 1) := by decide +kernel
theorem dX6_fails_1 : decode cX6_fails 1 = .ok (.istore_n 2, 1) := by decide +kernel
theorem dX6_fails_2 : decode cX6_fails 2 = .ok (.iload_n 2, 1) := by decide +kernel
theorem dX6_fails_3 : decode cX6_fails 3 = .ok (.aload_n 0, 1) := by decide +kernel
theorem dX6_fails_4 : decode cX6_fails 4 = .ok (.getfield 124, 3) := by decide +kernel
theorem dX6_fails_7 : decode cX6_fails 7 = .ok (.if_icmp .ge 86, 3) := by decide +kernel
theorem dX6_fails_10 : decode cX6_fails 10 = .ok (.iload_n 1, 1) := by decide +kernel
theorem dX6_fails_11 : decode cX6_fails 11 = .ok (.aload_n 0, 1) := by decide +kernel
theorem dX6_fails_12 : decode cX6_fails 12 = .ok (.getfield 22, 3) := by decide +kernel
theorem dX6_fails_15 : decode cX6_fails 15 = .ok (.iload_n 2, 1) := by decide +kernel
theorem dX6_fails_16 : decode cX6_fails 16 = .ok (.iaload, 1) := by decide +kernel
theorem dX6_fails_17 : decode cX6_fails 17 = .ok (.aload_n 0, 1) := by decide +kernel
theorem dX6_fails_18 : decode cX6_fails 18 = .ok (.getfield 25, 3) := by decide +kernel
theorem dX6_fails_21 : decode cX6_fails 21 = .ok (.iload_n 2, 1) := by decide +kernel
theorem dX6_fails_22 : decode cX6_fails 22 = .ok (.iaload, 1) := by decide +kernel
theorem dX6_fails_23 : decode cX6_fails 23 = .ok (.iconst 1, 1) := by decide +kernel
theorem dX6_fails_24 : decode cX6_fails 24 = .ok (.isub, 1) := by decide +kernel
theorem dX6_fails_25 : decode cX6_fails 25 = .ok (.invokestatic 106, 3) := by decide +kernel
theorem dX6_fails_28 : decode cX6_fails 28 = .ok (.ifCond .eq 59, 3) := by decide +kernel
theorem dX6_fails_31 : decode cX6_fails 31 = .ok (.aload_n 0, 1) := by decide +kernel
theorem dX6_fails_32 : decode cX6_fails 32 = .ok (.getfield 28, 3) := by decide +kernel
theorem dX6_fails_35 : decode cX6_fails 35 = .ok (.iload_n 2, 1) := by decide +kernel
theorem dX6_fails_36 : decode cX6_fails 36 = .ok (.iaload, 1) := by decide +kernel
theorem dX6_fails_37 : decode cX6_fails 37 = .ok (.ifCond .eq 16, 3) := by decide +kernel
theorem dX6_fails_40 : decode cX6_fails 40 = .ok (.aload_n 0, 1) := by decide +kernel
theorem dX6_fails_41 : decode cX6_fails 41 = .ok (.getfield 28, 3) := by decide +kernel
theorem dX6_fails_44 : decode cX6_fails 44 = .ok (.iload_n 2, 1) := by decide +kernel
theorem dX6_fails_45 : decode cX6_fails 45 = .ok (.iaload, 1) := by decide +kernel
theorem dX6_fails_46 : decode cX6_fails 46 = .ok (.aload_n 0, 1) := by decide +kernel
theorem dX6_fails_47 : decode cX6_fails 47 = .ok (.getfield 127, 3) := by decide +kernel
theorem dX6_fails_50 : decode cX6_fails 50 = .ok (.if_icmp .ne 37, 3) := by decide +kernel
theorem dX6_fails_53 : decode cX6_fails 53 = .ok (.aload_n 0, 1) := by decide +kernel
theorem dX6_fails_54 : decode cX6_fails 54 = .ok (.dup, 1) := by decide +kernel
theorem dX6_fails_55 : decode cX6_fails 55 = .ok (.getfield 103, 3) := by decide +kernel
theorem dX6_fails_58 : decode cX6_fails 58 = .ok (.iconst 1, 1) := by decide +kernel
theorem dX6_fails_59 : decode cX6_fails 59 = .ok (.iadd, 1) := by decide +kernel
theorem dX6_fails_60 : decode cX6_fails 60 = .ok (.putfield 103, 3) := by decide +kernel
theorem dX6_fails_63 : decode cX6_fails 63 = .ok (.aload_n 0, 1) := by decide +kernel
theorem dX6_fails_64 : decode cX6_fails 64 = .ok (.getfield 77, 3) := by decide +kernel
theorem dX6_fails_67 : decode cX6_fails 67 = .ok (.aload_n 0, 1) := by decide +kernel
theorem dX6_fails_68 : decode cX6_fails 68 = .ok (.getfield 127, 3) := by decide +kernel
theorem dX6_fails_71 : decode cX6_fails 71 = .ok (.dup2, 1) := by decide +kernel
theorem dX6_fails_72 : decode cX6_fails 72 = .ok (.iaload, 1) := by decide +kernel
theorem dX6_fails_73 : decode cX6_fails 73 = .ok (.iconst 1, 1) := by decide +kernel
theorem dX6_fails_74 : decode cX6_fails 74 = .ok (.iadd, 1) := by decide +kernel
theorem dX6_fails_75 : decode cX6_fails 75 = .ok (.iastore, 1) := by decide +kernel
theorem dX6_fails_76 : decode cX6_fails 76 = .ok (.aload_n 0, 1) := by decide +kernel
theorem dX6_fails_77 : decode cX6_fails 77 = .ok (.aload_n 0, 1) := by decide +kernel
theorem dX6_fails_78 : decode cX6_fails 78 = .ok (.getfield 31, 3) := by decide +kernel
theorem dX6_fails_81 : decode cX6_fails 81 = .ok (.iload_n 2, 1) := by decide +kernel
theorem dX6_fails_82 : decode cX6_fails 82 = .ok (.iaload, 1) := by decide +kernel
theorem dX6_fails_83 : decode cX6_fails 83 = .ok (.putfield 88, 3) := by decide +kernel
theorem dX6_fails_86 : decode cX6_fails 86 = .ok (.return_, 1) := by decide +kernel
theorem dX6_fails_87 : decode cX6_fails 87 = .ok (.iinc 2 1, 3) := by decide +kernel
theorem dX6_fails_90 : decode cX6_fails 90 = .ok (.goto (-88), 3) := by decide +kernel
theorem dX6_fails_93 : decode cX6_fails 93 = .ok (.aload_n 0, 1) := by decide +kernel
theorem dX6_fails_94 : decode cX6_fails 94 = .ok (.aload_n 0, 1) := by decide +kernel
theorem dX6_fails_95 : decode cX6_fails 95 = .ok (.getfield 127, 3) := by decide +kernel
theorem dX6_fails_98 : decode cX6_fails 98 = .ok (.putfield 94, 3) := by decide +kernel
theorem dX6_fails_101 : decode cX6_fails 101 = .ok (.aload_n 0, 1) := by decide +kernel
theorem dX6_fails_102 : decode cX6_fails 102 = .ok (.iload_n 1, 1) := by decide +kernel
theorem dX6_fails_103 : decode cX6_fails 103 = .ok (.putfield 97, 3) := by decide +kernel
theorem dX6_fails_106 : decode cX6_fails 106 = .ok (.return_, 1) := by decide +kernel
theorem dX6_run_0 : decode cX6_run 0 = .ok (.iload_n 2, 1) := by decide +kernel
theorem dX6_run_1 : decode cX6_run 1 = .ok (.iconst 0, 1) := by decide +kernel
theorem dX6_run_2 : decode cX6_run 2 = .ok (.bipush 64, 2) := by decide +kernel
theorem dX6_run_4 : decode cX6_run 4 = .ok (.invokestatic 106, 3) := by decide +kernel
theorem dX6_run_7 : decode cX6_run 7 = .ok (.ifCond .ne 6, 3) := by decide +kernel
theorem dX6_run_10 : decode cX6_run 10 = .ok (.bipush (-101), 2) := by decide +kernel
theorem dX6_run_12 : decode cX6_run 12 = .ok (.ireturn, 1) := by decide +kernel
theorem dX6_run_13 : decode cX6_run 13 = .ok (.aload_n 0, 1) := by decide +kernel
theorem dX6_run_14 : decode cX6_run 14 = .ok (.iload_n 1, 1) := by decide +kernel
theorem dX6_run_15 : decode cX6_run 15 = .ok (.invokevirtual 80, 3) := by decide +kernel
theorem dX6_run_18 : decode cX6_run 18 = .ok (.aload_n 0, 1) := by decide +kernel
theorem dX6_run_19 : decode cX6_run 19 = .ok (.getfield 88, 3) := by decide +kernel
theorem dX6_run_22 : decode cX6_run 22 = .ok (.aload_n 0, 1) := by decide +kernel
theorem dX6_run_23 : decode cX6_run 23 = .ok (.getfield 121, 3) := by decide +kernel
theorem dX6_run_26 : decode cX6_run 26 = .ok (.if_icmp .ge 25, 3) := by decide +kernel
theorem dX6_run_29 : decode cX6_run 29 = .ok (.aload_n 0, 1) := by decide +kernel
theorem dX6_run_30 : decode cX6_run 30 = .ok (.getfield 91, 3) := by decide +kernel
theorem dX6_run_33 : decode cX6_run 33 = .ok (.iload_n 2, 1) := by decide +kernel
theorem dX6_run_34 : decode cX6_run 34 = .ok (.if_icmp .ge 17, 3) := by decide +kernel
theorem dX6_run_37 : decode cX6_run 37 = .ok (.aload_n 0, 1) := by decide +kernel
theorem dX6_run_38 : decode cX6_run 38 = .ok (.getfield 94, 3) := by decide +kernel
theorem dX6_run_41 : decode cX6_run 41 = .ok (.ifCond .ne 10, 3) := by decide +kernel
theorem dX6_run_44 : decode cX6_run 44 = .ok (.aload_n 0, 1) := by decide +kernel
theorem dX6_run_45 : decode cX6_run 45 = .ok (.invokevirtual 169, 3) := by decide +kernel
theorem dX6_run_48 : decode cX6_run 48 = .ok (.goto (-30), 3) := by decide +kernel
theorem dX6_run_51 : decode cX6_run 51 = .ok (.aload_n 0, 1) := by decide +kernel
theorem dX6_run_52 : decode cX6_run 52 = .ok (.getfield 94, 3) := by decide +kernel
theorem dX6_run_55 : decode cX6_run 55 = .ok (.ifCond .eq 7, 3) := by decide +kernel
theorem dX6_run_58 : decode cX6_run 58 = .ok (.iconst 1, 1) := by decide +kernel
theorem dX6_run_59 : decode cX6_run 59 = .ok (.goto 19, 3) := by decide +kernel
theorem dX6_run_62 : decode cX6_run 62 = .ok (.aload_n 0, 1) := by decide +kernel
theorem dX6_run_63 : decode cX6_run 63 = .ok (.getfield 88, 3) := by decide +kernel
theorem dX6_run_66 : decode cX6_run 66 = .ok (.aload_n 0, 1) := by decide +kernel
theorem dX6_run_67 : decode cX6_run 67 = .ok (.getfield 121, 3) := by decide +kernel
theorem dX6_run_70 : decode cX6_run 70 = .ok (.if_icmp .ge 7, 3) := by decide +kernel
theorem dX6_run_73 : decode cX6_run 73 = .ok (.iconst 2, 1) := by decide +kernel
theorem dX6_run_74 : decode cX6_run 74 = .ok (.goto 4, 3) := by decide +kernel
theorem dX6_run_77 : decode cX6_run 77 = .ok (.iconst 0, 1) := by decide +kernel
theorem dX6_run_78 : decode cX6_run 78 = .ok (.ireturn, 1) := by decide +kernel
theorem dX6_told_0 : decode cX6_told 0 = .ok (.iload_n 1, 1) := by decide +kernel
theorem dX6_told_1 : decode cX6_told 1 = .ok (.tableswitch 60 0 4 #[35, 40, 45, 50, 55], 35) := by decide +kernel
theorem dX6_told_36 : decode cX6_told 36 = .ok (.aload_n 0, 1) := by decide +kernel
theorem dX6_told_37 : decode cX6_told 37 = .ok (.getfield 94, 3) := by decide +kernel
theorem dX6_told_40 : decode cX6_told 40 = .ok (.ireturn, 1) := by decide +kernel
theorem dX6_told_41 : decode cX6_told 41 = .ok (.aload_n 0, 1) := by decide +kernel
theorem dX6_told_42 : decode cX6_told 42 = .ok (.getfield 97, 3) := by decide +kernel
theorem dX6_told_45 : decode cX6_told 45 = .ok (.ireturn, 1) := by decide +kernel
theorem dX6_told_46 : decode cX6_told 46 = .ok (.aload_n 0, 1) := by decide +kernel
theorem dX6_told_47 : decode cX6_told 47 = .ok (.getfield 100, 3) := by decide +kernel
theorem dX6_told_50 : decode cX6_told 50 = .ok (.ireturn, 1) := by decide +kernel
theorem dX6_told_51 : decode cX6_told 51 = .ok (.aload_n 0, 1) := by decide +kernel
theorem dX6_told_52 : decode cX6_told 52 = .ok (.getfield 91, 3) := by decide +kernel
theorem dX6_told_55 : decode cX6_told 55 = .ok (.ireturn, 1) := by decide +kernel
theorem dX6_told_56 : decode cX6_told 56 = .ok (.aload_n 0, 1) := by decide +kernel
theorem dX6_told_57 : decode cX6_told 57 = .ok (.getfield 103, 3) := by decide +kernel
theorem dX6_told_60 : decode cX6_told 60 = .ok (.ireturn, 1) := by decide +kernel
theorem dX6_told_61 : decode cX6_told 61 = .ok (.bipush (-101), 2) := by decide +kernel
theorem dX6_told_63 : decode cX6_told 63 = .ok (.ireturn, 1) := by decide +kernel
theorem dX6_caught_0 : decode cX6_caught 0 = .ok (.iload_n 1, 1) := by decide +kernel
theorem dX6_caught_1 : decode cX6_caught 1 = .ok (.iconst 1, 1) := by decide +kernel
theorem dX6_caught_2 : decode cX6_caught 2 = .ok (.bipush 7, 2) := by decide +kernel
theorem dX6_caught_4 : decode cX6_caught 4 = .ok (.invokestatic 106, 3) := by decide +kernel
theorem dX6_caught_7 : decode cX6_caught 7 = .ok (.ifCond .eq 12, 3) := by decide +kernel
theorem dX6_caught_10 : decode cX6_caught 10 = .ok (.aload_n 0, 1) := by decide +kernel
theorem dX6_caught_11 : decode cX6_caught 11 = .ok (.getfield 77, 3) := by decide +kernel
theorem dX6_caught_14 : decode cX6_caught 14 = .ok (.iload_n 1, 1) := by decide +kernel
theorem dX6_caught_15 : decode cX6_caught 15 = .ok (.iaload, 1) := by decide +kernel
theorem dX6_caught_16 : decode cX6_caught 16 = .ok (.goto 5, 3) := by decide +kernel
theorem dX6_caught_19 : decode cX6_caught 19 = .ok (.bipush (-101), 2) := by decide +kernel
theorem dX6_caught_21 : decode cX6_caught 21 = .ok (.ireturn, 1) := by decide +kernel
theorem dX6_register_0 : decode cX6_register 0 = .ok (.iload_n 1, 1) := by decide +kernel
theorem dX6_register_1 : decode cX6_register 1 = .ok (.invokestatic 114, 3) := by decide +kernel
theorem dX6_register_4 : decode cX6_register 4 = .ok (.ifCond .eq 12, 3) := by decide +kernel
theorem dX6_register_7 : decode cX6_register 7 = .ok (.aload_n 0, 1) := by decide +kernel
theorem dX6_register_8 : decode cX6_register 8 = .ok (.getfield 74, 3) := by decide +kernel
theorem dX6_register_11 : decode cX6_register 11 = .ok (.iload_n 1, 1) := by decide +kernel
theorem dX6_register_12 : decode cX6_register 12 = .ok (.iaload, 1) := by decide +kernel
theorem dX6_register_13 : decode cX6_register 13 = .ok (.goto 4, 3) := by decide +kernel
theorem dX6_register_16 : decode cX6_register 16 = .ok (.iconst 0, 1) := by decide +kernel
theorem dX6_register_17 : decode cX6_register 17 = .ok (.ireturn, 1) := by decide +kernel
theorem dX6_item_0 : decode cX6_item 0 = .ok (.iload_n 1, 1) := by decide +kernel
theorem dX6_item_1 : decode cX6_item 1 = .ok (.invokestatic 110, 3) := by decide +kernel
theorem dX6_item_4 : decode cX6_item 4 = .ok (.ifCond .eq 12, 3) := by decide +kernel
theorem dX6_item_7 : decode cX6_item 7 = .ok (.iload_n 2, 1) := by decide +kernel
theorem dX6_item_8 : decode cX6_item 8 = .ok (.iconst 0, 1) := by decide +kernel
theorem dX6_item_9 : decode cX6_item 9 = .ok (.iconst 3, 1) := by decide +kernel
theorem dX6_item_10 : decode cX6_item 10 = .ok (.invokestatic 106, 3) := by decide +kernel
theorem dX6_item_13 : decode cX6_item 13 = .ok (.ifCond .ne 6, 3) := by decide +kernel
theorem dX6_item_16 : decode cX6_item 16 = .ok (.bipush (-101), 2) := by decide +kernel
theorem dX6_item_18 : decode cX6_item 18 = .ok (.ireturn, 1) := by decide +kernel
theorem dX6_item_19 : decode cX6_item 19 = .ok (.aload_n 0, 1) := by decide +kernel
theorem dX6_item_20 : decode cX6_item 20 = .ok (.getfield 43, 3) := by decide +kernel
theorem dX6_item_23 : decode cX6_item 23 = .ok (.iload_n 1, 1) := by decide +kernel
theorem dX6_item_24 : decode cX6_item 24 = .ok (.iaload, 1) := by decide +kernel
theorem dX6_item_25 : decode cX6_item 25 = .ok (.istore_n 3, 1) := by decide +kernel
theorem dX6_item_26 : decode cX6_item 26 = .ok (.iload_n 3, 1) := by decide +kernel
theorem dX6_item_27 : decode cX6_item 27 = .ok (.iconst (-1), 1) := by decide +kernel
theorem dX6_item_28 : decode cX6_item 28 = .ok (.if_icmp .ne 5, 3) := by decide +kernel
theorem dX6_item_31 : decode cX6_item 31 = .ok (.iconst (-1), 1) := by decide +kernel
theorem dX6_item_32 : decode cX6_item 32 = .ok (.ireturn, 1) := by decide +kernel
theorem dX6_item_33 : decode cX6_item 33 = .ok (.iconst 0, 1) := by decide +kernel
theorem dX6_item_34 : decode cX6_item 34 = .ok (.istore 4, 2) := by decide +kernel
theorem dX6_item_36 : decode cX6_item 36 = .ok (.aload_n 0, 1) := by decide +kernel
theorem dX6_item_37 : decode cX6_item 37 = .ok (.getfield 43, 3) := by decide +kernel
theorem dX6_item_40 : decode cX6_item 40 = .ok (.iload 4, 2) := by decide +kernel
theorem dX6_item_42 : decode cX6_item 42 = .ok (.iaload, 1) := by decide +kernel
theorem dX6_item_43 : decode cX6_item 43 = .ok (.iload_n 3, 1) := by decide +kernel
theorem dX6_item_44 : decode cX6_item 44 = .ok (.if_icmp .eq 9, 3) := by decide +kernel
theorem dX6_item_47 : decode cX6_item 47 = .ok (.iinc 4 1, 3) := by decide +kernel
theorem dX6_item_50 : decode cX6_item 50 = .ok (.goto (-14), 3) := by decide +kernel
theorem dX6_item_53 : decode cX6_item 53 = .ok (.iload_n 2, 1) := by decide +kernel
theorem dX6_item_54 : decode cX6_item 54 = .ok (.ifCond .ne 12, 3) := by decide +kernel
theorem dX6_item_57 : decode cX6_item 57 = .ok (.aload_n 0, 1) := by decide +kernel
theorem dX6_item_58 : decode cX6_item 58 = .ok (.getfield 34, 3) := by decide +kernel
theorem dX6_item_61 : decode cX6_item 61 = .ok (.iload_n 3, 1) := by decide +kernel
theorem dX6_item_62 : decode cX6_item 62 = .ok (.iaload, 1) := by decide +kernel
theorem dX6_item_63 : decode cX6_item 63 = .ok (.goto 33, 3) := by decide +kernel
theorem dX6_item_66 : decode cX6_item 66 = .ok (.iload_n 2, 1) := by decide +kernel
theorem dX6_item_67 : decode cX6_item 67 = .ok (.iconst 1, 1) := by decide +kernel
theorem dX6_item_68 : decode cX6_item 68 = .ok (.if_icmp .ne 12, 3) := by decide +kernel
theorem dX6_item_71 : decode cX6_item 71 = .ok (.aload_n 0, 1) := by decide +kernel
theorem dX6_item_72 : decode cX6_item 72 = .ok (.getfield 37, 3) := by decide +kernel
theorem dX6_item_75 : decode cX6_item 75 = .ok (.iload_n 3, 1) := by decide +kernel
theorem dX6_item_76 : decode cX6_item 76 = .ok (.iaload, 1) := by decide +kernel
theorem dX6_item_77 : decode cX6_item 77 = .ok (.goto 19, 3) := by decide +kernel
theorem dX6_item_80 : decode cX6_item 80 = .ok (.iload_n 2, 1) := by decide +kernel
theorem dX6_item_81 : decode cX6_item 81 = .ok (.iconst 2, 1) := by decide +kernel
theorem dX6_item_82 : decode cX6_item 82 = .ok (.if_icmp .ne 12, 3) := by decide +kernel
theorem dX6_item_85 : decode cX6_item 85 = .ok (.aload_n 0, 1) := by decide +kernel
theorem dX6_item_86 : decode cX6_item 86 = .ok (.getfield 40, 3) := by decide +kernel
theorem dX6_item_89 : decode cX6_item 89 = .ok (.iload_n 3, 1) := by decide +kernel
theorem dX6_item_90 : decode cX6_item 90 = .ok (.iaload, 1) := by decide +kernel
theorem dX6_item_91 : decode cX6_item 91 = .ok (.goto 5, 3) := by decide +kernel
theorem dX6_item_94 : decode cX6_item 94 = .ok (.iload 4, 2) := by decide +kernel
theorem dX6_item_96 : decode cX6_item 96 = .ok (.ireturn, 1) := by decide +kernel
theorem dX6_row_0 : decode cX6_row 0 = .ok (.iload_n 2, 1) := by decide +kernel
theorem dX6_row_1 : decode cX6_row 1 = .ok (.ifCond .eq 8, 3) := by decide +kernel
theorem dX6_row_4 : decode cX6_row 4 = .ok (.iload_n 2, 1) := by decide +kernel
theorem dX6_row_5 : decode cX6_row 5 = .ok (.iconst 3, 1) := by decide +kernel
theorem dX6_row_6 : decode cX6_row 6 = .ok (.if_icmp .ne 51, 3) := by decide +kernel
theorem dX6_row_9 : decode cX6_row 9 = .ok (.iload_n 1, 1) := by decide +kernel
theorem dX6_row_10 : decode cX6_row 10 = .ok (.iconst 0, 1) := by decide +kernel
theorem dX6_row_11 : decode cX6_row 11 = .ok (.iconst 3, 1) := by decide +kernel
theorem dX6_row_12 : decode cX6_row 12 = .ok (.invokestatic 106, 3) := by decide +kernel
theorem dX6_row_15 : decode cX6_row 15 = .ok (.ifCond .ne 8, 3) := by decide +kernel
theorem dX6_row_18 : decode cX6_row 18 = .ok (.bipush (-101), 2) := by decide +kernel
theorem dX6_row_20 : decode cX6_row 20 = .ok (.goto 36, 3) := by decide +kernel
theorem dX6_row_23 : decode cX6_row 23 = .ok (.iload_n 2, 1) := by decide +kernel
theorem dX6_row_24 : decode cX6_row 24 = .ok (.ifCond .ne 12, 3) := by decide +kernel
theorem dX6_row_27 : decode cX6_row 27 = .ok (.aload_n 0, 1) := by decide +kernel
theorem dX6_row_28 : decode cX6_row 28 = .ok (.getfield 46, 3) := by decide +kernel
theorem dX6_row_31 : decode cX6_row 31 = .ok (.iload_n 1, 1) := by decide +kernel
theorem dX6_row_32 : decode cX6_row 32 = .ok (.iaload, 1) := by decide +kernel
theorem dX6_row_33 : decode cX6_row 33 = .ok (.goto 23, 3) := by decide +kernel
theorem dX6_row_36 : decode cX6_row 36 = .ok (.aload_n 0, 1) := by decide +kernel
theorem dX6_row_37 : decode cX6_row 37 = .ok (.getfield 46, 3) := by decide +kernel
theorem dX6_row_40 : decode cX6_row 40 = .ok (.iload_n 1, 1) := by decide +kernel
theorem dX6_row_41 : decode cX6_row 41 = .ok (.iaload, 1) := by decide +kernel
theorem dX6_row_42 : decode cX6_row 42 = .ok (.iconst (-1), 1) := by decide +kernel
theorem dX6_row_43 : decode cX6_row 43 = .ok (.if_icmp .ne 7, 3) := by decide +kernel
theorem dX6_row_46 : decode cX6_row 46 = .ok (.iconst (-1), 1) := by decide +kernel
theorem dX6_row_47 : decode cX6_row 47 = .ok (.goto 9, 3) := by decide +kernel
theorem dX6_row_50 : decode cX6_row 50 = .ok (.aload_n 0, 1) := by decide +kernel
theorem dX6_row_51 : decode cX6_row 51 = .ok (.getfield 49, 3) := by decide +kernel
theorem dX6_row_54 : decode cX6_row 54 = .ok (.iload_n 1, 1) := by decide +kernel
theorem dX6_row_55 : decode cX6_row 55 = .ok (.iaload, 1) := by decide +kernel
theorem dX6_row_56 : decode cX6_row 56 = .ok (.ireturn, 1) := by decide +kernel
theorem dX6_row_57 : decode cX6_row 57 = .ok (.iload_n 2, 1) := by decide +kernel
theorem dX6_row_58 : decode cX6_row 58 = .ok (.iconst 1, 1) := by decide +kernel
theorem dX6_row_59 : decode cX6_row 59 = .ok (.if_icmp .ne 24, 3) := by decide +kernel
theorem dX6_row_62 : decode cX6_row 62 = .ok (.iload_n 1, 1) := by decide +kernel
theorem dX6_row_63 : decode cX6_row 63 = .ok (.iconst 0, 1) := by decide +kernel
theorem dX6_row_64 : decode cX6_row 64 = .ok (.iconst 2, 1) := by decide +kernel
theorem dX6_row_65 : decode cX6_row 65 = .ok (.invokestatic 106, 3) := by decide +kernel
theorem dX6_row_68 : decode cX6_row 68 = .ok (.ifCond .eq 12, 3) := by decide +kernel
theorem dX6_row_71 : decode cX6_row 71 = .ok (.aload_n 0, 1) := by decide +kernel
theorem dX6_row_72 : decode cX6_row 72 = .ok (.getfield 55, 3) := by decide +kernel
theorem dX6_row_75 : decode cX6_row 75 = .ok (.iload_n 1, 1) := by decide +kernel
theorem dX6_row_76 : decode cX6_row 76 = .ok (.iaload, 1) := by decide +kernel
theorem dX6_row_77 : decode cX6_row 77 = .ok (.goto 5, 3) := by decide +kernel
theorem dX6_row_80 : decode cX6_row 80 = .ok (.bipush (-101), 2) := by decide +kernel
theorem dX6_row_82 : decode cX6_row 82 = .ok (.ireturn, 1) := by decide +kernel
theorem dX6_row_83 : decode cX6_row 83 = .ok (.iload_n 2, 1) := by decide +kernel
theorem dX6_row_84 : decode cX6_row 84 = .ok (.iconst 2, 1) := by decide +kernel
theorem dX6_row_85 : decode cX6_row 85 = .ok (.if_icmp .ne 21, 3) := by decide +kernel
theorem dX6_row_88 : decode cX6_row 88 = .ok (.iload_n 1, 1) := by decide +kernel
theorem dX6_row_89 : decode cX6_row 89 = .ok (.iconst 0, 1) := by decide +kernel
theorem dX6_row_90 : decode cX6_row 90 = .ok (.iconst 1, 1) := by decide +kernel
theorem dX6_row_91 : decode cX6_row 91 = .ok (.invokestatic 106, 3) := by decide +kernel
theorem dX6_row_94 : decode cX6_row 94 = .ok (.ifCond .eq 12, 3) := by decide +kernel
theorem dX6_row_97 : decode cX6_row 97 = .ok (.aload_n 0, 1) := by decide +kernel
theorem dX6_row_98 : decode cX6_row 98 = .ok (.getfield 61, 3) := by decide +kernel
theorem dX6_row_101 : decode cX6_row 101 = .ok (.iload_n 1, 1) := by decide +kernel
theorem dX6_row_102 : decode cX6_row 102 = .ok (.iaload, 1) := by decide +kernel
theorem dX6_row_103 : decode cX6_row 103 = .ok (.goto 5, 3) := by decide +kernel
theorem dX6_row_106 : decode cX6_row 106 = .ok (.bipush (-101), 2) := by decide +kernel
theorem dX6_row_108 : decode cX6_row 108 = .ok (.ireturn, 1) := by decide +kernel
theorem dX6_onBelt_0 : decode cX6_onBelt 0 = .ok (.iload_n 1, 1) := by decide +kernel
theorem dX6_onBelt_1 : decode cX6_onBelt 1 = .ok (.iconst 0, 1) := by decide +kernel
theorem dX6_onBelt_2 : decode cX6_onBelt 2 = .ok (.iconst 3, 1) := by decide +kernel
theorem dX6_onBelt_3 : decode cX6_onBelt 3 = .ok (.invokestatic 106, 3) := by decide +kernel
theorem dX6_onBelt_6 : decode cX6_onBelt 6 = .ok (.ifCond .ne 6, 3) := by decide +kernel
theorem dX6_onBelt_9 : decode cX6_onBelt 9 = .ok (.bipush (-101), 2) := by decide +kernel
theorem dX6_onBelt_11 : decode cX6_onBelt 11 = .ok (.ireturn, 1) := by decide +kernel
theorem dX6_onBelt_12 : decode cX6_onBelt 12 = .ok (.iload_n 2, 1) := by decide +kernel
theorem dX6_onBelt_13 : decode cX6_onBelt 13 = .ok (.iconst 0, 1) := by decide +kernel
theorem dX6_onBelt_14 : decode cX6_onBelt 14 = .ok (.aload_n 0, 1) := by decide +kernel
theorem dX6_onBelt_15 : decode cX6_onBelt 15 = .ok (.getfield 46, 3) := by decide +kernel
theorem dX6_onBelt_18 : decode cX6_onBelt 18 = .ok (.iload_n 1, 1) := by decide +kernel
theorem dX6_onBelt_19 : decode cX6_onBelt 19 = .ok (.iaload, 1) := by decide +kernel
theorem dX6_onBelt_20 : decode cX6_onBelt 20 = .ok (.iconst 1, 1) := by decide +kernel
theorem dX6_onBelt_21 : decode cX6_onBelt 21 = .ok (.isub, 1) := by decide +kernel
theorem dX6_onBelt_22 : decode cX6_onBelt 22 = .ok (.invokestatic 106, 3) := by decide +kernel
theorem dX6_onBelt_25 : decode cX6_onBelt 25 = .ok (.ifCond .eq 22, 3) := by decide +kernel
theorem dX6_onBelt_28 : decode cX6_onBelt 28 = .ok (.aload_n 0, 1) := by decide +kernel
theorem dX6_onBelt_29 : decode cX6_onBelt 29 = .ok (.getfield 52, 3) := by decide +kernel
theorem dX6_onBelt_32 : decode cX6_onBelt 32 = .ok (.bipush 8, 2) := by decide +kernel
theorem dX6_onBelt_34 : decode cX6_onBelt 34 = .ok (.iload_n 1, 1) := by decide +kernel
theorem dX6_onBelt_35 : decode cX6_onBelt 35 = .ok (.imul, 1) := by decide +kernel
theorem dX6_onBelt_36 : decode cX6_onBelt 36 = .ok (.iload_n 2, 1) := by decide +kernel
theorem dX6_onBelt_37 : decode cX6_onBelt 37 = .ok (.iadd, 1) := by decide +kernel
theorem dX6_onBelt_38 : decode cX6_onBelt 38 = .ok (.iaload, 1) := by decide +kernel
theorem dX6_onBelt_39 : decode cX6_onBelt 39 = .ok (.iconst (-1), 1) := by decide +kernel
theorem dX6_onBelt_40 : decode cX6_onBelt 40 = .ok (.if_icmp .eq 7, 3) := by decide +kernel
theorem dX6_onBelt_43 : decode cX6_onBelt 43 = .ok (.iconst 1, 1) := by decide +kernel
theorem dX6_onBelt_44 : decode cX6_onBelt 44 = .ok (.goto 4, 3) := by decide +kernel
theorem dX6_onBelt_47 : decode cX6_onBelt 47 = .ok (.iconst 0, 1) := by decide +kernel
theorem dX6_onBelt_48 : decode cX6_onBelt 48 = .ok (.istore_n 3, 1) := by decide +kernel
theorem dX6_onBelt_49 : decode cX6_onBelt 49 = .ok (.iload_n 3, 1) := by decide +kernel
theorem dX6_onBelt_50 : decode cX6_onBelt 50 = .ok (.ifCond .eq 22, 3) := by decide +kernel
theorem dX6_onBelt_53 : decode cX6_onBelt 53 = .ok (.aload_n 0, 1) := by decide +kernel
theorem dX6_onBelt_54 : decode cX6_onBelt 54 = .ok (.getfield 34, 3) := by decide +kernel
theorem dX6_onBelt_57 : decode cX6_onBelt 57 = .ok (.aload_n 0, 1) := by decide +kernel
theorem dX6_onBelt_58 : decode cX6_onBelt 58 = .ok (.getfield 52, 3) := by decide +kernel
theorem dX6_onBelt_61 : decode cX6_onBelt 61 = .ok (.bipush 8, 2) := by decide +kernel
theorem dX6_onBelt_63 : decode cX6_onBelt 63 = .ok (.iload_n 1, 1) := by decide +kernel
theorem dX6_onBelt_64 : decode cX6_onBelt 64 = .ok (.imul, 1) := by decide +kernel
theorem dX6_onBelt_65 : decode cX6_onBelt 65 = .ok (.iload_n 2, 1) := by decide +kernel
theorem dX6_onBelt_66 : decode cX6_onBelt 66 = .ok (.iadd, 1) := by decide +kernel
theorem dX6_onBelt_67 : decode cX6_onBelt 67 = .ok (.iaload, 1) := by decide +kernel
theorem dX6_onBelt_68 : decode cX6_onBelt 68 = .ok (.iaload, 1) := by decide +kernel
theorem dX6_onBelt_69 : decode cX6_onBelt 69 = .ok (.goto 4, 3) := by decide +kernel
theorem dX6_onBelt_72 : decode cX6_onBelt 72 = .ok (.iconst (-1), 1) := by decide +kernel
theorem dX6_onBelt_73 : decode cX6_onBelt 73 = .ok (.ireturn, 1) := by decide +kernel
theorem dX6_counted_0 : decode cX6_counted 0 = .ok (.iload_n 1, 1) := by decide +kernel
theorem dX6_counted_1 : decode cX6_counted 1 = .ok (.iconst 0, 1) := by decide +kernel
theorem dX6_counted_2 : decode cX6_counted 2 = .ok (.iconst 2, 1) := by decide +kernel
theorem dX6_counted_3 : decode cX6_counted 3 = .ok (.invokestatic 106, 3) := by decide +kernel
theorem dX6_counted_6 : decode cX6_counted 6 = .ok (.ifCond .ne 6, 3) := by decide +kernel
theorem dX6_counted_9 : decode cX6_counted 9 = .ok (.bipush (-101), 2) := by decide +kernel
theorem dX6_counted_11 : decode cX6_counted 11 = .ok (.ireturn, 1) := by decide +kernel
theorem dX6_counted_12 : decode cX6_counted 12 = .ok (.iload_n 2, 1) := by decide +kernel
theorem dX6_counted_13 : decode cX6_counted 13 = .ok (.iconst 0, 1) := by decide +kernel
theorem dX6_counted_14 : decode cX6_counted 14 = .ok (.aload_n 0, 1) := by decide +kernel
theorem dX6_counted_15 : decode cX6_counted 15 = .ok (.getfield 55, 3) := by decide +kernel
theorem dX6_counted_18 : decode cX6_counted 18 = .ok (.iload_n 1, 1) := by decide +kernel
theorem dX6_counted_19 : decode cX6_counted 19 = .ok (.iaload, 1) := by decide +kernel
theorem dX6_counted_20 : decode cX6_counted 20 = .ok (.iconst 1, 1) := by decide +kernel
theorem dX6_counted_21 : decode cX6_counted 21 = .ok (.isub, 1) := by decide +kernel
theorem dX6_counted_22 : decode cX6_counted 22 = .ok (.invokestatic 106, 3) := by decide +kernel
theorem dX6_counted_25 : decode cX6_counted 25 = .ok (.ifCond .eq 17, 3) := by decide +kernel
theorem dX6_counted_28 : decode cX6_counted 28 = .ok (.aload_n 0, 1) := by decide +kernel
theorem dX6_counted_29 : decode cX6_counted 29 = .ok (.getfield 58, 3) := by decide +kernel
theorem dX6_counted_32 : decode cX6_counted 32 = .ok (.bipush 8, 2) := by decide +kernel
theorem dX6_counted_34 : decode cX6_counted 34 = .ok (.iload_n 1, 1) := by decide +kernel
theorem dX6_counted_35 : decode cX6_counted 35 = .ok (.imul, 1) := by decide +kernel
theorem dX6_counted_36 : decode cX6_counted 36 = .ok (.iload_n 2, 1) := by decide +kernel
theorem dX6_counted_37 : decode cX6_counted 37 = .ok (.iadd, 1) := by decide +kernel
theorem dX6_counted_38 : decode cX6_counted 38 = .ok (.iaload, 1) := by decide +kernel
theorem dX6_counted_39 : decode cX6_counted 39 = .ok (.goto 4, 3) := by decide +kernel
theorem dX6_counted_42 : decode cX6_counted 42 = .ok (.iconst 0, 1) := by decide +kernel
theorem dX6_counted_43 : decode cX6_counted 43 = .ok (.ireturn, 1) := by decide +kernel
theorem dL_law_0 : decode cL_law 0 = .ok (.new 7, 3) := by decide +kernel
theorem dL_law_3 : decode cL_law 3 = .ok (.dup, 1) := by decide +kernel
theorem dL_law_4 : decode cL_law 4 = .ok (.invokespecial 9, 3) := by decide +kernel
theorem dL_law_7 : decode cL_law 7 = .ok (.astore_n 1, 1) := by decide +kernel
theorem dL_law_8 : decode cL_law 8 = .ok (.new 10, 3) := by decide +kernel
theorem dL_law_11 : decode cL_law 11 = .ok (.dup, 1) := by decide +kernel
theorem dL_law_12 : decode cL_law 12 = .ok (.invokespecial 12, 3) := by decide +kernel
theorem dL_law_15 : decode cL_law 15 = .ok (.astore_n 2, 1) := by decide +kernel
theorem dL_law_16 : decode cL_law 16 = .ok (.iconst 0, 1) := by decide +kernel
theorem dL_law_17 : decode cL_law 17 = .ok (.istore_n 3, 1) := by decide +kernel
theorem dL_law_18 : decode cL_law 18 = .ok (.iload_n 3, 1) := by decide +kernel
theorem dL_law_19 : decode cL_law 19 = .ok (.aload_n 0, 1) := by decide +kernel
theorem dL_law_20 : decode cL_law 20 = .ok (.arraylength, 1) := by decide +kernel
theorem dL_law_21 : decode cL_law 21 = .ok (.iconst 5, 1) := by decide +kernel
theorem dL_law_22 : decode cL_law 22 = .ok (.isub, 1) := by decide +kernel
theorem dL_law_23 : decode cL_law 23 = .ok (.if_icmp .gt 428, 3) := by decide +kernel
theorem dL_law_26 : decode cL_law 26 = .ok (.aload_n 0, 1) := by decide +kernel
theorem dL_law_27 : decode cL_law 27 = .ok (.iload_n 3, 1) := by decide +kernel
theorem dL_law_28 : decode cL_law 28 = .ok (.iaload, 1) := by decide +kernel
theorem dL_law_29 : decode cL_law 29 = .ok (.bipush 15, 2) := by decide +kernel
theorem dL_law_31 : decode cL_law 31 = .ok (.iand, 1) := by decide +kernel
theorem dL_law_32 : decode cL_law 32 = .ok (.tableswitch 413 0 10 #[60, 113, 166, 179, 212, 235, 258, 281, 314, 347, 380], 60) := by decide +kernel
theorem dL_law_92 : decode cL_law 92 = .ok (.aload_n 1, 1) := by decide +kernel
theorem dL_law_93 : decode cL_law 93 = .ok (.aload_n 0, 1) := by decide +kernel
theorem dL_law_94 : decode cL_law 94 = .ok (.iload_n 3, 1) := by decide +kernel
theorem dL_law_95 : decode cL_law 95 = .ok (.iconst 1, 1) := by decide +kernel
theorem dL_law_96 : decode cL_law 96 = .ok (.iadd, 1) := by decide +kernel
theorem dL_law_97 : decode cL_law 97 = .ok (.iaload, 1) := by decide +kernel
theorem dL_law_98 : decode cL_law 98 = .ok (.aload_n 0, 1) := by decide +kernel
theorem dL_law_99 : decode cL_law 99 = .ok (.iload_n 3, 1) := by decide +kernel
theorem dL_law_100 : decode cL_law 100 = .ok (.iconst 2, 1) := by decide +kernel
theorem dL_law_101 : decode cL_law 101 = .ok (.iadd, 1) := by decide +kernel
theorem dL_law_102 : decode cL_law 102 = .ok (.iaload, 1) := by decide +kernel
theorem dL_law_103 : decode cL_law 103 = .ok (.aload_n 0, 1) := by decide +kernel
theorem dL_law_104 : decode cL_law 104 = .ok (.iload_n 3, 1) := by decide +kernel
theorem dL_law_105 : decode cL_law 105 = .ok (.iconst 3, 1) := by decide +kernel
theorem dL_law_106 : decode cL_law 106 = .ok (.iadd, 1) := by decide +kernel
theorem dL_law_107 : decode cL_law 107 = .ok (.iaload, 1) := by decide +kernel
theorem dL_law_108 : decode cL_law 108 = .ok (.aload_n 0, 1) := by decide +kernel
theorem dL_law_109 : decode cL_law 109 = .ok (.iload_n 3, 1) := by decide +kernel
theorem dL_law_110 : decode cL_law 110 = .ok (.iconst 4, 1) := by decide +kernel
theorem dL_law_111 : decode cL_law 111 = .ok (.iadd, 1) := by decide +kernel
theorem dL_law_112 : decode cL_law 112 = .ok (.iaload, 1) := by decide +kernel
theorem dL_law_113 : decode cL_law 113 = .ok (.invokevirtual 13, 3) := by decide +kernel
theorem dL_law_116 : decode cL_law 116 = .ok (.aload_n 2, 1) := by decide +kernel
theorem dL_law_117 : decode cL_law 117 = .ok (.aload_n 0, 1) := by decide +kernel
theorem dL_law_118 : decode cL_law 118 = .ok (.iload_n 3, 1) := by decide +kernel
theorem dL_law_119 : decode cL_law 119 = .ok (.iconst 1, 1) := by decide +kernel
theorem dL_law_120 : decode cL_law 120 = .ok (.iadd, 1) := by decide +kernel
theorem dL_law_121 : decode cL_law 121 = .ok (.iaload, 1) := by decide +kernel
theorem dL_law_122 : decode cL_law 122 = .ok (.aload_n 0, 1) := by decide +kernel
theorem dL_law_123 : decode cL_law 123 = .ok (.iload_n 3, 1) := by decide +kernel
theorem dL_law_124 : decode cL_law 124 = .ok (.iconst 2, 1) := by decide +kernel
theorem dL_law_125 : decode cL_law 125 = .ok (.iadd, 1) := by decide +kernel
theorem dL_law_126 : decode cL_law 126 = .ok (.iaload, 1) := by decide +kernel
theorem dL_law_127 : decode cL_law 127 = .ok (.aload_n 0, 1) := by decide +kernel
theorem dL_law_128 : decode cL_law 128 = .ok (.iload_n 3, 1) := by decide +kernel
theorem dL_law_129 : decode cL_law 129 = .ok (.iconst 3, 1) := by decide +kernel
theorem dL_law_130 : decode cL_law 130 = .ok (.iadd, 1) := by decide +kernel
theorem dL_law_131 : decode cL_law 131 = .ok (.iaload, 1) := by decide +kernel
theorem dL_law_132 : decode cL_law 132 = .ok (.aload_n 0, 1) := by decide +kernel
theorem dL_law_133 : decode cL_law 133 = .ok (.iload_n 3, 1) := by decide +kernel
theorem dL_law_134 : decode cL_law 134 = .ok (.iconst 4, 1) := by decide +kernel
theorem dL_law_135 : decode cL_law 135 = .ok (.iadd, 1) := by decide +kernel
theorem dL_law_136 : decode cL_law 136 = .ok (.iaload, 1) := by decide +kernel
theorem dL_law_137 : decode cL_law 137 = .ok (.invokevirtual 17, 3) := by decide +kernel
theorem dL_law_140 : decode cL_law 140 = .ok (.if_icmp .eq 305, 3) := by decide +kernel
theorem dL_law_143 : decode cL_law 143 = .ok (.iconst 0, 1) := by decide +kernel
theorem dL_law_144 : decode cL_law 144 = .ok (.ireturn, 1) := by decide +kernel
theorem dL_law_145 : decode cL_law 145 = .ok (.aload_n 1, 1) := by decide +kernel
theorem dL_law_146 : decode cL_law 146 = .ok (.aload_n 0, 1) := by decide +kernel
theorem dL_law_147 : decode cL_law 147 = .ok (.iload_n 3, 1) := by decide +kernel
theorem dL_law_148 : decode cL_law 148 = .ok (.iconst 1, 1) := by decide +kernel
theorem dL_law_149 : decode cL_law 149 = .ok (.iadd, 1) := by decide +kernel
theorem dL_law_150 : decode cL_law 150 = .ok (.iaload, 1) := by decide +kernel
theorem dL_law_151 : decode cL_law 151 = .ok (.aload_n 0, 1) := by decide +kernel
theorem dL_law_152 : decode cL_law 152 = .ok (.iload_n 3, 1) := by decide +kernel
theorem dL_law_153 : decode cL_law 153 = .ok (.iconst 2, 1) := by decide +kernel
theorem dL_law_154 : decode cL_law 154 = .ok (.iadd, 1) := by decide +kernel
theorem dL_law_155 : decode cL_law 155 = .ok (.iaload, 1) := by decide +kernel
theorem dL_law_156 : decode cL_law 156 = .ok (.aload_n 0, 1) := by decide +kernel
theorem dL_law_157 : decode cL_law 157 = .ok (.iload_n 3, 1) := by decide +kernel
theorem dL_law_158 : decode cL_law 158 = .ok (.iconst 3, 1) := by decide +kernel
theorem dL_law_159 : decode cL_law 159 = .ok (.iadd, 1) := by decide +kernel
theorem dL_law_160 : decode cL_law 160 = .ok (.iaload, 1) := by decide +kernel
theorem dL_law_161 : decode cL_law 161 = .ok (.aload_n 0, 1) := by decide +kernel
theorem dL_law_162 : decode cL_law 162 = .ok (.iload_n 3, 1) := by decide +kernel
theorem dL_law_163 : decode cL_law 163 = .ok (.iconst 4, 1) := by decide +kernel
theorem dL_law_164 : decode cL_law 164 = .ok (.iadd, 1) := by decide +kernel
theorem dL_law_165 : decode cL_law 165 = .ok (.iaload, 1) := by decide +kernel
theorem dL_law_166 : decode cL_law 166 = .ok (.invokevirtual 18, 3) := by decide +kernel
theorem dL_law_169 : decode cL_law 169 = .ok (.aload_n 2, 1) := by decide +kernel
theorem dL_law_170 : decode cL_law 170 = .ok (.aload_n 0, 1) := by decide +kernel
theorem dL_law_171 : decode cL_law 171 = .ok (.iload_n 3, 1) := by decide +kernel
theorem dL_law_172 : decode cL_law 172 = .ok (.iconst 1, 1) := by decide +kernel
theorem dL_law_173 : decode cL_law 173 = .ok (.iadd, 1) := by decide +kernel
theorem dL_law_174 : decode cL_law 174 = .ok (.iaload, 1) := by decide +kernel
theorem dL_law_175 : decode cL_law 175 = .ok (.aload_n 0, 1) := by decide +kernel
theorem dL_law_176 : decode cL_law 176 = .ok (.iload_n 3, 1) := by decide +kernel
theorem dL_law_177 : decode cL_law 177 = .ok (.iconst 2, 1) := by decide +kernel
theorem dL_law_178 : decode cL_law 178 = .ok (.iadd, 1) := by decide +kernel
theorem dL_law_179 : decode cL_law 179 = .ok (.iaload, 1) := by decide +kernel
theorem dL_law_180 : decode cL_law 180 = .ok (.aload_n 0, 1) := by decide +kernel
theorem dL_law_181 : decode cL_law 181 = .ok (.iload_n 3, 1) := by decide +kernel
theorem dL_law_182 : decode cL_law 182 = .ok (.iconst 3, 1) := by decide +kernel
theorem dL_law_183 : decode cL_law 183 = .ok (.iadd, 1) := by decide +kernel
theorem dL_law_184 : decode cL_law 184 = .ok (.iaload, 1) := by decide +kernel
theorem dL_law_185 : decode cL_law 185 = .ok (.aload_n 0, 1) := by decide +kernel
theorem dL_law_186 : decode cL_law 186 = .ok (.iload_n 3, 1) := by decide +kernel
theorem dL_law_187 : decode cL_law 187 = .ok (.iconst 4, 1) := by decide +kernel
theorem dL_law_188 : decode cL_law 188 = .ok (.iadd, 1) := by decide +kernel
theorem dL_law_189 : decode cL_law 189 = .ok (.iaload, 1) := by decide +kernel
theorem dL_law_190 : decode cL_law 190 = .ok (.invokevirtual 21, 3) := by decide +kernel
theorem dL_law_193 : decode cL_law 193 = .ok (.if_icmp .eq 252, 3) := by decide +kernel
theorem dL_law_196 : decode cL_law 196 = .ok (.iconst 0, 1) := by decide +kernel
theorem dL_law_197 : decode cL_law 197 = .ok (.ireturn, 1) := by decide +kernel
theorem dL_law_198 : decode cL_law 198 = .ok (.aload_n 1, 1) := by decide +kernel
theorem dL_law_199 : decode cL_law 199 = .ok (.invokevirtual 22, 3) := by decide +kernel
theorem dL_law_202 : decode cL_law 202 = .ok (.aload_n 2, 1) := by decide +kernel
theorem dL_law_203 : decode cL_law 203 = .ok (.invokevirtual 26, 3) := by decide +kernel
theorem dL_law_206 : decode cL_law 206 = .ok (.if_icmp .eq 239, 3) := by decide +kernel
theorem dL_law_209 : decode cL_law 209 = .ok (.iconst 0, 1) := by decide +kernel
theorem dL_law_210 : decode cL_law 210 = .ok (.ireturn, 1) := by decide +kernel
theorem dL_law_211 : decode cL_law 211 = .ok (.aload_n 1, 1) := by decide +kernel
theorem dL_law_212 : decode cL_law 212 = .ok (.aload_n 0, 1) := by decide +kernel
theorem dL_law_213 : decode cL_law 213 = .ok (.iload_n 3, 1) := by decide +kernel
theorem dL_law_214 : decode cL_law 214 = .ok (.iconst 1, 1) := by decide +kernel
theorem dL_law_215 : decode cL_law 215 = .ok (.iadd, 1) := by decide +kernel
theorem dL_law_216 : decode cL_law 216 = .ok (.iaload, 1) := by decide +kernel
theorem dL_law_217 : decode cL_law 217 = .ok (.aload_n 0, 1) := by decide +kernel
theorem dL_law_218 : decode cL_law 218 = .ok (.iload_n 3, 1) := by decide +kernel
theorem dL_law_219 : decode cL_law 219 = .ok (.iconst 2, 1) := by decide +kernel
theorem dL_law_220 : decode cL_law 220 = .ok (.iadd, 1) := by decide +kernel
theorem dL_law_221 : decode cL_law 221 = .ok (.iaload, 1) := by decide +kernel
theorem dL_law_222 : decode cL_law 222 = .ok (.invokevirtual 27, 3) := by decide +kernel
theorem dL_law_225 : decode cL_law 225 = .ok (.aload_n 2, 1) := by decide +kernel
theorem dL_law_226 : decode cL_law 226 = .ok (.aload_n 0, 1) := by decide +kernel
theorem dL_law_227 : decode cL_law 227 = .ok (.iload_n 3, 1) := by decide +kernel
theorem dL_law_228 : decode cL_law 228 = .ok (.iconst 1, 1) := by decide +kernel
theorem dL_law_229 : decode cL_law 229 = .ok (.iadd, 1) := by decide +kernel
theorem dL_law_230 : decode cL_law 230 = .ok (.iaload, 1) := by decide +kernel
theorem dL_law_231 : decode cL_law 231 = .ok (.aload_n 0, 1) := by decide +kernel
theorem dL_law_232 : decode cL_law 232 = .ok (.iload_n 3, 1) := by decide +kernel
theorem dL_law_233 : decode cL_law 233 = .ok (.iconst 2, 1) := by decide +kernel
theorem dL_law_234 : decode cL_law 234 = .ok (.iadd, 1) := by decide +kernel
theorem dL_law_235 : decode cL_law 235 = .ok (.iaload, 1) := by decide +kernel
theorem dL_law_236 : decode cL_law 236 = .ok (.invokevirtual 31, 3) := by decide +kernel
theorem dL_law_239 : decode cL_law 239 = .ok (.if_icmp .eq 206, 3) := by decide +kernel
theorem dL_law_242 : decode cL_law 242 = .ok (.iconst 0, 1) := by decide +kernel
theorem dL_law_243 : decode cL_law 243 = .ok (.ireturn, 1) := by decide +kernel
theorem dL_law_244 : decode cL_law 244 = .ok (.aload_n 1, 1) := by decide +kernel
theorem dL_law_245 : decode cL_law 245 = .ok (.aload_n 0, 1) := by decide +kernel
theorem dL_law_246 : decode cL_law 246 = .ok (.iload_n 3, 1) := by decide +kernel
theorem dL_law_247 : decode cL_law 247 = .ok (.iconst 1, 1) := by decide +kernel
theorem dL_law_248 : decode cL_law 248 = .ok (.iadd, 1) := by decide +kernel
theorem dL_law_249 : decode cL_law 249 = .ok (.iaload, 1) := by decide +kernel
theorem dL_law_250 : decode cL_law 250 = .ok (.invokevirtual 32, 3) := by decide +kernel
theorem dL_law_253 : decode cL_law 253 = .ok (.aload_n 2, 1) := by decide +kernel
theorem dL_law_254 : decode cL_law 254 = .ok (.aload_n 0, 1) := by decide +kernel
theorem dL_law_255 : decode cL_law 255 = .ok (.iload_n 3, 1) := by decide +kernel
theorem dL_law_256 : decode cL_law 256 = .ok (.iconst 1, 1) := by decide +kernel
theorem dL_law_257 : decode cL_law 257 = .ok (.iadd, 1) := by decide +kernel
theorem dL_law_258 : decode cL_law 258 = .ok (.iaload, 1) := by decide +kernel
theorem dL_law_259 : decode cL_law 259 = .ok (.invokevirtual 36, 3) := by decide +kernel
theorem dL_law_262 : decode cL_law 262 = .ok (.if_icmp .eq 183, 3) := by decide +kernel
theorem dL_law_265 : decode cL_law 265 = .ok (.iconst 0, 1) := by decide +kernel
theorem dL_law_266 : decode cL_law 266 = .ok (.ireturn, 1) := by decide +kernel
theorem dL_law_267 : decode cL_law 267 = .ok (.aload_n 1, 1) := by decide +kernel
theorem dL_law_268 : decode cL_law 268 = .ok (.aload_n 0, 1) := by decide +kernel
theorem dL_law_269 : decode cL_law 269 = .ok (.iload_n 3, 1) := by decide +kernel
theorem dL_law_270 : decode cL_law 270 = .ok (.iconst 1, 1) := by decide +kernel
theorem dL_law_271 : decode cL_law 271 = .ok (.iadd, 1) := by decide +kernel
theorem dL_law_272 : decode cL_law 272 = .ok (.iaload, 1) := by decide +kernel
theorem dL_law_273 : decode cL_law 273 = .ok (.invokevirtual 37, 3) := by decide +kernel
theorem dL_law_276 : decode cL_law 276 = .ok (.aload_n 2, 1) := by decide +kernel
theorem dL_law_277 : decode cL_law 277 = .ok (.aload_n 0, 1) := by decide +kernel
theorem dL_law_278 : decode cL_law 278 = .ok (.iload_n 3, 1) := by decide +kernel
theorem dL_law_279 : decode cL_law 279 = .ok (.iconst 1, 1) := by decide +kernel
theorem dL_law_280 : decode cL_law 280 = .ok (.iadd, 1) := by decide +kernel
theorem dL_law_281 : decode cL_law 281 = .ok (.iaload, 1) := by decide +kernel
theorem dL_law_282 : decode cL_law 282 = .ok (.invokevirtual 40, 3) := by decide +kernel
theorem dL_law_285 : decode cL_law 285 = .ok (.if_icmp .eq 160, 3) := by decide +kernel
theorem dL_law_288 : decode cL_law 288 = .ok (.iconst 0, 1) := by decide +kernel
theorem dL_law_289 : decode cL_law 289 = .ok (.ireturn, 1) := by decide +kernel
theorem dL_law_290 : decode cL_law 290 = .ok (.aload_n 1, 1) := by decide +kernel
theorem dL_law_291 : decode cL_law 291 = .ok (.aload_n 0, 1) := by decide +kernel
theorem dL_law_292 : decode cL_law 292 = .ok (.iload_n 3, 1) := by decide +kernel
theorem dL_law_293 : decode cL_law 293 = .ok (.iconst 1, 1) := by decide +kernel
theorem dL_law_294 : decode cL_law 294 = .ok (.iadd, 1) := by decide +kernel
theorem dL_law_295 : decode cL_law 295 = .ok (.iaload, 1) := by decide +kernel
theorem dL_law_296 : decode cL_law 296 = .ok (.invokevirtual 41, 3) := by decide +kernel
theorem dL_law_299 : decode cL_law 299 = .ok (.aload_n 2, 1) := by decide +kernel
theorem dL_law_300 : decode cL_law 300 = .ok (.aload_n 0, 1) := by decide +kernel
theorem dL_law_301 : decode cL_law 301 = .ok (.iload_n 3, 1) := by decide +kernel
theorem dL_law_302 : decode cL_law 302 = .ok (.iconst 1, 1) := by decide +kernel
theorem dL_law_303 : decode cL_law 303 = .ok (.iadd, 1) := by decide +kernel
theorem dL_law_304 : decode cL_law 304 = .ok (.iaload, 1) := by decide +kernel
theorem dL_law_305 : decode cL_law 305 = .ok (.invokevirtual 44, 3) := by decide +kernel
theorem dL_law_308 : decode cL_law 308 = .ok (.if_icmp .eq 137, 3) := by decide +kernel
theorem dL_law_311 : decode cL_law 311 = .ok (.iconst 0, 1) := by decide +kernel
theorem dL_law_312 : decode cL_law 312 = .ok (.ireturn, 1) := by decide +kernel
theorem dL_law_313 : decode cL_law 313 = .ok (.aload_n 1, 1) := by decide +kernel
theorem dL_law_314 : decode cL_law 314 = .ok (.aload_n 0, 1) := by decide +kernel
theorem dL_law_315 : decode cL_law 315 = .ok (.iload_n 3, 1) := by decide +kernel
theorem dL_law_316 : decode cL_law 316 = .ok (.iconst 1, 1) := by decide +kernel
theorem dL_law_317 : decode cL_law 317 = .ok (.iadd, 1) := by decide +kernel
theorem dL_law_318 : decode cL_law 318 = .ok (.iaload, 1) := by decide +kernel
theorem dL_law_319 : decode cL_law 319 = .ok (.aload_n 0, 1) := by decide +kernel
theorem dL_law_320 : decode cL_law 320 = .ok (.iload_n 3, 1) := by decide +kernel
theorem dL_law_321 : decode cL_law 321 = .ok (.iconst 2, 1) := by decide +kernel
theorem dL_law_322 : decode cL_law 322 = .ok (.iadd, 1) := by decide +kernel
theorem dL_law_323 : decode cL_law 323 = .ok (.iaload, 1) := by decide +kernel
theorem dL_law_324 : decode cL_law 324 = .ok (.invokevirtual 45, 3) := by decide +kernel
theorem dL_law_327 : decode cL_law 327 = .ok (.aload_n 2, 1) := by decide +kernel
theorem dL_law_328 : decode cL_law 328 = .ok (.aload_n 0, 1) := by decide +kernel
theorem dL_law_329 : decode cL_law 329 = .ok (.iload_n 3, 1) := by decide +kernel
theorem dL_law_330 : decode cL_law 330 = .ok (.iconst 1, 1) := by decide +kernel
theorem dL_law_331 : decode cL_law 331 = .ok (.iadd, 1) := by decide +kernel
theorem dL_law_332 : decode cL_law 332 = .ok (.iaload, 1) := by decide +kernel
theorem dL_law_333 : decode cL_law 333 = .ok (.aload_n 0, 1) := by decide +kernel
theorem dL_law_334 : decode cL_law 334 = .ok (.iload_n 3, 1) := by decide +kernel
theorem dL_law_335 : decode cL_law 335 = .ok (.iconst 2, 1) := by decide +kernel
theorem dL_law_336 : decode cL_law 336 = .ok (.iadd, 1) := by decide +kernel
theorem dL_law_337 : decode cL_law 337 = .ok (.iaload, 1) := by decide +kernel
theorem dL_law_338 : decode cL_law 338 = .ok (.invokevirtual 48, 3) := by decide +kernel
theorem dL_law_341 : decode cL_law 341 = .ok (.if_icmp .eq 104, 3) := by decide +kernel
theorem dL_law_344 : decode cL_law 344 = .ok (.iconst 0, 1) := by decide +kernel
theorem dL_law_345 : decode cL_law 345 = .ok (.ireturn, 1) := by decide +kernel
theorem dL_law_346 : decode cL_law 346 = .ok (.aload_n 1, 1) := by decide +kernel
theorem dL_law_347 : decode cL_law 347 = .ok (.aload_n 0, 1) := by decide +kernel
theorem dL_law_348 : decode cL_law 348 = .ok (.iload_n 3, 1) := by decide +kernel
theorem dL_law_349 : decode cL_law 349 = .ok (.iconst 1, 1) := by decide +kernel
theorem dL_law_350 : decode cL_law 350 = .ok (.iadd, 1) := by decide +kernel
theorem dL_law_351 : decode cL_law 351 = .ok (.iaload, 1) := by decide +kernel
theorem dL_law_352 : decode cL_law 352 = .ok (.aload_n 0, 1) := by decide +kernel
theorem dL_law_353 : decode cL_law 353 = .ok (.iload_n 3, 1) := by decide +kernel
theorem dL_law_354 : decode cL_law 354 = .ok (.iconst 2, 1) := by decide +kernel
theorem dL_law_355 : decode cL_law 355 = .ok (.iadd, 1) := by decide +kernel
theorem dL_law_356 : decode cL_law 356 = .ok (.iaload, 1) := by decide +kernel
theorem dL_law_357 : decode cL_law 357 = .ok (.invokevirtual 49, 3) := by decide +kernel
theorem dL_law_360 : decode cL_law 360 = .ok (.aload_n 2, 1) := by decide +kernel
theorem dL_law_361 : decode cL_law 361 = .ok (.aload_n 0, 1) := by decide +kernel
theorem dL_law_362 : decode cL_law 362 = .ok (.iload_n 3, 1) := by decide +kernel
theorem dL_law_363 : decode cL_law 363 = .ok (.iconst 1, 1) := by decide +kernel
theorem dL_law_364 : decode cL_law 364 = .ok (.iadd, 1) := by decide +kernel
theorem dL_law_365 : decode cL_law 365 = .ok (.iaload, 1) := by decide +kernel
theorem dL_law_366 : decode cL_law 366 = .ok (.aload_n 0, 1) := by decide +kernel
theorem dL_law_367 : decode cL_law 367 = .ok (.iload_n 3, 1) := by decide +kernel
theorem dL_law_368 : decode cL_law 368 = .ok (.iconst 2, 1) := by decide +kernel
theorem dL_law_369 : decode cL_law 369 = .ok (.iadd, 1) := by decide +kernel
theorem dL_law_370 : decode cL_law 370 = .ok (.iaload, 1) := by decide +kernel
theorem dL_law_371 : decode cL_law 371 = .ok (.invokevirtual 52, 3) := by decide +kernel
theorem dL_law_374 : decode cL_law 374 = .ok (.if_icmp .eq 71, 3) := by decide +kernel
theorem dL_law_377 : decode cL_law 377 = .ok (.iconst 0, 1) := by decide +kernel
theorem dL_law_378 : decode cL_law 378 = .ok (.ireturn, 1) := by decide +kernel
theorem dL_law_379 : decode cL_law 379 = .ok (.aload_n 1, 1) := by decide +kernel
theorem dL_law_380 : decode cL_law 380 = .ok (.aload_n 0, 1) := by decide +kernel
theorem dL_law_381 : decode cL_law 381 = .ok (.iload_n 3, 1) := by decide +kernel
theorem dL_law_382 : decode cL_law 382 = .ok (.iconst 1, 1) := by decide +kernel
theorem dL_law_383 : decode cL_law 383 = .ok (.iadd, 1) := by decide +kernel
theorem dL_law_384 : decode cL_law 384 = .ok (.iaload, 1) := by decide +kernel
theorem dL_law_385 : decode cL_law 385 = .ok (.aload_n 0, 1) := by decide +kernel
theorem dL_law_386 : decode cL_law 386 = .ok (.iload_n 3, 1) := by decide +kernel
theorem dL_law_387 : decode cL_law 387 = .ok (.iconst 2, 1) := by decide +kernel
theorem dL_law_388 : decode cL_law 388 = .ok (.iadd, 1) := by decide +kernel
theorem dL_law_389 : decode cL_law 389 = .ok (.iaload, 1) := by decide +kernel
theorem dL_law_390 : decode cL_law 390 = .ok (.invokevirtual 53, 3) := by decide +kernel
theorem dL_law_393 : decode cL_law 393 = .ok (.aload_n 2, 1) := by decide +kernel
theorem dL_law_394 : decode cL_law 394 = .ok (.aload_n 0, 1) := by decide +kernel
theorem dL_law_395 : decode cL_law 395 = .ok (.iload_n 3, 1) := by decide +kernel
theorem dL_law_396 : decode cL_law 396 = .ok (.iconst 1, 1) := by decide +kernel
theorem dL_law_397 : decode cL_law 397 = .ok (.iadd, 1) := by decide +kernel
theorem dL_law_398 : decode cL_law 398 = .ok (.iaload, 1) := by decide +kernel
theorem dL_law_399 : decode cL_law 399 = .ok (.aload_n 0, 1) := by decide +kernel
theorem dL_law_400 : decode cL_law 400 = .ok (.iload_n 3, 1) := by decide +kernel
theorem dL_law_401 : decode cL_law 401 = .ok (.iconst 2, 1) := by decide +kernel
theorem dL_law_402 : decode cL_law 402 = .ok (.iadd, 1) := by decide +kernel
theorem dL_law_403 : decode cL_law 403 = .ok (.iaload, 1) := by decide +kernel
theorem dL_law_404 : decode cL_law 404 = .ok (.invokevirtual 56, 3) := by decide +kernel
theorem dL_law_407 : decode cL_law 407 = .ok (.if_icmp .eq 38, 3) := by decide +kernel
theorem dL_law_410 : decode cL_law 410 = .ok (.iconst 0, 1) := by decide +kernel
theorem dL_law_411 : decode cL_law 411 = .ok (.ireturn, 1) := by decide +kernel
theorem dL_law_412 : decode cL_law 412 = .ok (.aload_n 1, 1) := by decide +kernel
theorem dL_law_413 : decode cL_law 413 = .ok (.aload_n 0, 1) := by decide +kernel
theorem dL_law_414 : decode cL_law 414 = .ok (.iload_n 3, 1) := by decide +kernel
theorem dL_law_415 : decode cL_law 415 = .ok (.iconst 1, 1) := by decide +kernel
theorem dL_law_416 : decode cL_law 416 = .ok (.iadd, 1) := by decide +kernel
theorem dL_law_417 : decode cL_law 417 = .ok (.iaload, 1) := by decide +kernel
theorem dL_law_418 : decode cL_law 418 = .ok (.aload_n 0, 1) := by decide +kernel
theorem dL_law_419 : decode cL_law 419 = .ok (.iload_n 3, 1) := by decide +kernel
theorem dL_law_420 : decode cL_law 420 = .ok (.iconst 2, 1) := by decide +kernel
theorem dL_law_421 : decode cL_law 421 = .ok (.iadd, 1) := by decide +kernel
theorem dL_law_422 : decode cL_law 422 = .ok (.iaload, 1) := by decide +kernel
theorem dL_law_423 : decode cL_law 423 = .ok (.invokevirtual 57, 3) := by decide +kernel
theorem dL_law_426 : decode cL_law 426 = .ok (.aload_n 2, 1) := by decide +kernel
theorem dL_law_427 : decode cL_law 427 = .ok (.aload_n 0, 1) := by decide +kernel
theorem dL_law_428 : decode cL_law 428 = .ok (.iload_n 3, 1) := by decide +kernel
theorem dL_law_429 : decode cL_law 429 = .ok (.iconst 1, 1) := by decide +kernel
theorem dL_law_430 : decode cL_law 430 = .ok (.iadd, 1) := by decide +kernel
theorem dL_law_431 : decode cL_law 431 = .ok (.iaload, 1) := by decide +kernel
theorem dL_law_432 : decode cL_law 432 = .ok (.aload_n 0, 1) := by decide +kernel
theorem dL_law_433 : decode cL_law 433 = .ok (.iload_n 3, 1) := by decide +kernel
theorem dL_law_434 : decode cL_law 434 = .ok (.iconst 2, 1) := by decide +kernel
theorem dL_law_435 : decode cL_law 435 = .ok (.iadd, 1) := by decide +kernel
theorem dL_law_436 : decode cL_law 436 = .ok (.iaload, 1) := by decide +kernel
theorem dL_law_437 : decode cL_law 437 = .ok (.invokevirtual 60, 3) := by decide +kernel
theorem dL_law_440 : decode cL_law 440 = .ok (.if_icmp .eq 5, 3) := by decide +kernel
theorem dL_law_443 : decode cL_law 443 = .ok (.iconst 0, 1) := by decide +kernel
theorem dL_law_444 : decode cL_law 444 = .ok (.ireturn, 1) := by decide +kernel
theorem dL_law_445 : decode cL_law 445 = .ok (.iinc 3 5, 3) := by decide +kernel
theorem dL_law_448 : decode cL_law 448 = .ok (.goto (-430), 3) := by decide +kernel
theorem dL_law_451 : decode cL_law 451 = .ok (.iconst 1, 1) := by decide +kernel
theorem dL_law_452 : decode cL_law 452 = .ok (.ireturn, 1) := by decide +kernel
end
section
/-- the words that stay good over a call: one list for every method -/
def wz : List Cond := lw_tbl.filter goodWord
theorem wz_mem {w : Cond} {i : Nat} (h : lw_tbl[i]? = some w) (g : goodWord w = true) : w ∈ wz := List.mem_filter.mpr ⟨List.mem_of_getElem? h, g⟩
theorem wz_sub : ∀ w ∈ wz, w ∈ lw_tbl := fun w h => (List.mem_filter.mp h).1
theorem wz_good : GoodIn wz wz := fun w h => ⟨h, good_of_word (List.mem_filter.mp h).2⟩
abbrev wm (y : MethodName) (b : ByteArray) (n : Nat) (r : Option FieldType) : List Cond := .code y b n r :: wz
theorem wm_good {y : MethodName} {b : ByteArray} {n : Nat} {r : Option FieldType} (h : Cond.code y b n r ∈ wz) {Ts : List Cond} (hT : ∀ w ∈ wz, w ∈ Ts) : GoodIn Ts (wm y b n r) := fun w hw => by
  rcases List.mem_cons.mp hw with rfl | hw
  · exact ⟨hT _ h, (wz_good _ h).2⟩
  · exact ⟨hT _ hw, (wz_good _ hw).2⟩

theorem kn_L : Cond.initialized RL ∈ wz := wz_mem (i := 27) (by decide +kernel) (by decide +kernel)
theorem kn_X5 : Cond.initialized RX5 ∈ wz := wz_mem (i := 28) (by decide +kernel) (by decide +kernel)
theorem kn_X2 : Cond.initialized RX2 ∈ wz := wz_mem (i := 29) (by decide +kernel) (by decide +kernel)
theorem kn_X0 : Cond.initialized RX0 ∈ wz := wz_mem (i := 30) (by decide +kernel) (by decide +kernel)
theorem kn_X1 : Cond.initialized RX1 ∈ wz := wz_mem (i := 31) (by decide +kernel) (by decide +kernel)
theorem kn_X4 : Cond.initialized RX4 ∈ wz := wz_mem (i := 32) (by decide +kernel) (by decide +kernel)
theorem kn_X3 : Cond.initialized RX3 ∈ wz := wz_mem (i := 33) (by decide +kernel) (by decide +kernel)
theorem kn_X6 : Cond.initialized RX6 ∈ wz := wz_mem (i := 34) (by decide +kernel) (by decide +kernel)
theorem kl_L_7 : Cond.classLink RL 7 RX5 ∈ wz := wz_mem (i := 35) (by decide +kernel) (by decide +kernel)
theorem kh_X5 : Cond.instantiable RX5 3 ∈ wz := wz_mem (i := 36) (by decide +kernel) (by decide +kernel)
theorem km_L_9 : Cond.methodLink RL 9 yX5_init ∈ wz := wz_mem (i := 37) (by decide +kernel) (by decide +kernel)
theorem ki_X5_init : Cond.instanceMethod yX5_init ∈ wz := wz_mem (i := 38) (by decide +kernel) (by decide +kernel)
theorem kc_X5_init : Cond.code yX5_init cX5_init 1 none ∈ wz := wz_mem (i := 39) (by decide +kernel) (by decide +kernel)
theorem km_X5_1 : Cond.methodLink RX5 1 objectInit ∈ wz := wz_mem (i := 40) (by decide +kernel) (by decide +kernel)
theorem ki_objI : Cond.instanceMethod objectInit ∈ wz := wz_mem (i := 41) (by decide +kernel) (by decide +kernel)
theorem kc_objI : Cond.code objectInit ⟨#[0xb1]⟩ 1 none ∈ wz := wz_mem (i := 42) (by decide +kernel) (by decide +kernel)
theorem kl_X5_7 : Cond.classLink RX5 7 RX2 ∈ wz := wz_mem (i := 43) (by decide +kernel) (by decide +kernel)
theorem kh_X2 : Cond.instantiable RX2 10 ∈ wz := wz_mem (i := 44) (by decide +kernel) (by decide +kernel)
theorem kmn_X5_9 : Cond.methodLinkNest RX5 9 yX2_init RX5 ∈ lw_tbl := List.mem_of_getElem? (i := 45) (by decide +kernel)
theorem ki_X2_init : Cond.instanceMethod yX2_init ∈ wz := wz_mem (i := 46) (by decide +kernel) (by decide +kernel)
theorem kc_X2_init : Cond.code yX2_init cX2_init 1 none ∈ wz := wz_mem (i := 47) (by decide +kernel) (by decide +kernel)
theorem km_X2_3 : Cond.methodLink RX2 3 objectInit ∈ wz := wz_mem (i := 48) (by decide +kernel) (by decide +kernel)
theorem kf_X2_9 : Cond.fieldLink RX2 9 "BaggageHall$Plan" "ops" "[I" ∈ wz := wz_mem (i := 49) (by decide +kernel) (by decide +kernel)
theorem kf_X5_136 : Cond.fieldLink RX5 136 "BaggageHall$Plan" "ops" "[I" ∈ wz := wz_mem (i := 50) (by decide +kernel) (by decide +kernel)
theorem kf_X2_15 : Cond.fieldLink RX2 15 "BaggageHall$Plan" "firsts" "[I" ∈ wz := wz_mem (i := 51) (by decide +kernel) (by decide +kernel)
theorem kf_X5_139 : Cond.fieldLink RX5 139 "BaggageHall$Plan" "firsts" "[I" ∈ wz := wz_mem (i := 52) (by decide +kernel) (by decide +kernel)
theorem kf_X2_18 : Cond.fieldLink RX2 18 "BaggageHall$Plan" "seconds" "[I" ∈ wz := wz_mem (i := 53) (by decide +kernel) (by decide +kernel)
theorem kf_X5_142 : Cond.fieldLink RX5 142 "BaggageHall$Plan" "seconds" "[I" ∈ wz := wz_mem (i := 54) (by decide +kernel) (by decide +kernel)
theorem kf_X2_21 : Cond.fieldLink RX2 21 "BaggageHall$Plan" "thirds" "[I" ∈ wz := wz_mem (i := 55) (by decide +kernel) (by decide +kernel)
theorem kf_X5_145 : Cond.fieldLink RX5 145 "BaggageHall$Plan" "thirds" "[I" ∈ wz := wz_mem (i := 56) (by decide +kernel) (by decide +kernel)
theorem kf_X2_24 : Cond.fieldLink RX2 24 "BaggageHall$Plan" "acts" "I" ∈ wz := wz_mem (i := 57) (by decide +kernel) (by decide +kernel)
theorem kf_X5_45 : Cond.fieldLink RX5 45 "BaggageHall$Plan" "acts" "I" ∈ wz := wz_mem (i := 58) (by decide +kernel) (by decide +kernel)
theorem kf_X2_28 : Cond.fieldLink RX2 28 "BaggageHall$Plan" "guardFroms" "[I" ∈ wz := wz_mem (i := 59) (by decide +kernel) (by decide +kernel)
theorem kf_X2_31 : Cond.fieldLink RX2 31 "BaggageHall$Plan" "guardTos" "[I" ∈ wz := wz_mem (i := 60) (by decide +kernel) (by decide +kernel)
theorem kf_X2_34 : Cond.fieldLink RX2 34 "BaggageHall$Plan" "guardFailures" "[I" ∈ wz := wz_mem (i := 61) (by decide +kernel) (by decide +kernel)
theorem kf_X2_37 : Cond.fieldLink RX2 37 "BaggageHall$Plan" "guardLines" "[I" ∈ wz := wz_mem (i := 62) (by decide +kernel) (by decide +kernel)
theorem kf_X5_161 : Cond.fieldLink RX5 161 "BaggageHall$Plan" "guardLines" "[I" ∈ wz := wz_mem (i := 63) (by decide +kernel) (by decide +kernel)
theorem kf_X2_40 : Cond.fieldLink RX2 40 "BaggageHall$Plan" "guards" "I" ∈ wz := wz_mem (i := 64) (by decide +kernel) (by decide +kernel)
theorem kf_X5_49 : Cond.fieldLink RX5 49 "BaggageHall$Plan" "guards" "I" ∈ wz := wz_mem (i := 65) (by decide +kernel) (by decide +kernel)
theorem ka_int : Cond.arrayClass .int ∈ wz := wz_mem (i := 87) (by decide +kernel) (by decide +kernel)
theorem kl_X5_16 : Cond.classLink RX5 16 RX0 ∈ wz := wz_mem (i := 88) (by decide +kernel) (by decide +kernel)
theorem kh_X0 : Cond.instantiable RX0 9 ∈ wz := wz_mem (i := 89) (by decide +kernel) (by decide +kernel)
theorem km_X5_18 : Cond.methodLink RX5 18 yX0_init ∈ wz := wz_mem (i := 90) (by decide +kernel) (by decide +kernel)
theorem ki_X0_init : Cond.instanceMethod yX0_init ∈ wz := wz_mem (i := 91) (by decide +kernel) (by decide +kernel)
theorem kc_X0_init : Cond.code yX0_init cX0_init 2 none ∈ wz := wz_mem (i := 92) (by decide +kernel) (by decide +kernel)
theorem km_X0_3 : Cond.methodLink RX0 3 objectInit ∈ wz := wz_mem (i := 93) (by decide +kernel) (by decide +kernel)
theorem kl_X0_18 : Cond.classLink RX0 18 RX1 ∈ wz := wz_mem (i := 94) (by decide +kernel) (by decide +kernel)
theorem kh_X1 : Cond.instantiable RX1 4 ∈ wz := wz_mem (i := 95) (by decide +kernel) (by decide +kernel)
theorem kmn_X0_20 : Cond.methodLinkNest RX0 20 yX1_init RX5 ∈ lw_tbl := List.mem_of_getElem? (i := 96) (by decide +kernel)
theorem ki_X1_init : Cond.instanceMethod yX1_init ∈ wz := wz_mem (i := 97) (by decide +kernel) (by decide +kernel)
theorem kc_X1_init : Cond.code yX1_init cX1_init 1 none ∈ wz := wz_mem (i := 98) (by decide +kernel) (by decide +kernel)
theorem km_X1_3 : Cond.methodLink RX1 3 objectInit ∈ wz := wz_mem (i := 99) (by decide +kernel) (by decide +kernel)
theorem kf_X1_9 : Cond.fieldLink RX1 9 "BaggageHall$Items" "kinds" "[I" ∈ wz := wz_mem (i := 100) (by decide +kernel) (by decide +kernel)
theorem kf_X0_115 : Cond.fieldLink RX0 115 "BaggageHall$Items" "kinds" "[I" ∈ wz := wz_mem (i := 101) (by decide +kernel) (by decide +kernel)
theorem kf_X5_100 : Cond.fieldLink RX5 100 "BaggageHall$Items" "kinds" "[I" ∈ wz := wz_mem (i := 102) (by decide +kernel) (by decide +kernel)
theorem kf_X1_15 : Cond.fieldLink RX1 15 "BaggageHall$Items" "weights" "[I" ∈ wz := wz_mem (i := 103) (by decide +kernel) (by decide +kernel)
theorem kf_X5_103 : Cond.fieldLink RX5 103 "BaggageHall$Items" "weights" "[I" ∈ wz := wz_mem (i := 104) (by decide +kernel) (by decide +kernel)
theorem kf_X0_135 : Cond.fieldLink RX0 135 "BaggageHall$Items" "weights" "[I" ∈ wz := wz_mem (i := 105) (by decide +kernel) (by decide +kernel)
theorem kf_X1_18 : Cond.fieldLink RX1 18 "BaggageHall$Items" "stamps" "[I" ∈ wz := wz_mem (i := 106) (by decide +kernel) (by decide +kernel)
theorem kf_X5_106 : Cond.fieldLink RX5 106 "BaggageHall$Items" "stamps" "[I" ∈ wz := wz_mem (i := 107) (by decide +kernel) (by decide +kernel)
theorem kf_X1_21 : Cond.fieldLink RX1 21 "BaggageHall$Items" "made" "I" ∈ wz := wz_mem (i := 108) (by decide +kernel) (by decide +kernel)
theorem kf_X0_52 : Cond.fieldLink RX0 52 "BaggageHall$Items" "made" "I" ∈ wz := wz_mem (i := 109) (by decide +kernel) (by decide +kernel)
theorem kl_X0_25 : Cond.classLink RX0 25 RX4 ∈ wz := wz_mem (i := 119) (by decide +kernel) (by decide +kernel)
theorem ka_over : Cond.arrayOver (.object RX4) ∈ lw_tbl := List.mem_of_getElem? (i := 120) (by decide +kernel)
theorem kh_X4 : Cond.instantiable RX4 3 ∈ wz := wz_mem (i := 121) (by decide +kernel) (by decide +kernel)
theorem kmn_X0_47 : Cond.methodLinkNest RX0 47 yX4_init RX5 ∈ lw_tbl := List.mem_of_getElem? (i := 122) (by decide +kernel)
theorem ki_X4_init : Cond.instanceMethod yX4_init ∈ wz := wz_mem (i := 123) (by decide +kernel) (by decide +kernel)
theorem kc_X4_init : Cond.code yX4_init cX4_init 1 none ∈ wz := wz_mem (i := 124) (by decide +kernel) (by decide +kernel)
theorem km_X4_3 : Cond.methodLink RX4 3 objectInit ∈ wz := wz_mem (i := 125) (by decide +kernel) (by decide +kernel)
theorem kf_X4_9 : Cond.fieldLink RX4 9 "BaggageHall$Row" "kind" "I" ∈ wz := wz_mem (i := 126) (by decide +kernel) (by decide +kernel)
theorem kf_X0_118 : Cond.fieldLink RX0 118 "BaggageHall$Row" "kind" "I" ∈ wz := wz_mem (i := 127) (by decide +kernel) (by decide +kernel)
theorem kf_X5_127 : Cond.fieldLink RX5 127 "BaggageHall$Row" "kind" "I" ∈ wz := wz_mem (i := 128) (by decide +kernel) (by decide +kernel)
theorem kf_X4_15 : Cond.fieldLink RX4 15 "BaggageHall$Row" "length" "I" ∈ wz := wz_mem (i := 129) (by decide +kernel) (by decide +kernel)
theorem kf_X0_132 : Cond.fieldLink RX0 132 "BaggageHall$Row" "length" "I" ∈ wz := wz_mem (i := 130) (by decide +kernel) (by decide +kernel)
theorem kf_X5_116 : Cond.fieldLink RX5 116 "BaggageHall$Row" "length" "I" ∈ wz := wz_mem (i := 131) (by decide +kernel) (by decide +kernel)
theorem kf_X4_18 : Cond.fieldLink RX4 18 "BaggageHall$Row" "cells" "[I" ∈ wz := wz_mem (i := 132) (by decide +kernel) (by decide +kernel)
theorem kf_X0_125 : Cond.fieldLink RX0 125 "BaggageHall$Row" "cells" "[I" ∈ wz := wz_mem (i := 133) (by decide +kernel) (by decide +kernel)
theorem kf_X5_133 : Cond.fieldLink RX5 133 "BaggageHall$Row" "cells" "[I" ∈ wz := wz_mem (i := 134) (by decide +kernel) (by decide +kernel)
theorem ka_boolean : Cond.arrayClass .boolean ∈ wz := wz_mem (i := 142) (by decide +kernel) (by decide +kernel)
theorem km_X0_48 : Cond.methodLink RX0 48 yX0_begin ∈ wz := wz_mem (i := 143) (by decide +kernel) (by decide +kernel)
theorem ki_X0_begin : Cond.instanceMethod yX0_begin ∈ wz := wz_mem (i := 144) (by decide +kernel) (by decide +kernel)
theorem ks_X0_begin : Cond.selects RX0 yX0_begin yX0_begin ∈ wz := wz_mem (i := 145) (by decide +kernel) (by decide +kernel)
theorem kc_X0_begin : Cond.code yX0_begin cX0_begin 3 none ∈ wz := wz_mem (i := 146) (by decide +kernel) (by decide +kernel)
theorem km_X0_56 : Cond.methodLink RX0 56 yX4_remove ∈ wz := wz_mem (i := 147) (by decide +kernel) (by decide +kernel)
theorem ki_X4_remove : Cond.instanceMethod yX4_remove ∈ wz := wz_mem (i := 148) (by decide +kernel) (by decide +kernel)
theorem ks_X4_remove : Cond.selects RX4 yX4_remove yX4_remove ∈ wz := wz_mem (i := 149) (by decide +kernel) (by decide +kernel)
theorem kc_X4_remove : Cond.code yX4_remove cX4_remove 1 none ∈ wz := wz_mem (i := 150) (by decide +kernel) (by decide +kernel)
theorem kf_X0_9 : Cond.fieldLink RX0 9 "BaggageHall$Hall" "registers" "[I" ∈ wz := wz_mem (i := 151) (by decide +kernel) (by decide +kernel)
theorem kf_X5_85 : Cond.fieldLink RX5 85 "BaggageHall$Hall" "registers" "[I" ∈ wz := wz_mem (i := 152) (by decide +kernel) (by decide +kernel)
theorem kf_X0_15 : Cond.fieldLink RX0 15 "BaggageHall$Hall" "places" "[I" ∈ wz := wz_mem (i := 153) (by decide +kernel) (by decide +kernel)
theorem kf_X5_88 : Cond.fieldLink RX5 88 "BaggageHall$Hall" "places" "[I" ∈ wz := wz_mem (i := 154) (by decide +kernel) (by decide +kernel)
theorem kf_X0_21 : Cond.fieldLink RX0 21 "BaggageHall$Hall" "items" "LBaggageHall$Items;" ∈ wz := wz_mem (i := 155) (by decide +kernel) (by decide +kernel)
theorem kf_X5_91 : Cond.fieldLink RX5 91 "BaggageHall$Hall" "items" "LBaggageHall$Items;" ∈ wz := wz_mem (i := 156) (by decide +kernel) (by decide +kernel)
theorem kf_X0_27 : Cond.fieldLink RX0 27 "BaggageHall$Hall" "belts" "[LBaggageHall$Row;" ∈ wz := wz_mem (i := 157) (by decide +kernel) (by decide +kernel)
theorem kf_X5_112 : Cond.fieldLink RX5 112 "BaggageHall$Hall" "belts" "[LBaggageHall$Row;" ∈ wz := wz_mem (i := 158) (by decide +kernel) (by decide +kernel)
theorem kf_X0_31 : Cond.fieldLink RX0 31 "BaggageHall$Hall" "counters" "[LBaggageHall$Row;" ∈ wz := wz_mem (i := 159) (by decide +kernel) (by decide +kernel)
theorem kf_X5_121 : Cond.fieldLink RX5 121 "BaggageHall$Hall" "counters" "[LBaggageHall$Row;" ∈ wz := wz_mem (i := 160) (by decide +kernel) (by decide +kernel)
theorem kf_X0_34 : Cond.fieldLink RX0 34 "BaggageHall$Hall" "gridRows" "[I" ∈ wz := wz_mem (i := 161) (by decide +kernel) (by decide +kernel)
theorem kf_X5_124 : Cond.fieldLink RX5 124 "BaggageHall$Hall" "gridRows" "[I" ∈ wz := wz_mem (i := 162) (by decide +kernel) (by decide +kernel)
theorem kf_X0_37 : Cond.fieldLink RX0 37 "BaggageHall$Hall" "gridWidths" "[I" ∈ wz := wz_mem (i := 163) (by decide +kernel) (by decide +kernel)
theorem kf_X0_40 : Cond.fieldLink RX0 40 "BaggageHall$Hall" "alarmsThere" "[Z" ∈ wz := wz_mem (i := 164) (by decide +kernel) (by decide +kernel)
theorem kf_X0_44 : Cond.fieldLink RX0 44 "BaggageHall$Hall" "alarmNumbers" "[I" ∈ wz := wz_mem (i := 165) (by decide +kernel) (by decide +kernel)
theorem kf_X5_154 : Cond.fieldLink RX5 154 "BaggageHall$Hall" "alarmNumbers" "[I" ∈ wz := wz_mem (i := 166) (by decide +kernel) (by decide +kernel)
theorem kl_X5_23 : Cond.classLink RX5 23 RX3 ∈ wz := wz_mem (i := 186) (by decide +kernel) (by decide +kernel)
theorem kh_X3 : Cond.instantiable RX3 6 ∈ wz := wz_mem (i := 187) (by decide +kernel) (by decide +kernel)
theorem kmn_X5_25 : Cond.methodLinkNest RX5 25 yX3_init RX5 ∈ lw_tbl := List.mem_of_getElem? (i := 188) (by decide +kernel)
theorem ki_X3_init : Cond.instanceMethod yX3_init ∈ wz := wz_mem (i := 189) (by decide +kernel) (by decide +kernel)
theorem kc_X3_init : Cond.code yX3_init cX3_init 1 none ∈ wz := wz_mem (i := 190) (by decide +kernel) (by decide +kernel)
theorem km_X3_3 : Cond.methodLink RX3 3 objectInit ∈ wz := wz_mem (i := 191) (by decide +kernel) (by decide +kernel)
theorem kf_X3_9 : Cond.fieldLink RX3 9 "BaggageHall$Report" "failure" "I" ∈ wz := wz_mem (i := 192) (by decide +kernel) (by decide +kernel)
theorem kf_X5_66 : Cond.fieldLink RX5 66 "BaggageHall$Report" "failure" "I" ∈ wz := wz_mem (i := 193) (by decide +kernel) (by decide +kernel)
theorem kf_X3_15 : Cond.fieldLink RX3 15 "BaggageHall$Report" "line" "I" ∈ wz := wz_mem (i := 194) (by decide +kernel) (by decide +kernel)
theorem kf_X5_69 : Cond.fieldLink RX5 69 "BaggageHall$Report" "line" "I" ∈ wz := wz_mem (i := 195) (by decide +kernel) (by decide +kernel)
theorem kf_X3_18 : Cond.fieldLink RX3 18 "BaggageHall$Report" "alarm" "I" ∈ wz := wz_mem (i := 196) (by decide +kernel) (by decide +kernel)
theorem kf_X5_72 : Cond.fieldLink RX5 72 "BaggageHall$Report" "alarm" "I" ∈ wz := wz_mem (i := 197) (by decide +kernel) (by decide +kernel)
theorem kf_X3_21 : Cond.fieldLink RX3 21 "BaggageHall$Report" "done" "I" ∈ wz := wz_mem (i := 198) (by decide +kernel) (by decide +kernel)
theorem kf_X5_75 : Cond.fieldLink RX5 75 "BaggageHall$Report" "done" "I" ∈ wz := wz_mem (i := 199) (by decide +kernel) (by decide +kernel)
theorem kf_X3_24 : Cond.fieldLink RX3 24 "BaggageHall$Report" "allTaken" "I" ∈ wz := wz_mem (i := 200) (by decide +kernel) (by decide +kernel)
theorem kf_X5_78 : Cond.fieldLink RX5 78 "BaggageHall$Report" "allTaken" "I" ∈ wz := wz_mem (i := 201) (by decide +kernel) (by decide +kernel)
theorem kf_X3_27 : Cond.fieldLink RX3 27 "BaggageHall$Report" "taken" "[I" ∈ wz := wz_mem (i := 202) (by decide +kernel) (by decide +kernel)
theorem kf_X5_81 : Cond.fieldLink RX5 81 "BaggageHall$Report" "taken" "[I" ∈ wz := wz_mem (i := 203) (by decide +kernel) (by decide +kernel)
theorem kf_X5_10 : Cond.fieldLink RX5 10 "BaggageHall" "plan" "LBaggageHall$Plan;" ∈ wz := wz_mem (i := 217) (by decide +kernel) (by decide +kernel)
theorem kf_X5_19 : Cond.fieldLink RX5 19 "BaggageHall" "hall" "LBaggageHall$Hall;" ∈ wz := wz_mem (i := 218) (by decide +kernel) (by decide +kernel)
theorem kf_X5_26 : Cond.fieldLink RX5 26 "BaggageHall" "report" "LBaggageHall$Report;" ∈ wz := wz_mem (i := 219) (by decide +kernel) (by decide +kernel)
theorem km_L_13 : Cond.methodLink RL 13 yX5_act ∈ wz := wz_mem (i := 227) (by decide +kernel) (by decide +kernel)
theorem ki_X5_act : Cond.instanceMethod yX5_act ∈ wz := wz_mem (i := 228) (by decide +kernel) (by decide +kernel)
theorem ks_X5_act : Cond.selects RX5 yX5_act yX5_act ∈ wz := wz_mem (i := 229) (by decide +kernel) (by decide +kernel)
theorem kc_X5_act : Cond.code yX5_act cX5_act 5 (some .int) ∈ wz := wz_mem (i := 230) (by decide +kernel) (by decide +kernel)
theorem km_X5_30 : Cond.methodLink RX5 30 yX2_isAct ∈ wz := wz_mem (i := 231) (by decide +kernel) (by decide +kernel)
theorem kt_X2_isAct : Cond.static yX2_isAct ∈ wz := wz_mem (i := 232) (by decide +kernel) (by decide +kernel)
theorem kc_X2_isAct : Cond.code yX2_isAct cX2_isAct 4 (some .boolean) ∈ wz := wz_mem (i := 233) (by decide +kernel) (by decide +kernel)
theorem kmn_X2_43 : Cond.methodLinkNest RX2 43 yX5_isBelow RX5 ∈ lw_tbl := List.mem_of_getElem? (i := 234) (by decide +kernel)
theorem kt_X5_isBelow : Cond.static yX5_isBelow ∈ wz := wz_mem (i := 235) (by decide +kernel) (by decide +kernel)
theorem kc_X5_isBelow : Cond.code yX5_isBelow cX5_isBelow 2 (some .boolean) ∈ wz := wz_mem (i := 236) (by decide +kernel) (by decide +kernel)
theorem kf_X2_47 : Cond.fieldLink RX2 47 "BaggageHall$Plan" "FIRST_BOUNDS" "[I" ∈ wz := wz_mem (i := 237) (by decide +kernel) (by decide +kernel)
theorem ky_FIRST_BOUNDS : Cond.laysStatic RX2 "FIRST_BOUNDS" "[I" ∈ lw_tbl := List.mem_of_getElem? (i := 238) (by decide +kernel)
theorem km_X2_50 : Cond.methodLink RX2 50 yX2_isGood ∈ wz := wz_mem (i := 239) (by decide +kernel) (by decide +kernel)
theorem kt_X2_isGood : Cond.static yX2_isGood ∈ wz := wz_mem (i := 240) (by decide +kernel) (by decide +kernel)
theorem kc_X2_isGood : Cond.code yX2_isGood cX2_isGood 2 (some .boolean) ∈ wz := wz_mem (i := 241) (by decide +kernel) (by decide +kernel)
theorem kf_X2_53 : Cond.fieldLink RX2 53 "BaggageHall$Plan" "SECOND_BOUNDS" "[I" ∈ wz := wz_mem (i := 242) (by decide +kernel) (by decide +kernel)
theorem ky_SECOND_BOUNDS : Cond.laysStatic RX2 "SECOND_BOUNDS" "[I" ∈ lw_tbl := List.mem_of_getElem? (i := 243) (by decide +kernel)
theorem kf_X2_56 : Cond.fieldLink RX2 56 "BaggageHall$Plan" "THIRD_BOUNDS" "[I" ∈ wz := wz_mem (i := 244) (by decide +kernel) (by decide +kernel)
theorem ky_THIRD_BOUNDS : Cond.laysStatic RX2 "THIRD_BOUNDS" "[I" ∈ lw_tbl := List.mem_of_getElem? (i := 245) (by decide +kernel)
theorem km_X5_34 : Cond.methodLink RX5 34 yX2_addAct ∈ wz := wz_mem (i := 246) (by decide +kernel) (by decide +kernel)
theorem ki_X2_addAct : Cond.instanceMethod yX2_addAct ∈ wz := wz_mem (i := 247) (by decide +kernel) (by decide +kernel)
theorem ks_X2_addAct : Cond.selects RX2 yX2_addAct yX2_addAct ∈ wz := wz_mem (i := 248) (by decide +kernel) (by decide +kernel)
theorem kc_X2_addAct : Cond.code yX2_addAct cX2_addAct 5 (some .int) ∈ wz := wz_mem (i := 249) (by decide +kernel) (by decide +kernel)
theorem km_L_18 : Cond.methodLink RL 18 yX5_guard ∈ wz := wz_mem (i := 250) (by decide +kernel) (by decide +kernel)
theorem ki_X5_guard : Cond.instanceMethod yX5_guard ∈ wz := wz_mem (i := 251) (by decide +kernel) (by decide +kernel)
theorem ks_X5_guard : Cond.selects RX5 yX5_guard yX5_guard ∈ wz := wz_mem (i := 252) (by decide +kernel) (by decide +kernel)
theorem kc_X5_guard : Cond.code yX5_guard cX5_guard 6 (some .int) ∈ wz := wz_mem (i := 253) (by decide +kernel) (by decide +kernel)
theorem km_X5_38 : Cond.methodLink RX5 38 yX5_isBelow ∈ wz := wz_mem (i := 254) (by decide +kernel) (by decide +kernel)
theorem km_X5_42 : Cond.methodLink RX5 42 yX2_addGuard ∈ wz := wz_mem (i := 255) (by decide +kernel) (by decide +kernel)
theorem ki_X2_addGuard : Cond.instanceMethod yX2_addGuard ∈ wz := wz_mem (i := 256) (by decide +kernel) (by decide +kernel)
theorem ks_X2_addGuard : Cond.selects RX2 yX2_addGuard yX2_addGuard ∈ wz := wz_mem (i := 257) (by decide +kernel) (by decide +kernel)
theorem kc_X2_addGuard : Cond.code yX2_addGuard cX2_addGuard 5 (some .int) ∈ wz := wz_mem (i := 258) (by decide +kernel) (by decide +kernel)
theorem km_L_22 : Cond.methodLink RL 22 yX5_clear ∈ wz := wz_mem (i := 259) (by decide +kernel) (by decide +kernel)
theorem ki_X5_clear : Cond.instanceMethod yX5_clear ∈ wz := wz_mem (i := 260) (by decide +kernel) (by decide +kernel)
theorem ks_X5_clear : Cond.selects RX5 yX5_clear yX5_clear ∈ wz := wz_mem (i := 261) (by decide +kernel) (by decide +kernel)
theorem kc_X5_clear : Cond.code yX5_clear cX5_clear 2 (some .int) ∈ wz := wz_mem (i := 262) (by decide +kernel) (by decide +kernel)
theorem km_L_27 : Cond.methodLink RL 27 yX5_run ∈ wz := wz_mem (i := 263) (by decide +kernel) (by decide +kernel)
theorem ki_X5_run : Cond.instanceMethod yX5_run ∈ wz := wz_mem (i := 264) (by decide +kernel) (by decide +kernel)
theorem ks_X5_run : Cond.selects RX5 yX5_run yX5_run ∈ wz := wz_mem (i := 265) (by decide +kernel) (by decide +kernel)
theorem kc_X5_run : Cond.code yX5_run cX5_run 5 (some .int) ∈ wz := wz_mem (i := 266) (by decide +kernel) (by decide +kernel)
theorem km_X5_52 : Cond.methodLink RX5 52 yX0_begin ∈ wz := wz_mem (i := 267) (by decide +kernel) (by decide +kernel)
theorem km_X5_56 : Cond.methodLink RX5 56 yX3_begin ∈ wz := wz_mem (i := 268) (by decide +kernel) (by decide +kernel)
theorem ki_X3_begin : Cond.instanceMethod yX3_begin ∈ wz := wz_mem (i := 269) (by decide +kernel) (by decide +kernel)
theorem ks_X3_begin : Cond.selects RX3 yX3_begin yX3_begin ∈ wz := wz_mem (i := 270) (by decide +kernel) (by decide +kernel)
theorem kc_X3_begin : Cond.code yX3_begin cX3_begin 2 none ∈ wz := wz_mem (i := 271) (by decide +kernel) (by decide +kernel)
theorem km_X5_58 : Cond.methodLink RX5 58 yX2_hasAct ∈ wz := wz_mem (i := 272) (by decide +kernel) (by decide +kernel)
theorem ki_X2_hasAct : Cond.instanceMethod yX2_hasAct ∈ wz := wz_mem (i := 273) (by decide +kernel) (by decide +kernel)
theorem ks_X2_hasAct : Cond.selects RX2 yX2_hasAct yX2_hasAct ∈ wz := wz_mem (i := 274) (by decide +kernel) (by decide +kernel)
theorem kc_X2_hasAct : Cond.code yX2_hasAct cX2_hasAct 2 (some .boolean) ∈ wz := wz_mem (i := 275) (by decide +kernel) (by decide +kernel)
theorem km_X5_62 : Cond.methodLink RX5 62 yX5_nextLine ∈ wz := wz_mem (i := 276) (by decide +kernel) (by decide +kernel)
theorem ki_X5_nextLine : Cond.instanceMethod yX5_nextLine ∈ wz := wz_mem (i := 278) (by decide +kernel) (by decide +kernel)
theorem kc_X5_nextLine : Cond.code yX5_nextLine cX5_nextLine 7 (some .int) ∈ wz := wz_mem (i := 279) (by decide +kernel) (by decide +kernel)
theorem km_X5_148 : Cond.methodLink RX5 148 yX0_perform ∈ wz := wz_mem (i := 280) (by decide +kernel) (by decide +kernel)
theorem ki_X0_perform : Cond.instanceMethod yX0_perform ∈ wz := wz_mem (i := 281) (by decide +kernel) (by decide +kernel)
theorem ks_X0_perform : Cond.selects RX0 yX0_perform yX0_perform ∈ wz := wz_mem (i := 282) (by decide +kernel) (by decide +kernel)
theorem kc_X0_perform : Cond.code yX0_perform cX0_perform 5 (some .int) ∈ wz := wz_mem (i := 283) (by decide +kernel) (by decide +kernel)
theorem km_X0_59 : Cond.methodLink RX0 59 yX0_placeAct ∈ wz := wz_mem (i := 284) (by decide +kernel) (by decide +kernel)
theorem ki_X0_placeAct : Cond.instanceMethod yX0_placeAct ∈ wz := wz_mem (i := 286) (by decide +kernel) (by decide +kernel)
theorem kc_X0_placeAct : Cond.code yX0_placeAct cX0_placeAct 5 (some .int) ∈ wz := wz_mem (i := 287) (by decide +kernel) (by decide +kernel)
theorem km_X0_89 : Cond.methodLink RX0 89 yX1_add ∈ wz := wz_mem (i := 288) (by decide +kernel) (by decide +kernel)
theorem ki_X1_add : Cond.instanceMethod yX1_add ∈ wz := wz_mem (i := 289) (by decide +kernel) (by decide +kernel)
theorem ks_X1_add : Cond.selects RX1 yX1_add yX1_add ∈ wz := wz_mem (i := 290) (by decide +kernel) (by decide +kernel)
theorem kc_X1_add : Cond.code yX1_add cX1_add 3 (some .int) ∈ wz := wz_mem (i := 291) (by decide +kernel) (by decide +kernel)
theorem km_X0_63 : Cond.methodLink RX0 63 yX0_beltAct ∈ wz := wz_mem (i := 292) (by decide +kernel) (by decide +kernel)
theorem ki_X0_beltAct : Cond.instanceMethod yX0_beltAct ∈ wz := wz_mem (i := 294) (by decide +kernel) (by decide +kernel)
theorem kc_X0_beltAct : Cond.code yX0_beltAct cX0_beltAct 5 (some .int) ∈ wz := wz_mem (i := 295) (by decide +kernel) (by decide +kernel)
theorem km_X0_92 : Cond.methodLink RX0 92 yX4_renew ∈ wz := wz_mem (i := 296) (by decide +kernel) (by decide +kernel)
theorem ki_X4_renew : Cond.instanceMethod yX4_renew ∈ wz := wz_mem (i := 297) (by decide +kernel) (by decide +kernel)
theorem ks_X4_renew : Cond.selects RX4 yX4_renew yX4_renew ∈ wz := wz_mem (i := 298) (by decide +kernel) (by decide +kernel)
theorem kc_X4_renew : Cond.code yX4_renew cX4_renew 6 (some .int) ∈ wz := wz_mem (i := 299) (by decide +kernel) (by decide +kernel)
theorem kmn_X4_22 : Cond.methodLinkNest RX4 22 yX5_sizeFailure RX5 ∈ lw_tbl := List.mem_of_getElem? (i := 300) (by decide +kernel)
theorem kt_X5_sizeFailure : Cond.static yX5_sizeFailure ∈ wz := wz_mem (i := 301) (by decide +kernel) (by decide +kernel)
theorem kc_X5_sizeFailure : Cond.code yX5_sizeFailure cX5_sizeFailure 1 (some .int) ∈ wz := wz_mem (i := 302) (by decide +kernel) (by decide +kernel)
theorem km_X0_95 : Cond.methodLink RX0 95 yX0_lay ∈ wz := wz_mem (i := 303) (by decide +kernel) (by decide +kernel)
theorem ki_X0_lay : Cond.instanceMethod yX0_lay ∈ wz := wz_mem (i := 305) (by decide +kernel) (by decide +kernel)
theorem kc_X0_lay : Cond.code yX0_lay cX0_lay 5 (some .int) ∈ wz := wz_mem (i := 306) (by decide +kernel) (by decide +kernel)
theorem km_X0_107 : Cond.methodLink RX0 107 yX4_placeFailure ∈ wz := wz_mem (i := 307) (by decide +kernel) (by decide +kernel)
theorem ki_X4_placeFailure : Cond.instanceMethod yX4_placeFailure ∈ wz := wz_mem (i := 308) (by decide +kernel) (by decide +kernel)
theorem ks_X4_placeFailure : Cond.selects RX4 yX4_placeFailure yX4_placeFailure ∈ wz := wz_mem (i := 309) (by decide +kernel) (by decide +kernel)
theorem kc_X4_placeFailure : Cond.code yX4_placeFailure cX4_placeFailure 2 (some .int) ∈ wz := wz_mem (i := 310) (by decide +kernel) (by decide +kernel)
theorem km_X4_26 : Cond.methodLink RX4 26 yX4_isThere ∈ wz := wz_mem (i := 311) (by decide +kernel) (by decide +kernel)
theorem ki_X4_isThere : Cond.instanceMethod yX4_isThere ∈ wz := wz_mem (i := 312) (by decide +kernel) (by decide +kernel)
theorem ks_X4_isThere : Cond.selects RX4 yX4_isThere yX4_isThere ∈ wz := wz_mem (i := 313) (by decide +kernel) (by decide +kernel)
theorem kc_X4_isThere : Cond.code yX4_isThere cX4_isThere 1 (some .boolean) ∈ wz := wz_mem (i := 314) (by decide +kernel) (by decide +kernel)
theorem km_X4_30 : Cond.methodLink RX4 30 yX4_hasPlace ∈ wz := wz_mem (i := 315) (by decide +kernel) (by decide +kernel)
theorem ki_X4_hasPlace : Cond.instanceMethod yX4_hasPlace ∈ wz := wz_mem (i := 316) (by decide +kernel) (by decide +kernel)
theorem ks_X4_hasPlace : Cond.selects RX4 yX4_hasPlace yX4_hasPlace ∈ wz := wz_mem (i := 317) (by decide +kernel) (by decide +kernel)
theorem kc_X4_hasPlace : Cond.code yX4_hasPlace cX4_hasPlace 2 (some .boolean) ∈ wz := wz_mem (i := 318) (by decide +kernel) (by decide +kernel)
theorem km_X0_111 : Cond.methodLink RX0 111 yX1_has ∈ wz := wz_mem (i := 319) (by decide +kernel) (by decide +kernel)
theorem ki_X1_has : Cond.instanceMethod yX1_has ∈ wz := wz_mem (i := 320) (by decide +kernel) (by decide +kernel)
theorem ks_X1_has : Cond.selects RX1 yX1_has yX1_has ∈ wz := wz_mem (i := 321) (by decide +kernel) (by decide +kernel)
theorem kc_X1_has : Cond.code yX1_has cX1_has 2 (some .boolean) ∈ wz := wz_mem (i := 322) (by decide +kernel) (by decide +kernel)
theorem kmn_X1_25 : Cond.methodLinkNest RX1 25 yX5_isBelow RX5 ∈ lw_tbl := List.mem_of_getElem? (i := 323) (by decide +kernel)
theorem kmn_X0_121 : Cond.methodLinkNest RX0 121 yX5_isOf RX5 ∈ lw_tbl := List.mem_of_getElem? (i := 324) (by decide +kernel)
theorem kt_X5_isOf : Cond.static yX5_isOf ∈ wz := wz_mem (i := 325) (by decide +kernel) (by decide +kernel)
theorem kc_X5_isOf : Cond.code yX5_isOf cX5_isOf 2 (some .boolean) ∈ wz := wz_mem (i := 326) (by decide +kernel) (by decide +kernel)
theorem km_X0_99 : Cond.methodLink RX0 99 yX0_pick ∈ wz := wz_mem (i := 327) (by decide +kernel) (by decide +kernel)
theorem ki_X0_pick : Cond.instanceMethod yX0_pick ∈ wz := wz_mem (i := 329) (by decide +kernel) (by decide +kernel)
theorem kc_X0_pick : Cond.code yX0_pick cX0_pick 5 (some .int) ∈ wz := wz_mem (i := 330) (by decide +kernel) (by decide +kernel)
theorem km_X0_103 : Cond.methodLink RX0 103 yX0_measure ∈ wz := wz_mem (i := 331) (by decide +kernel) (by decide +kernel)
theorem ki_X0_measure : Cond.instanceMethod yX0_measure ∈ wz := wz_mem (i := 333) (by decide +kernel) (by decide +kernel)
theorem kc_X0_measure : Cond.code yX0_measure cX0_measure 3 (some .int) ∈ wz := wz_mem (i := 334) (by decide +kernel) (by decide +kernel)
theorem km_X0_128 : Cond.methodLink RX0 128 yX4_isThere ∈ wz := wz_mem (i := 335) (by decide +kernel) (by decide +kernel)
theorem km_X0_66 : Cond.methodLink RX0 66 yX0_askItem ∈ wz := wz_mem (i := 336) (by decide +kernel) (by decide +kernel)
theorem ki_X0_askItem : Cond.instanceMethod yX0_askItem ∈ wz := wz_mem (i := 338) (by decide +kernel) (by decide +kernel)
theorem kc_X0_askItem : Cond.code yX0_askItem cX0_askItem 4 (some .int) ∈ wz := wz_mem (i := 339) (by decide +kernel) (by decide +kernel)
theorem km_X0_138 : Cond.methodLink RX0 138 yX1_stamp ∈ wz := wz_mem (i := 340) (by decide +kernel) (by decide +kernel)
theorem ki_X1_stamp : Cond.instanceMethod yX1_stamp ∈ wz := wz_mem (i := 341) (by decide +kernel) (by decide +kernel)
theorem ks_X1_stamp : Cond.selects RX1 yX1_stamp yX1_stamp ∈ wz := wz_mem (i := 342) (by decide +kernel) (by decide +kernel)
theorem kc_X1_stamp : Cond.code yX1_stamp cX1_stamp 3 (some .int) ∈ wz := wz_mem (i := 343) (by decide +kernel) (by decide +kernel)
theorem km_X0_141 : Cond.methodLink RX0 141 yX1_isAlive ∈ wz := wz_mem (i := 344) (by decide +kernel) (by decide +kernel)
theorem ki_X1_isAlive : Cond.instanceMethod yX1_isAlive ∈ wz := wz_mem (i := 345) (by decide +kernel) (by decide +kernel)
theorem ks_X1_isAlive : Cond.selects RX1 yX1_isAlive yX1_isAlive ∈ wz := wz_mem (i := 346) (by decide +kernel) (by decide +kernel)
theorem kc_X1_isAlive : Cond.code yX1_isAlive cX1_isAlive 2 (some .boolean) ∈ wz := wz_mem (i := 347) (by decide +kernel) (by decide +kernel)
theorem km_X0_144 : Cond.methodLink RX0 144 yX1_feed ∈ wz := wz_mem (i := 348) (by decide +kernel) (by decide +kernel)
theorem ki_X1_feed : Cond.instanceMethod yX1_feed ∈ wz := wz_mem (i := 349) (by decide +kernel) (by decide +kernel)
theorem ks_X1_feed : Cond.selects RX1 yX1_feed yX1_feed ∈ wz := wz_mem (i := 350) (by decide +kernel) (by decide +kernel)
theorem kc_X1_feed : Cond.code yX1_feed cX1_feed 2 (some .int) ∈ wz := wz_mem (i := 351) (by decide +kernel) (by decide +kernel)
theorem km_X0_70 : Cond.methodLink RX0 70 yX0_load ∈ wz := wz_mem (i := 352) (by decide +kernel) (by decide +kernel)
theorem ki_X0_load : Cond.instanceMethod yX0_load ∈ wz := wz_mem (i := 354) (by decide +kernel) (by decide +kernel)
theorem kc_X0_load : Cond.code yX0_load cX0_load 3 (some .int) ∈ wz := wz_mem (i := 355) (by decide +kernel) (by decide +kernel)
theorem km_X0_74 : Cond.methodLink RX0 74 yX0_asKind ∈ wz := wz_mem (i := 356) (by decide +kernel) (by decide +kernel)
theorem ki_X0_asKind : Cond.instanceMethod yX0_asKind ∈ wz := wz_mem (i := 358) (by decide +kernel) (by decide +kernel)
theorem kc_X0_asKind : Cond.code yX0_asKind cX0_asKind 4 (some .int) ∈ wz := wz_mem (i := 359) (by decide +kernel) (by decide +kernel)
theorem km_X0_77 : Cond.methodLink RX0 77 yX0_counterAct ∈ wz := wz_mem (i := 360) (by decide +kernel) (by decide +kernel)
theorem ki_X0_counterAct : Cond.instanceMethod yX0_counterAct ∈ wz := wz_mem (i := 362) (by decide +kernel) (by decide +kernel)
theorem kc_X0_counterAct : Cond.code yX0_counterAct cX0_counterAct 5 (some .int) ∈ wz := wz_mem (i := 363) (by decide +kernel) (by decide +kernel)
theorem km_X0_147 : Cond.methodLink RX0 147 yX0_count ∈ wz := wz_mem (i := 364) (by decide +kernel) (by decide +kernel)
theorem ki_X0_count : Cond.instanceMethod yX0_count ∈ wz := wz_mem (i := 366) (by decide +kernel) (by decide +kernel)
theorem kc_X0_count : Cond.code yX0_count cX0_count 4 (some .int) ∈ wz := wz_mem (i := 367) (by decide +kernel) (by decide +kernel)
theorem km_X0_151 : Cond.methodLink RX0 151 yX0_readCount ∈ wz := wz_mem (i := 368) (by decide +kernel) (by decide +kernel)
theorem ki_X0_readCount : Cond.instanceMethod yX0_readCount ∈ wz := wz_mem (i := 370) (by decide +kernel) (by decide +kernel)
theorem kc_X0_readCount : Cond.code yX0_readCount cX0_readCount 5 (some .int) ∈ wz := wz_mem (i := 371) (by decide +kernel) (by decide +kernel)
theorem km_X0_80 : Cond.methodLink RX0 80 yX0_newGrid ∈ wz := wz_mem (i := 372) (by decide +kernel) (by decide +kernel)
theorem ki_X0_newGrid : Cond.instanceMethod yX0_newGrid ∈ wz := wz_mem (i := 374) (by decide +kernel) (by decide +kernel)
theorem kc_X0_newGrid : Cond.code yX0_newGrid cX0_newGrid 5 (some .int) ∈ wz := wz_mem (i := 375) (by decide +kernel) (by decide +kernel)
theorem kmn_X0_154 : Cond.methodLinkNest RX0 154 yX5_sizeFailure RX5 ∈ lw_tbl := List.mem_of_getElem? (i := 376) (by decide +kernel)
theorem km_X0_83 : Cond.methodLink RX0 83 yX0_sumGrid ∈ wz := wz_mem (i := 377) (by decide +kernel) (by decide +kernel)
theorem ki_X0_sumGrid : Cond.instanceMethod yX0_sumGrid ∈ wz := wz_mem (i := 379) (by decide +kernel) (by decide +kernel)
theorem kc_X0_sumGrid : Cond.code yX0_sumGrid cX0_sumGrid 3 (some .int) ∈ wz := wz_mem (i := 380) (by decide +kernel) (by decide +kernel)
theorem km_X0_86 : Cond.methodLink RX0 86 yX0_alarmAct ∈ wz := wz_mem (i := 381) (by decide +kernel) (by decide +kernel)
theorem ki_X0_alarmAct : Cond.instanceMethod yX0_alarmAct ∈ wz := wz_mem (i := 383) (by decide +kernel) (by decide +kernel)
theorem kc_X0_alarmAct : Cond.code yX0_alarmAct cX0_alarmAct 4 (some .int) ∈ wz := wz_mem (i := 384) (by decide +kernel) (by decide +kernel)
theorem km_X5_151 : Cond.methodLink RX5 151 yX0_lineBehind ∈ wz := wz_mem (i := 385) (by decide +kernel) (by decide +kernel)
theorem ki_X0_lineBehind : Cond.instanceMethod yX0_lineBehind ∈ wz := wz_mem (i := 386) (by decide +kernel) (by decide +kernel)
theorem ks_X0_lineBehind : Cond.selects RX0 yX0_lineBehind yX0_lineBehind ∈ wz := wz_mem (i := 387) (by decide +kernel) (by decide +kernel)
theorem kc_X0_lineBehind : Cond.code yX0_lineBehind cX0_lineBehind 5 (some .int) ∈ wz := wz_mem (i := 388) (by decide +kernel) (by decide +kernel)
theorem km_X5_157 : Cond.methodLink RX5 157 yX2_guardFor ∈ wz := wz_mem (i := 389) (by decide +kernel) (by decide +kernel)
theorem ki_X2_guardFor : Cond.instanceMethod yX2_guardFor ∈ wz := wz_mem (i := 390) (by decide +kernel) (by decide +kernel)
theorem ks_X2_guardFor : Cond.selects RX2 yX2_guardFor yX2_guardFor ∈ wz := wz_mem (i := 391) (by decide +kernel) (by decide +kernel)
theorem kc_X2_guardFor : Cond.code yX2_guardFor cX2_guardFor 5 (some .int) ∈ wz := wz_mem (i := 392) (by decide +kernel) (by decide +kernel)
theorem km_L_32 : Cond.methodLink RL 32 yX5_told ∈ wz := wz_mem (i := 393) (by decide +kernel) (by decide +kernel)
theorem ki_X5_told : Cond.instanceMethod yX5_told ∈ wz := wz_mem (i := 394) (by decide +kernel) (by decide +kernel)
theorem ks_X5_told : Cond.selects RX5 yX5_told yX5_told ∈ wz := wz_mem (i := 395) (by decide +kernel) (by decide +kernel)
theorem kc_X5_told : Cond.code yX5_told cX5_told 2 (some .int) ∈ wz := wz_mem (i := 396) (by decide +kernel) (by decide +kernel)
theorem km_L_37 : Cond.methodLink RL 37 yX5_caught ∈ wz := wz_mem (i := 397) (by decide +kernel) (by decide +kernel)
theorem ki_X5_caught : Cond.instanceMethod yX5_caught ∈ wz := wz_mem (i := 398) (by decide +kernel) (by decide +kernel)
theorem ks_X5_caught : Cond.selects RX5 yX5_caught yX5_caught ∈ wz := wz_mem (i := 399) (by decide +kernel) (by decide +kernel)
theorem kc_X5_caught : Cond.code yX5_caught cX5_caught 2 (some .int) ∈ wz := wz_mem (i := 400) (by decide +kernel) (by decide +kernel)
theorem km_L_41 : Cond.methodLink RL 41 yX5_register ∈ wz := wz_mem (i := 401) (by decide +kernel) (by decide +kernel)
theorem ki_X5_register : Cond.instanceMethod yX5_register ∈ wz := wz_mem (i := 402) (by decide +kernel) (by decide +kernel)
theorem ks_X5_register : Cond.selects RX5 yX5_register yX5_register ∈ wz := wz_mem (i := 403) (by decide +kernel) (by decide +kernel)
theorem kc_X5_register : Cond.code yX5_register cX5_register 2 (some .int) ∈ wz := wz_mem (i := 404) (by decide +kernel) (by decide +kernel)
theorem km_L_45 : Cond.methodLink RL 45 yX5_item ∈ wz := wz_mem (i := 405) (by decide +kernel) (by decide +kernel)
theorem ki_X5_item : Cond.instanceMethod yX5_item ∈ wz := wz_mem (i := 406) (by decide +kernel) (by decide +kernel)
theorem ks_X5_item : Cond.selects RX5 yX5_item yX5_item ∈ wz := wz_mem (i := 407) (by decide +kernel) (by decide +kernel)
theorem kc_X5_item : Cond.code yX5_item cX5_item 4 (some .int) ∈ wz := wz_mem (i := 408) (by decide +kernel) (by decide +kernel)
theorem km_X5_95 : Cond.methodLink RX5 95 yX1_has ∈ wz := wz_mem (i := 409) (by decide +kernel) (by decide +kernel)
theorem km_X5_109 : Cond.methodLink RX5 109 yX0_firstPlaceOf ∈ wz := wz_mem (i := 410) (by decide +kernel) (by decide +kernel)
theorem ki_X0_firstPlaceOf : Cond.instanceMethod yX0_firstPlaceOf ∈ wz := wz_mem (i := 411) (by decide +kernel) (by decide +kernel)
theorem ks_X0_firstPlaceOf : Cond.selects RX0 yX0_firstPlaceOf yX0_firstPlaceOf ∈ wz := wz_mem (i := 412) (by decide +kernel) (by decide +kernel)
theorem kc_X0_firstPlaceOf : Cond.code yX0_firstPlaceOf cX0_firstPlaceOf 3 (some .int) ∈ wz := wz_mem (i := 413) (by decide +kernel) (by decide +kernel)
theorem km_L_49 : Cond.methodLink RL 49 yX5_row ∈ wz := wz_mem (i := 414) (by decide +kernel) (by decide +kernel)
theorem ki_X5_row : Cond.instanceMethod yX5_row ∈ wz := wz_mem (i := 415) (by decide +kernel) (by decide +kernel)
theorem ks_X5_row : Cond.selects RX5 yX5_row yX5_row ∈ wz := wz_mem (i := 416) (by decide +kernel) (by decide +kernel)
theorem kc_X5_row : Cond.code yX5_row cX5_row 3 (some .int) ∈ wz := wz_mem (i := 417) (by decide +kernel) (by decide +kernel)
theorem km_L_53 : Cond.methodLink RL 53 yX5_onBelt ∈ wz := wz_mem (i := 418) (by decide +kernel) (by decide +kernel)
theorem ki_X5_onBelt : Cond.instanceMethod yX5_onBelt ∈ wz := wz_mem (i := 419) (by decide +kernel) (by decide +kernel)
theorem ks_X5_onBelt : Cond.selects RX5 yX5_onBelt yX5_onBelt ∈ wz := wz_mem (i := 420) (by decide +kernel) (by decide +kernel)
theorem kc_X5_onBelt : Cond.code yX5_onBelt cX5_onBelt 5 (some .int) ∈ wz := wz_mem (i := 421) (by decide +kernel) (by decide +kernel)
theorem km_X5_130 : Cond.methodLink RX5 130 yX4_hasPlace ∈ wz := wz_mem (i := 422) (by decide +kernel) (by decide +kernel)
theorem km_L_57 : Cond.methodLink RL 57 yX5_counted ∈ wz := wz_mem (i := 423) (by decide +kernel) (by decide +kernel)
theorem ki_X5_counted : Cond.instanceMethod yX5_counted ∈ wz := wz_mem (i := 424) (by decide +kernel) (by decide +kernel)
theorem ks_X5_counted : Cond.selects RX5 yX5_counted yX5_counted ∈ wz := wz_mem (i := 425) (by decide +kernel) (by decide +kernel)
theorem kc_X5_counted : Cond.code yX5_counted cX5_counted 4 (some .int) ∈ wz := wz_mem (i := 426) (by decide +kernel) (by decide +kernel)
theorem kl_L_10 : Cond.classLink RL 10 RX6 ∈ wz := wz_mem (i := 427) (by decide +kernel) (by decide +kernel)
theorem kh_X6 : Cond.instantiable RX6 33 ∈ wz := wz_mem (i := 428) (by decide +kernel) (by decide +kernel)
theorem km_L_12 : Cond.methodLink RL 12 yX6_init ∈ wz := wz_mem (i := 429) (by decide +kernel) (by decide +kernel)
theorem ki_X6_init : Cond.instanceMethod yX6_init ∈ wz := wz_mem (i := 430) (by decide +kernel) (by decide +kernel)
theorem kc_X6_init : Cond.code yX6_init cX6_init 1 none ∈ wz := wz_mem (i := 431) (by decide +kernel) (by decide +kernel)
theorem km_X6_1 : Cond.methodLink RX6 1 objectInit ∈ wz := wz_mem (i := 432) (by decide +kernel) (by decide +kernel)
theorem km_X6_80 : Cond.methodLink RX6 80 yX6_begin ∈ wz := wz_mem (i := 433) (by decide +kernel) (by decide +kernel)
theorem ki_X6_begin : Cond.instanceMethod yX6_begin ∈ wz := wz_mem (i := 435) (by decide +kernel) (by decide +kernel)
theorem kc_X6_begin : Cond.code yX6_begin cX6_begin 3 none ∈ wz := wz_mem (i := 436) (by decide +kernel) (by decide +kernel)
theorem kf_X6_121 : Cond.fieldLink RX6 121 "BaggageHallModel" "acts" "I" ∈ wz := wz_mem (i := 437) (by decide +kernel) (by decide +kernel)
theorem kf_X6_7 : Cond.fieldLink RX6 7 "BaggageHallModel" "op" "[I" ∈ wz := wz_mem (i := 438) (by decide +kernel) (by decide +kernel)
theorem kf_X6_13 : Cond.fieldLink RX6 13 "BaggageHallModel" "first" "[I" ∈ wz := wz_mem (i := 439) (by decide +kernel) (by decide +kernel)
theorem kf_X6_16 : Cond.fieldLink RX6 16 "BaggageHallModel" "second" "[I" ∈ wz := wz_mem (i := 440) (by decide +kernel) (by decide +kernel)
theorem kf_X6_19 : Cond.fieldLink RX6 19 "BaggageHallModel" "third" "[I" ∈ wz := wz_mem (i := 441) (by decide +kernel) (by decide +kernel)
theorem kf_X6_124 : Cond.fieldLink RX6 124 "BaggageHallModel" "guards" "I" ∈ wz := wz_mem (i := 442) (by decide +kernel) (by decide +kernel)
theorem kf_X6_22 : Cond.fieldLink RX6 22 "BaggageHallModel" "from" "[I" ∈ wz := wz_mem (i := 443) (by decide +kernel) (by decide +kernel)
theorem kf_X6_25 : Cond.fieldLink RX6 25 "BaggageHallModel" "to" "[I" ∈ wz := wz_mem (i := 444) (by decide +kernel) (by decide +kernel)
theorem kf_X6_28 : Cond.fieldLink RX6 28 "BaggageHallModel" "takes" "[I" ∈ wz := wz_mem (i := 445) (by decide +kernel) (by decide +kernel)
theorem kf_X6_31 : Cond.fieldLink RX6 31 "BaggageHallModel" "goesTo" "[I" ∈ wz := wz_mem (i := 446) (by decide +kernel) (by decide +kernel)
theorem kf_X6_84 : Cond.fieldLink RX6 84 "BaggageHallModel" "items" "I" ∈ wz := wz_mem (i := 447) (by decide +kernel) (by decide +kernel)
theorem kf_X6_34 : Cond.fieldLink RX6 34 "BaggageHallModel" "kind" "[I" ∈ wz := wz_mem (i := 448) (by decide +kernel) (by decide +kernel)
theorem kf_X6_37 : Cond.fieldLink RX6 37 "BaggageHallModel" "weight" "[I" ∈ wz := wz_mem (i := 449) (by decide +kernel) (by decide +kernel)
theorem kf_X6_40 : Cond.fieldLink RX6 40 "BaggageHallModel" "stamps" "[I" ∈ wz := wz_mem (i := 450) (by decide +kernel) (by decide +kernel)
theorem kf_X6_43 : Cond.fieldLink RX6 43 "BaggageHallModel" "place" "[I" ∈ wz := wz_mem (i := 451) (by decide +kernel) (by decide +kernel)
theorem kf_X6_46 : Cond.fieldLink RX6 46 "BaggageHallModel" "beltLong" "[I" ∈ wz := wz_mem (i := 452) (by decide +kernel) (by decide +kernel)
theorem kf_X6_49 : Cond.fieldLink RX6 49 "BaggageHallModel" "beltKind" "[I" ∈ wz := wz_mem (i := 453) (by decide +kernel) (by decide +kernel)
theorem kf_X6_52 : Cond.fieldLink RX6 52 "BaggageHallModel" "belt" "[I" ∈ wz := wz_mem (i := 454) (by decide +kernel) (by decide +kernel)
theorem kf_X6_55 : Cond.fieldLink RX6 55 "BaggageHallModel" "counterLong" "[I" ∈ wz := wz_mem (i := 455) (by decide +kernel) (by decide +kernel)
theorem kf_X6_58 : Cond.fieldLink RX6 58 "BaggageHallModel" "counter" "[I" ∈ wz := wz_mem (i := 456) (by decide +kernel) (by decide +kernel)
theorem kf_X6_61 : Cond.fieldLink RX6 61 "BaggageHallModel" "gridLong" "[I" ∈ wz := wz_mem (i := 457) (by decide +kernel) (by decide +kernel)
theorem kf_X6_64 : Cond.fieldLink RX6 64 "BaggageHallModel" "gridWide" "[I" ∈ wz := wz_mem (i := 458) (by decide +kernel) (by decide +kernel)
theorem kf_X6_67 : Cond.fieldLink RX6 67 "BaggageHallModel" "isAlarm" "[Z" ∈ wz := wz_mem (i := 459) (by decide +kernel) (by decide +kernel)
theorem kf_X6_71 : Cond.fieldLink RX6 71 "BaggageHallModel" "alarm" "[I" ∈ wz := wz_mem (i := 460) (by decide +kernel) (by decide +kernel)
theorem kf_X6_74 : Cond.fieldLink RX6 74 "BaggageHallModel" "register" "[I" ∈ wz := wz_mem (i := 461) (by decide +kernel) (by decide +kernel)
theorem kf_X6_88 : Cond.fieldLink RX6 88 "BaggageHallModel" "line" "I" ∈ wz := wz_mem (i := 462) (by decide +kernel) (by decide +kernel)
theorem kf_X6_91 : Cond.fieldLink RX6 91 "BaggageHallModel" "done" "I" ∈ wz := wz_mem (i := 463) (by decide +kernel) (by decide +kernel)
theorem kf_X6_127 : Cond.fieldLink RX6 127 "BaggageHallModel" "failure" "I" ∈ wz := wz_mem (i := 464) (by decide +kernel) (by decide +kernel)
theorem kf_X6_94 : Cond.fieldLink RX6 94 "BaggageHallModel" "failedBy" "I" ∈ wz := wz_mem (i := 465) (by decide +kernel) (by decide +kernel)
theorem kf_X6_97 : Cond.fieldLink RX6 97 "BaggageHallModel" "failedAt" "I" ∈ wz := wz_mem (i := 466) (by decide +kernel) (by decide +kernel)
theorem kf_X6_100 : Cond.fieldLink RX6 100 "BaggageHallModel" "raised" "I" ∈ wz := wz_mem (i := 467) (by decide +kernel) (by decide +kernel)
theorem kf_X6_103 : Cond.fieldLink RX6 103 "BaggageHallModel" "guarded" "I" ∈ wz := wz_mem (i := 468) (by decide +kernel) (by decide +kernel)
theorem kf_X6_77 : Cond.fieldLink RX6 77 "BaggageHallModel" "caught" "[I" ∈ wz := wz_mem (i := 469) (by decide +kernel) (by decide +kernel)
theorem km_L_17 : Cond.methodLink RL 17 yX6_act ∈ wz := wz_mem (i := 537) (by decide +kernel) (by decide +kernel)
theorem ki_X6_act : Cond.instanceMethod yX6_act ∈ wz := wz_mem (i := 538) (by decide +kernel) (by decide +kernel)
theorem ks_X6_act : Cond.selects RX6 yX6_act yX6_act ∈ wz := wz_mem (i := 539) (by decide +kernel) (by decide +kernel)
theorem kc_X6_act : Cond.code yX6_act cX6_act 5 (some .int) ∈ wz := wz_mem (i := 540) (by decide +kernel) (by decide +kernel)
theorem km_X6_117 : Cond.methodLink RX6 117 yX6_isRight ∈ wz := wz_mem (i := 541) (by decide +kernel) (by decide +kernel)
theorem kt_X6_isRight : Cond.static yX6_isRight ∈ wz := wz_mem (i := 542) (by decide +kernel) (by decide +kernel)
theorem kc_X6_isRight : Cond.code yX6_isRight cX6_isRight 4 (some .boolean) ∈ wz := wz_mem (i := 543) (by decide +kernel) (by decide +kernel)
theorem km_X6_110 : Cond.methodLink RX6 110 yX6_isPlace ∈ wz := wz_mem (i := 544) (by decide +kernel) (by decide +kernel)
theorem kt_X6_isPlace : Cond.static yX6_isPlace ∈ wz := wz_mem (i := 545) (by decide +kernel) (by decide +kernel)
theorem kc_X6_isPlace : Cond.code yX6_isPlace cX6_isPlace 1 (some .boolean) ∈ wz := wz_mem (i := 546) (by decide +kernel) (by decide +kernel)
theorem km_X6_106 : Cond.methodLink RX6 106 yX6_in ∈ wz := wz_mem (i := 547) (by decide +kernel) (by decide +kernel)
theorem kt_X6_in : Cond.static yX6_in ∈ wz := wz_mem (i := 548) (by decide +kernel) (by decide +kernel)
theorem kc_X6_in : Cond.code yX6_in cX6_in 3 (some .boolean) ∈ wz := wz_mem (i := 549) (by decide +kernel) (by decide +kernel)
theorem km_X6_114 : Cond.methodLink RX6 114 yX6_isRegister ∈ wz := wz_mem (i := 550) (by decide +kernel) (by decide +kernel)
theorem kt_X6_isRegister : Cond.static yX6_isRegister ∈ wz := wz_mem (i := 551) (by decide +kernel) (by decide +kernel)
theorem kc_X6_isRegister : Cond.code yX6_isRegister cX6_isRegister 1 (some .boolean) ∈ wz := wz_mem (i := 552) (by decide +kernel) (by decide +kernel)
theorem km_L_21 : Cond.methodLink RL 21 yX6_guard ∈ wz := wz_mem (i := 553) (by decide +kernel) (by decide +kernel)
theorem ki_X6_guard : Cond.instanceMethod yX6_guard ∈ wz := wz_mem (i := 554) (by decide +kernel) (by decide +kernel)
theorem ks_X6_guard : Cond.selects RX6 yX6_guard yX6_guard ∈ wz := wz_mem (i := 555) (by decide +kernel) (by decide +kernel)
theorem kc_X6_guard : Cond.code yX6_guard cX6_guard 5 (some .int) ∈ wz := wz_mem (i := 556) (by decide +kernel) (by decide +kernel)
theorem km_L_26 : Cond.methodLink RL 26 yX6_clear ∈ wz := wz_mem (i := 557) (by decide +kernel) (by decide +kernel)
theorem ki_X6_clear : Cond.instanceMethod yX6_clear ∈ wz := wz_mem (i := 558) (by decide +kernel) (by decide +kernel)
theorem ks_X6_clear : Cond.selects RX6 yX6_clear yX6_clear ∈ wz := wz_mem (i := 559) (by decide +kernel) (by decide +kernel)
theorem kc_X6_clear : Cond.code yX6_clear cX6_clear 2 (some .int) ∈ wz := wz_mem (i := 560) (by decide +kernel) (by decide +kernel)
theorem km_L_31 : Cond.methodLink RL 31 yX6_run ∈ wz := wz_mem (i := 561) (by decide +kernel) (by decide +kernel)
theorem ki_X6_run : Cond.instanceMethod yX6_run ∈ wz := wz_mem (i := 562) (by decide +kernel) (by decide +kernel)
theorem ks_X6_run : Cond.selects RX6 yX6_run yX6_run ∈ wz := wz_mem (i := 563) (by decide +kernel) (by decide +kernel)
theorem kc_X6_run : Cond.code yX6_run cX6_run 3 (some .int) ∈ wz := wz_mem (i := 564) (by decide +kernel) (by decide +kernel)
theorem km_X6_169 : Cond.methodLink RX6 169 yX6_goOn ∈ wz := wz_mem (i := 565) (by decide +kernel) (by decide +kernel)
theorem ki_X6_goOn : Cond.instanceMethod yX6_goOn ∈ wz := wz_mem (i := 567) (by decide +kernel) (by decide +kernel)
theorem kc_X6_goOn : Cond.code yX6_goOn cX6_goOn 6 none ∈ wz := wz_mem (i := 568) (by decide +kernel) (by decide +kernel)
theorem km_X6_152 : Cond.methodLink RX6 152 yX6_belts ∈ wz := wz_mem (i := 569) (by decide +kernel) (by decide +kernel)
theorem ki_X6_belts : Cond.instanceMethod yX6_belts ∈ wz := wz_mem (i := 571) (by decide +kernel) (by decide +kernel)
theorem kc_X6_belts : Cond.code yX6_belts cX6_belts 8 none ∈ wz := wz_mem (i := 572) (by decide +kernel) (by decide +kernel)
theorem km_X6_130 : Cond.methodLink RX6 130 yX6_isSize ∈ wz := wz_mem (i := 573) (by decide +kernel) (by decide +kernel)
theorem ki_X6_isSize : Cond.instanceMethod yX6_isSize ∈ wz := wz_mem (i := 575) (by decide +kernel) (by decide +kernel)
theorem kc_X6_isSize : Cond.code yX6_isSize cX6_isSize 2 (some .boolean) ∈ wz := wz_mem (i := 576) (by decide +kernel) (by decide +kernel)
theorem km_X6_133 : Cond.methodLink RX6 133 yX6_isThere ∈ wz := wz_mem (i := 577) (by decide +kernel) (by decide +kernel)
theorem ki_X6_isThere : Cond.instanceMethod yX6_isThere ∈ wz := wz_mem (i := 579) (by decide +kernel) (by decide +kernel)
theorem kc_X6_isThere : Cond.code yX6_isThere cX6_isThere 2 (some .boolean) ∈ wz := wz_mem (i := 580) (by decide +kernel) (by decide +kernel)
theorem km_X6_137 : Cond.methodLink RX6 137 yX6_isIndex ∈ wz := wz_mem (i := 581) (by decide +kernel) (by decide +kernel)
theorem ki_X6_isIndex : Cond.instanceMethod yX6_isIndex ∈ wz := wz_mem (i := 583) (by decide +kernel) (by decide +kernel)
theorem kc_X6_isIndex : Cond.code yX6_isIndex cX6_isIndex 3 (some .boolean) ∈ wz := wz_mem (i := 584) (by decide +kernel) (by decide +kernel)
theorem km_X6_141 : Cond.methodLink RX6 141 yX6_isOf ∈ wz := wz_mem (i := 585) (by decide +kernel) (by decide +kernel)
theorem kt_X6_isOf : Cond.static yX6_isOf ∈ wz := wz_mem (i := 586) (by decide +kernel) (by decide +kernel)
theorem kc_X6_isOf : Cond.code yX6_isOf cX6_isOf 2 (some .boolean) ∈ wz := wz_mem (i := 587) (by decide +kernel) (by decide +kernel)
theorem km_X6_156 : Cond.methodLink RX6 156 yX6_one ∈ wz := wz_mem (i := 588) (by decide +kernel) (by decide +kernel)
theorem ki_X6_one : Cond.instanceMethod yX6_one ∈ wz := wz_mem (i := 590) (by decide +kernel) (by decide +kernel)
theorem kc_X6_one : Cond.code yX6_one cX6_one 5 none ∈ wz := wz_mem (i := 591) (by decide +kernel) (by decide +kernel)
theorem km_X6_144 : Cond.methodLink RX6 144 yX6_stamped ∈ wz := wz_mem (i := 592) (by decide +kernel) (by decide +kernel)
theorem ki_X6_stamped : Cond.instanceMethod yX6_stamped ∈ wz := wz_mem (i := 594) (by decide +kernel) (by decide +kernel)
theorem kc_X6_stamped : Cond.code yX6_stamped cX6_stamped 3 (some .int) ∈ wz := wz_mem (i := 595) (by decide +kernel) (by decide +kernel)
theorem km_X6_148 : Cond.methodLink RX6 148 yX6_feed ∈ wz := wz_mem (i := 596) (by decide +kernel) (by decide +kernel)
theorem ki_X6_feed : Cond.instanceMethod yX6_feed ∈ wz := wz_mem (i := 598) (by decide +kernel) (by decide +kernel)
theorem kc_X6_feed : Cond.code yX6_feed cX6_feed 3 none ∈ wz := wz_mem (i := 599) (by decide +kernel) (by decide +kernel)
theorem km_X6_160 : Cond.methodLink RX6 160 yX6_counts ∈ wz := wz_mem (i := 600) (by decide +kernel) (by decide +kernel)
theorem ki_X6_counts : Cond.instanceMethod yX6_counts ∈ wz := wz_mem (i := 602) (by decide +kernel) (by decide +kernel)
theorem kc_X6_counts : Cond.code yX6_counts cX6_counts 7 none ∈ wz := wz_mem (i := 603) (by decide +kernel) (by decide +kernel)
theorem km_X6_163 : Cond.methodLink RX6 163 yX6_rest ∈ wz := wz_mem (i := 604) (by decide +kernel) (by decide +kernel)
theorem ki_X6_rest : Cond.instanceMethod yX6_rest ∈ wz := wz_mem (i := 606) (by decide +kernel) (by decide +kernel)
theorem kc_X6_rest : Cond.code yX6_rest cX6_rest 5 none ∈ wz := wz_mem (i := 607) (by decide +kernel) (by decide +kernel)
theorem km_X6_166 : Cond.methodLink RX6 166 yX6_fails ∈ wz := wz_mem (i := 608) (by decide +kernel) (by decide +kernel)
theorem ki_X6_fails : Cond.instanceMethod yX6_fails ∈ wz := wz_mem (i := 610) (by decide +kernel) (by decide +kernel)
theorem kc_X6_fails : Cond.code yX6_fails cX6_fails 3 none ∈ wz := wz_mem (i := 611) (by decide +kernel) (by decide +kernel)
theorem km_L_36 : Cond.methodLink RL 36 yX6_told ∈ wz := wz_mem (i := 612) (by decide +kernel) (by decide +kernel)
theorem ki_X6_told : Cond.instanceMethod yX6_told ∈ wz := wz_mem (i := 613) (by decide +kernel) (by decide +kernel)
theorem ks_X6_told : Cond.selects RX6 yX6_told yX6_told ∈ wz := wz_mem (i := 614) (by decide +kernel) (by decide +kernel)
theorem kc_X6_told : Cond.code yX6_told cX6_told 2 (some .int) ∈ wz := wz_mem (i := 615) (by decide +kernel) (by decide +kernel)
theorem km_L_40 : Cond.methodLink RL 40 yX6_caught ∈ wz := wz_mem (i := 616) (by decide +kernel) (by decide +kernel)
theorem ki_X6_caught : Cond.instanceMethod yX6_caught ∈ wz := wz_mem (i := 617) (by decide +kernel) (by decide +kernel)
theorem ks_X6_caught : Cond.selects RX6 yX6_caught yX6_caught ∈ wz := wz_mem (i := 618) (by decide +kernel) (by decide +kernel)
theorem kc_X6_caught : Cond.code yX6_caught cX6_caught 2 (some .int) ∈ wz := wz_mem (i := 619) (by decide +kernel) (by decide +kernel)
theorem km_L_44 : Cond.methodLink RL 44 yX6_register ∈ wz := wz_mem (i := 620) (by decide +kernel) (by decide +kernel)
theorem ki_X6_register : Cond.instanceMethod yX6_register ∈ wz := wz_mem (i := 621) (by decide +kernel) (by decide +kernel)
theorem ks_X6_register : Cond.selects RX6 yX6_register yX6_register ∈ wz := wz_mem (i := 622) (by decide +kernel) (by decide +kernel)
theorem kc_X6_register : Cond.code yX6_register cX6_register 2 (some .int) ∈ wz := wz_mem (i := 623) (by decide +kernel) (by decide +kernel)
theorem km_L_48 : Cond.methodLink RL 48 yX6_item ∈ wz := wz_mem (i := 624) (by decide +kernel) (by decide +kernel)
theorem ki_X6_item : Cond.instanceMethod yX6_item ∈ wz := wz_mem (i := 625) (by decide +kernel) (by decide +kernel)
theorem ks_X6_item : Cond.selects RX6 yX6_item yX6_item ∈ wz := wz_mem (i := 626) (by decide +kernel) (by decide +kernel)
theorem kc_X6_item : Cond.code yX6_item cX6_item 5 (some .int) ∈ wz := wz_mem (i := 627) (by decide +kernel) (by decide +kernel)
theorem km_L_52 : Cond.methodLink RL 52 yX6_row ∈ wz := wz_mem (i := 628) (by decide +kernel) (by decide +kernel)
theorem ki_X6_row : Cond.instanceMethod yX6_row ∈ wz := wz_mem (i := 629) (by decide +kernel) (by decide +kernel)
theorem ks_X6_row : Cond.selects RX6 yX6_row yX6_row ∈ wz := wz_mem (i := 630) (by decide +kernel) (by decide +kernel)
theorem kc_X6_row : Cond.code yX6_row cX6_row 3 (some .int) ∈ wz := wz_mem (i := 631) (by decide +kernel) (by decide +kernel)
theorem km_L_56 : Cond.methodLink RL 56 yX6_onBelt ∈ wz := wz_mem (i := 632) (by decide +kernel) (by decide +kernel)
theorem ki_X6_onBelt : Cond.instanceMethod yX6_onBelt ∈ wz := wz_mem (i := 633) (by decide +kernel) (by decide +kernel)
theorem ks_X6_onBelt : Cond.selects RX6 yX6_onBelt yX6_onBelt ∈ wz := wz_mem (i := 634) (by decide +kernel) (by decide +kernel)
theorem kc_X6_onBelt : Cond.code yX6_onBelt cX6_onBelt 4 (some .int) ∈ wz := wz_mem (i := 635) (by decide +kernel) (by decide +kernel)
theorem km_L_60 : Cond.methodLink RL 60 yX6_counted ∈ wz := wz_mem (i := 636) (by decide +kernel) (by decide +kernel)
theorem ki_X6_counted : Cond.instanceMethod yX6_counted ∈ wz := wz_mem (i := 637) (by decide +kernel) (by decide +kernel)
theorem ks_X6_counted : Cond.selects RX6 yX6_counted yX6_counted ∈ wz := wz_mem (i := 638) (by decide +kernel) (by decide +kernel)
theorem kc_X6_counted : Cond.code yX6_counted cX6_counted 3 (some .int) ∈ wz := wz_mem (i := 639) (by decide +kernel) (by decide +kernel)
theorem ks_X5_nextLine : Cond.selects RX5 yX5_nextLine yX5_nextLine ∈ wz := wz_mem (i := 0) (by decide +kernel) (by decide +kernel)
theorem ks_X0_placeAct : Cond.selects RX0 yX0_placeAct yX0_placeAct ∈ wz := wz_mem (i := 1) (by decide +kernel) (by decide +kernel)
theorem ks_X0_beltAct : Cond.selects RX0 yX0_beltAct yX0_beltAct ∈ wz := wz_mem (i := 2) (by decide +kernel) (by decide +kernel)
theorem ks_X0_lay : Cond.selects RX0 yX0_lay yX0_lay ∈ wz := wz_mem (i := 3) (by decide +kernel) (by decide +kernel)
theorem ks_X0_pick : Cond.selects RX0 yX0_pick yX0_pick ∈ wz := wz_mem (i := 4) (by decide +kernel) (by decide +kernel)
theorem ks_X0_measure : Cond.selects RX0 yX0_measure yX0_measure ∈ wz := wz_mem (i := 5) (by decide +kernel) (by decide +kernel)
theorem ks_X0_askItem : Cond.selects RX0 yX0_askItem yX0_askItem ∈ wz := wz_mem (i := 6) (by decide +kernel) (by decide +kernel)
theorem ks_X0_load : Cond.selects RX0 yX0_load yX0_load ∈ wz := wz_mem (i := 7) (by decide +kernel) (by decide +kernel)
theorem ks_X0_asKind : Cond.selects RX0 yX0_asKind yX0_asKind ∈ wz := wz_mem (i := 8) (by decide +kernel) (by decide +kernel)
theorem ks_X0_counterAct : Cond.selects RX0 yX0_counterAct yX0_counterAct ∈ wz := wz_mem (i := 9) (by decide +kernel) (by decide +kernel)
theorem ks_X0_count : Cond.selects RX0 yX0_count yX0_count ∈ wz := wz_mem (i := 10) (by decide +kernel) (by decide +kernel)
theorem ks_X0_readCount : Cond.selects RX0 yX0_readCount yX0_readCount ∈ wz := wz_mem (i := 11) (by decide +kernel) (by decide +kernel)
theorem ks_X0_newGrid : Cond.selects RX0 yX0_newGrid yX0_newGrid ∈ wz := wz_mem (i := 12) (by decide +kernel) (by decide +kernel)
theorem ks_X0_sumGrid : Cond.selects RX0 yX0_sumGrid yX0_sumGrid ∈ wz := wz_mem (i := 13) (by decide +kernel) (by decide +kernel)
theorem ks_X0_alarmAct : Cond.selects RX0 yX0_alarmAct yX0_alarmAct ∈ wz := wz_mem (i := 14) (by decide +kernel) (by decide +kernel)
theorem ks_X6_begin : Cond.selects RX6 yX6_begin yX6_begin ∈ wz := wz_mem (i := 15) (by decide +kernel) (by decide +kernel)
theorem ks_X6_goOn : Cond.selects RX6 yX6_goOn yX6_goOn ∈ wz := wz_mem (i := 16) (by decide +kernel) (by decide +kernel)
theorem ks_X6_belts : Cond.selects RX6 yX6_belts yX6_belts ∈ wz := wz_mem (i := 17) (by decide +kernel) (by decide +kernel)
theorem ks_X6_isSize : Cond.selects RX6 yX6_isSize yX6_isSize ∈ wz := wz_mem (i := 18) (by decide +kernel) (by decide +kernel)
theorem ks_X6_isThere : Cond.selects RX6 yX6_isThere yX6_isThere ∈ wz := wz_mem (i := 19) (by decide +kernel) (by decide +kernel)
theorem ks_X6_isIndex : Cond.selects RX6 yX6_isIndex yX6_isIndex ∈ wz := wz_mem (i := 20) (by decide +kernel) (by decide +kernel)
theorem ks_X6_one : Cond.selects RX6 yX6_one yX6_one ∈ wz := wz_mem (i := 21) (by decide +kernel) (by decide +kernel)
theorem ks_X6_stamped : Cond.selects RX6 yX6_stamped yX6_stamped ∈ wz := wz_mem (i := 22) (by decide +kernel) (by decide +kernel)
theorem ks_X6_feed : Cond.selects RX6 yX6_feed yX6_feed ∈ wz := wz_mem (i := 23) (by decide +kernel) (by decide +kernel)
theorem ks_X6_counts : Cond.selects RX6 yX6_counts yX6_counts ∈ wz := wz_mem (i := 24) (by decide +kernel) (by decide +kernel)
theorem ks_X6_rest : Cond.selects RX6 yX6_rest yX6_rest ∈ wz := wz_mem (i := 25) (by decide +kernel) (by decide +kernel)
theorem ks_X6_fails : Cond.selects RX6 yX6_fails yX6_fails ∈ wz := wz_mem (i := 26) (by decide +kernel) (by decide +kernel)
end
section
theorem wz_in {ws : List Cond} (ps : List Nat) (hp : ws = ps.filterMap (fun i => lw_tbl[i]?)) (h : ws.all goodWord = true) : ∀ w ∈ ws, w ∈ wz := by
  intro w hw
  have h1 := List.all_eq_true.mp h w hw
  rw [hp] at hw
  obtain ⟨i, -, hi⟩ := List.mem_filterMap.mp hw
  exact wz_mem hi h1
theorem inX0 : ∀ w ∈ wsX00, w ∈ wz := wz_in [167, 169, 171, 173, 175, 177, 179, 181, 183] (by decide +kernel) (by decide +kernel)
theorem inX1 : ∀ w ∈ wsX10, w ∈ wz := wz_in [110, 112, 114, 116] (by decide +kernel) (by decide +kernel)
theorem inX2 : ∀ w ∈ wsX20, w ∈ wz := wz_in [66, 68, 70, 72, 74, 76, 78, 80, 82, 84] (by decide +kernel) (by decide +kernel)
theorem inX3 : ∀ w ∈ wsX30, w ∈ wz := wz_in [204, 206, 208, 210, 212, 214] (by decide +kernel) (by decide +kernel)
theorem inX4 : ∀ w ∈ wsX40, w ∈ wz := wz_in [135, 137, 139] (by decide +kernel) (by decide +kernel)
theorem inX5 : ∀ w ∈ wsX50, w ∈ wz := wz_in [220, 222, 224] (by decide +kernel) (by decide +kernel)
theorem inX6 : ∀ w ∈ wsX60, w ∈ wz := wz_in [470, 472, 474, 476, 478, 480, 482, 484, 486, 488, 490, 492, 494, 496, 498, 500, 502, 504, 506, 508, 510, 512, 514, 516, 518, 520, 522, 524, 526, 528, 530, 532, 534] (by decide +kernel) (by decide +kernel)
def nests4 : List (String × Nat × MethodName × String) := [(RX5, 9, yX2_init, RX5), (RX0, 20, yX1_init, RX5), (RX0, 47, yX4_init, RX5), (RX5, 25, yX3_init, RX5), (RX2, 43, yX5_isBelow, RX5), (RX4, 22, yX5_sizeFailure, RX5), (RX1, 25, yX5_isBelow, RX5), (RX0, 121, yX5_isOf, RX5), (RX0, 154, yX5_sizeFailure, RX5)]
/-- the links of nest mates: they stay good too, by a rule of their own -/
def nests : List Cond := nests4.map (fun q => Cond.methodLinkNest q.1 q.2.1 q.2.2.1 q.2.2.2)
def NN (U : State) : Prop := ∀ w ∈ nests, va_Nw w U
theorem NN.warm {s U : State} (hW : s.WarmedH U.vm) (h : NN s) : NN U := by
  intro w hw
  obtain ⟨q, hq, rfl⟩ := List.mem_map.mp hw
  exact va_Nw.warmM hW (h _ hw)
theorem NN.same {u U : State} (e : u.vm = U.vm) (h : NN u) : NN U := by
  intro w hw
  obtain ⟨q, hq, rfl⟩ := List.mem_map.mp hw
  exact va_Nw.same rfl e (h _ hw)
theorem nn_X5_9 : Cond.methodLinkNest RX5 9 yX2_init RX5 ∈ nests := List.mem_map.mpr ⟨(RX5, 9, yX2_init, RX5), by simp [nests4], rfl⟩
theorem nn_X0_20 : Cond.methodLinkNest RX0 20 yX1_init RX5 ∈ nests := List.mem_map.mpr ⟨(RX0, 20, yX1_init, RX5), by simp [nests4], rfl⟩
theorem nn_X0_47 : Cond.methodLinkNest RX0 47 yX4_init RX5 ∈ nests := List.mem_map.mpr ⟨(RX0, 47, yX4_init, RX5), by simp [nests4], rfl⟩
theorem nn_X5_25 : Cond.methodLinkNest RX5 25 yX3_init RX5 ∈ nests := List.mem_map.mpr ⟨(RX5, 25, yX3_init, RX5), by simp [nests4], rfl⟩
theorem nn_X2_43 : Cond.methodLinkNest RX2 43 yX5_isBelow RX5 ∈ nests := List.mem_map.mpr ⟨(RX2, 43, yX5_isBelow, RX5), by simp [nests4], rfl⟩
theorem nn_X4_22 : Cond.methodLinkNest RX4 22 yX5_sizeFailure RX5 ∈ nests := List.mem_map.mpr ⟨(RX4, 22, yX5_sizeFailure, RX5), by simp [nests4], rfl⟩
theorem nn_X1_25 : Cond.methodLinkNest RX1 25 yX5_isBelow RX5 ∈ nests := List.mem_map.mpr ⟨(RX1, 25, yX5_isBelow, RX5), by simp [nests4], rfl⟩
theorem nn_X0_121 : Cond.methodLinkNest RX0 121 yX5_isOf RX5 ∈ nests := List.mem_map.mpr ⟨(RX0, 121, yX5_isOf, RX5), by simp [nests4], rfl⟩
theorem nn_X0_154 : Cond.methodLinkNest RX0 154 yX5_sizeFailure RX5 ∈ nests := List.mem_map.mpr ⟨(RX0, 154, yX5_sizeFailure, RX5), by simp [nests4], rfl⟩
abbrev CY : Type := ClassId × ClassId × ClassId
def KK (D : va_G) (cy : CY) (U : State) : Prop := va_K D vwCl [(cy.1, .int), (cy.2.1, .boolean), (cy.2.2, .object RX4)] U ∧ NN U
theorem KK.warm {D : va_G} {cy : CY} {s U : State} (hW : s.WarmedH U.vm) (h : KK D cy s) : KK D cy U := ⟨va_K.moved hW.alike h.1, h.2.warm hW⟩
theorem KK.calling {D : va_G} {cy : CY} {U : State} {g : JFrame} {mk : MethodId} {a : Array Value} (h : KK D cy U) : KK D cy (U.calling g mk a) := ⟨va_K.moved (u := U) (U := U.calling g mk a) (Vm.Alike.refl U.vm) h.1, NN.same (u := U) (U := U.calling g mk a) rfl h.2⟩
/-- a state: rows of numbers, by their keys -/
abbrev GS : Type := Nat → Nat → Int32
def st (σ : GS) (k i : Nat) (v : Int32) : GS := va_up σ k (upd (σ k) i v)
/-- the cells of a world stand in the heap, apart, in A; since H0 nothing outside A has changed -/
def WH (D : va_G) (A : Nat → Prop) (H0 H : Heap) (locs : List Loc) (w : va_W) : Prop := va_P D vwCl w H ∧ va_D A w ∧ va_S A H0 H locs
/-- a method's start and its ends -/
def PC (D : va_G) (cy : CY) (w : va_W) (A : Nat → Prop) (av : List Value) : Array Value → State → Prop := va_Pc av (fun U => KK D cy U ∧ va_P D vwCl w U.heap ∧ va_D A w)
def QI (D : va_G) (w : va_W) (A : Nat → Prop) (r : Int32) : Array Value → State → Outcome → State → Prop := fun _ st oc t => oc = .returned (some (.int r)) ∧ va_P D vwCl w t.heap ∧ va_D A w ∧ va_F A st t
def QV (D : va_G) (w : va_W) (A : Nat → Prop) : Array Value → State → Outcome → State → Prop := fun _ st oc t => oc = .returned none ∧ va_P D vwCl w t.heap ∧ va_D A w ∧ va_F A st t
def PS (av : List Value) : Array Value → State → Prop := va_Pc av (fun U => NN U)
def QS (r : Int32) : Array Value → State → Outcome → State → Prop := fun _ st oc t => oc = .returned (some (.int r)) ∧ t.heap = st.heap
abbrev bd {α : Type} (x : Int32 × GS) (k : Int32 → GS → α) : α := k x.1 x.2
section GEN
variable {p : Program} {l : Launch} {e : Env} {R : Room} {s : State} {m : MethodId} {args : Array Value} {below : List Frame} {meth : Method} {c : Code} {H : Heap} {locs : List Loc} {cells slots : Nat} {Q : State → Prop}
variable {cc : ByteArray} {pc : Nat} {ls : Array Slot} {rest st0 : List Value} {D : va_G} {cy : CY} {A : Nat → Prop} {H0 : Heap} {nL : Nat} {own : String} {Ts : List Cond} {w w' : va_W}
variable {y : MethodName} {b : ByteArray} {maxL index n : Nat} {ret : Option FieldType} {rm : Room} {C : String} {As : List Value} {a : Nat} {r : Int32}
theorem g_ts (S : CallFix p m c cc nL s args (wm y b maxL ret) own) {w : Cond} (h : w ∈ wz) : w.before args s = true := S.2.2.2.2 w (List.mem_cons_of_mem _ h)
/-- behind a call over the caller's own world, an int answer -/
theorem g_backi (hr : va_Run p l e R s m args below meth c H locs cells slots 0 0 (F0 m pc ls st0) rest (QI D w' A r (Value.ref a :: As).toArray) A) (h : WH D A H0 H locs w) (kk : ∀ (H1 : Heap) (locs1 : List Loc), WH D A H0 H1 locs1 w' → W p l e R s m args below meth c H1 locs1 cells slots Q (F0 m (pc + 3) ls (.int r :: rest))) : W p l e R s m args below meth c H locs cells slots Q (F0 m pc ls st0) := by
  intro T hT X
  obtain ⟨v, st₀, t, T', L, h0, X', hL, e1, e2, ⟨hv, hp, hd, hz, hk⟩, sg⟩ := hr T hT X
  cases hv
  rw [h0] at hz hk
  obtain ⟨t2, a1, b1⟩ := kk T'.heap (locs ++ L) ⟨by rw [e1]; exact hp, hd, Nat.le_trans h.2.2.1 (by rw [e1]; exact hz), fun q h1 h2 => by rw [e1, hk q (Nat.lt_of_lt_of_le h1 h.2.2.1) h2]; exact h.2.2.2.1 q h1 h2, fun q hq => by
      rcases List.mem_append.mp hq with g | g
      · exact h.2.2.2.2 q g
      · exact hL q g⟩ T' rfl X'
  exact ⟨t2, sg t2 a1, b1⟩
theorem g_backv (hr : va_Run p l e R s m args below meth c H locs cells slots 0 0 (F0 m pc ls st0) rest (QV D w' A (Value.ref a :: As).toArray) A) (h : WH D A H0 H locs w) (kk : ∀ (H1 : Heap) (locs1 : List Loc), WH D A H0 H1 locs1 w' → W p l e R s m args below meth c H1 locs1 cells slots Q (F0 m (pc + 3) ls rest)) : W p l e R s m args below meth c H locs cells slots Q (F0 m pc ls st0) := by
  intro T hT X
  obtain ⟨v, st₀, t, T', L, h0, X', hL, e1, e2, ⟨hv, hp, hd, hz, hk⟩, sg⟩ := hr T hT X
  cases hv
  rw [h0] at hz hk
  obtain ⟨t2, a1, b1⟩ := kk T'.heap (locs ++ L) ⟨by rw [e1]; exact hp, hd, Nat.le_trans h.2.2.1 (by rw [e1]; exact hz), fun q h1 h2 => by rw [e1, hk q (Nat.lt_of_lt_of_le h1 h.2.2.1) h2]; exact h.2.2.2.1 q h1 h2, fun q hq => by
      rcases List.mem_append.mp hq with g | g
      · exact h.2.2.2.2 q g
      · exact hL q g⟩ T' rfl X'
  exact ⟨t2, sg t2 a1, b1⟩
theorem g_preV (K : KK D cy s) (h : WH D A H0 H locs w) {ci q0 : Nat} {q : vw_C} {fs : List Value} (hc : vwCl[ci]? = some q) (he : w[q0]? = some (a, .inr (ci, fs))) : PreV s H q.1 a (PC D cy w A (.ref a :: As)) As :=
  ⟨fun _ _ _ _ z => ⟨z.1, z.2.1.calling, z.2.2⟩, va_recv K.1 h.1 hc he, fun U hU hW => ⟨rfl, K.warm hW, by rw [hU]; exact h.1, h.2.1⟩⟩
theorem g_cw (S : CallFix p m c cc nL s args Ts own) (hT : ∀ w ∈ wz, w ∈ Ts) (kc : Cond.code y b maxL ret ∈ wz) (km : Cond.methodLink own index y ∈ wz) (ki : Cond.instanceMethod y ∈ wz) (ks : Cond.selects C y y ∈ wz) (kn : Cond.initialized C ∈ wz) (hd : y.cls = C ∧ y.cls ≠ "java/lang/invoke/MethodHandle" ∧ y.cls ≠ "java/lang/invoke/VarHandle" ∧ (parseMethodDescriptor y.desc).map (fun d => d.parameters.length) = some n) (hR : rm.frames + 1 ≤ R.frames ∧ 8 + (maxL + 11) + rm.locals ≤ R.locals) (hc : rm.cells = 0) (hs : rm.slots = 0) : CallW R s args own C index y b maxL ret (wm y b maxL ret) rm 0 0 n := by
  refine cwV n S.2.2.2.2 ?_ rfl hc hs hd hR
  intro x hx
  rcases List.mem_append.mp hx with h | h
  · have : x ∈ wz := by
      simp only [List.mem_cons, List.not_mem_nil, or_false] at h
      rcases h with rfl | rfl | rfl | rfl <;> assumption
    exact ⟨hT _ this, (wz_good _ this).2⟩
  · exact wm_good kc hT x h
/-- a call of a method of the world, an int answer -/
theorem g_calli (S : CallFix p m c cc nL s args Ts own) (hT : ∀ w ∈ wz, w ∈ Ts) (K : KK D cy s) (h : WH D A H0 H locs w) (hM : Met l y (wm y b maxL ret) rm (PC D cy w A (.ref a :: As)) (QI D w' A r) 0 0 A) (kc : Cond.code y b maxL ret ∈ wz) (km : Cond.methodLink own index y ∈ wz) (ki : Cond.instanceMethod y ∈ wz) (ks : Cond.selects C y y ∈ wz) (kn : Cond.initialized C ∈ wz) (hd : y.cls = C ∧ y.cls ≠ "java/lang/invoke/MethodHandle" ∧ y.cls ≠ "java/lang/invoke/VarHandle" ∧ (parseMethodDescriptor y.desc).map (fun d => d.parameters.length) = some n)
    (hR : (rm.frames + 1 ≤ R.frames ∧ 8 + (maxL + 11) + rm.locals ≤ R.locals) ∧ rm.cells = 0 ∧ rm.slots = 0 ∧ cells ≤ R.cells ∧ slots ≤ R.slots) {ci q0 : Nat} {T : u_T} {N : Nat} {fs : List Value} (hc : vwCl[ci]? = some (C, T, N)) (he : w[q0]? = some (a, .inr (ci, fs))) (hn : As.length = n) (hsz : ls.size = nL) (hst : (rest.map fun v => v.category).sum ≤ 8) (hstack : st0 = As.reverse ++ .ref a :: rest) (hdg : decode cc pc = .ok (.invokevirtual index, 3))
    (kk : ∀ (H1 : Heap) (locs1 : List Loc), WH D A H0 H1 locs1 w' → W p l e R s m args below meth c H1 locs1 cells slots Q (F0 m (pc + 3) ls (.int r :: rest))) : W p l e R s m args below meth c H locs cells slots Q (F0 m pc ls st0) :=
  g_backi (va_runV (rest := rest) S hM (g_cw S hT kc km ki ks kn hd hR.1 hR.2.1 hR.2.2.1) (g_preV (q := (C, T, N)) K h hc he) rfl hn hsz hstack (lv_room hst) hdg ⟨hR.2.2.2.1, hR.2.2.2.2⟩) h kk
theorem g_callv (S : CallFix p m c cc nL s args Ts own) (hT : ∀ w ∈ wz, w ∈ Ts) (K : KK D cy s) (h : WH D A H0 H locs w) (hM : Met l y (wm y b maxL ret) rm (PC D cy w A (.ref a :: As)) (QV D w' A) 0 0 A) (kc : Cond.code y b maxL ret ∈ wz) (km : Cond.methodLink own index y ∈ wz) (ki : Cond.instanceMethod y ∈ wz) (ks : Cond.selects C y y ∈ wz) (kn : Cond.initialized C ∈ wz) (hd : y.cls = C ∧ y.cls ≠ "java/lang/invoke/MethodHandle" ∧ y.cls ≠ "java/lang/invoke/VarHandle" ∧ (parseMethodDescriptor y.desc).map (fun d => d.parameters.length) = some n)
    (hR : (rm.frames + 1 ≤ R.frames ∧ 8 + (maxL + 11) + rm.locals ≤ R.locals) ∧ rm.cells = 0 ∧ rm.slots = 0 ∧ cells ≤ R.cells ∧ slots ≤ R.slots) {ci q0 : Nat} {T : u_T} {N : Nat} {fs : List Value} (hc : vwCl[ci]? = some (C, T, N)) (he : w[q0]? = some (a, .inr (ci, fs))) (hn : As.length = n) (hsz : ls.size = nL) (hst : (rest.map fun v => v.category).sum ≤ 8) (hstack : st0 = As.reverse ++ .ref a :: rest) (hdg : decode cc pc = .ok (.invokevirtual index, 3))
    (kk : ∀ (H1 : Heap) (locs1 : List Loc), WH D A H0 H1 locs1 w' → W p l e R s m args below meth c H1 locs1 cells slots Q (F0 m (pc + 3) ls rest)) : W p l e R s m args below meth c H locs cells slots Q (F0 m pc ls st0) :=
  g_backv (va_runV (rest := rest) S hM (g_cw S hT kc km ki ks kn hd hR.1 hR.2.1 hR.2.2.1) (g_preV (q := (C, T, N)) K h hc he) rfl hn hsz hstack (lv_room hst) hdg ⟨hR.2.2.2.1, hR.2.2.2.2⟩) h kk
theorem g_backs (hr : va_Run p l e R s m args below meth c H locs cells slots 0 0 (F0 m pc ls st0) rest (QS r As.toArray) (fun _ => False)) (kk : W p l e R s m args below meth c H locs cells slots Q (F0 m (pc + 3) ls (.int r :: rest))) : W p l e R s m args below meth c H locs cells slots Q (F0 m pc ls st0) := by
  intro T hT X
  obtain ⟨v, st₀, t, T', L, h0, X', hL, e1, e2, ⟨hv, hh⟩, sg⟩ := hr T hT X
  cases hv
  obtain ⟨t2, a1, b1⟩ := kk T' (by rw [e1, hh, h0]) (Stand.forget X' (fun q h => (hL q h).elim))
  exact ⟨t2, sg t2 a1, b1⟩
theorem g_preS (N : NN s) : PreS s H (PS As) As := ⟨fun a U g mk z => ⟨z.1, NN.same (u := U) (U := U.calling g mk a) rfl z.2⟩, fun _ _ hW => ⟨rfl, N.warm hW⟩⟩
/-- a call of a static method that looks at its numbers alone -/
theorem g_calls (S : CallFix p m c cc nL s args Ts own) (hT : ∀ w ∈ wz, w ∈ Ts) (N : NN s) (hM : Met l y (wm y b maxL ret) rm (PS As) (QS r) 0 0 (fun _ => False)) (kc : Cond.code y b maxL ret ∈ wz) (km : Cond.methodLink own index y ∈ wz) (kt : Cond.static y ∈ wz) (kn : Cond.initialized y.cls ∈ wz) (hd : y.cls ≠ "java/lang/invoke/MethodHandle" ∧ y.cls ≠ "java/lang/invoke/VarHandle" ∧ (parseMethodDescriptor y.desc).map (fun d => d.parameters.length) = some n)
    (hR : (rm.frames + 1 ≤ R.frames ∧ 8 + (maxL + 11) + rm.locals ≤ R.locals) ∧ rm.cells = 0 ∧ rm.slots = 0 ∧ cells ≤ R.cells ∧ slots ≤ R.slots) (hn : As.length = n) (hsz : ls.size = nL) (hst : (rest.map fun v => v.category).sum ≤ 8) (hstack : st0 = As.reverse ++ rest) (hdg : decode cc pc = .ok (.invokestatic index, 3))
    (kk : W p l e R s m args below meth c H locs cells slots Q (F0 m (pc + 3) ls (.int r :: rest))) : W p l e R s m args below meth c H locs cells slots Q (F0 m pc ls st0) := by
  refine g_backs (va_runS (rest := rest) S hM (va_cwS n S.2.2.2.2 ?_ rfl hR.2.1 hR.2.2.1 hd hR.1) (g_preS N) rfl hn hsz hstack (lv_room hst) hdg ⟨hR.2.2.2.1, hR.2.2.2.2⟩) kk
  intro x hx
  rcases List.mem_append.mp hx with h | h
  · have : x ∈ wz := by
      simp only [List.mem_cons, List.not_mem_nil, or_false] at h
      rcases h with rfl | rfl | rfl <;> assumption
    exact ⟨hT _ this, (wz_good _ this).2⟩
  · exact wm_good kc hT x h
/-- .. of a nest mate -/
theorem g_callsN {host : String} (S : CallFix p m c cc nL s args Ts own) (hT : ∀ w ∈ wz, w ∈ Ts) (N : NN s) (hM : Met l y (wm y b maxL ret) rm (PS As) (QS r) 0 0 (fun _ => False)) (kc : Cond.code y b maxL ret ∈ wz) (km : Cond.methodLinkNest own index y host ∈ nests) (kt : Cond.static y ∈ wz) (kn : Cond.initialized y.cls ∈ wz) (hd : y.cls ≠ "java/lang/invoke/MethodHandle" ∧ y.cls ≠ "java/lang/invoke/VarHandle" ∧ (parseMethodDescriptor y.desc).map (fun d => d.parameters.length) = some n)
    (hR : (rm.frames + 1 ≤ R.frames ∧ 8 + (maxL + 11) + rm.locals ≤ R.locals) ∧ rm.cells = 0 ∧ rm.slots = 0 ∧ cells ≤ R.cells ∧ slots ≤ R.slots) (hn : As.length = n) (hsz : ls.size = nL) (hst : (rest.map fun v => v.category).sum ≤ 8) (hstack : st0 = As.reverse ++ rest) (hdg : decode cc pc = .ok (.invokestatic index, 3))
    (kk : W p l e R s m args below meth c H locs cells slots Q (F0 m (pc + 3) ls (.int r :: rest))) : W p l e R s m args below meth c H locs cells slots Q (F0 m pc ls st0) :=
  g_backs (va_runSN (rest := rest) S hM ⟨va_cnB n S.2.2.2.2 (wm_good kc hT) rfl hR.2.1 hR.2.2.1 (N _ km) (S.2.2.2.2 _ (hT _ kn)) hd hR.1, S.2.2.2.2 _ (hT _ kt), trivial⟩ (g_preS N) rfl hn hsz hstack (lv_room hst) hdg ⟨hR.2.2.2.1, hR.2.2.2.2⟩) kk
/-- a method's ends -/
theorem g_reti (S : CallFix p m c cc nL s args Ts own) (hr : meth.sig.returnType = some .int) (hlocks : meth.locks = false) (h : WH D A s.heap H locs w) (hdg : decode cc pc = .ok (.ireturn, 1)) : W p l e R s m args below meth c H locs cells slots (MQ below (QI D w A r) args s cells slots A) (F0 m pc ls [.int r]) :=
  W.iret S.1 S.2.1 hr (fun t ht _ => ⟨rfl, by rw [ht]; exact h.1, h.2.1, h.2.2.F ht⟩) h.2.2.2.2 hdg hlocks
theorem g_retz (S : CallFix p m c cc nL s args Ts own) (hr : meth.sig.returnType = some .boolean) (hlocks : meth.locks = false) (h : WH D A s.heap H locs w) (hn : narrow .boolean (.int r) = .int r) (hdg : decode cc pc = .ok (.ireturn, 1)) : W p l e R s m args below meth c H locs cells slots (MQ below (QI D w A r) args s cells slots A) (F0 m pc ls [.int r]) :=
  W.zret S.1 S.2.1 hr hn (fun t ht _ => ⟨rfl, by rw [ht]; exact h.1, h.2.1, h.2.2.F ht⟩) h.2.2.2.2 hdg hlocks
theorem g_retv (S : CallFix p m c cc nL s args Ts own) (hr : meth.sig.returnType = none) (hlocks : meth.locks = false) (h : WH D A s.heap H locs w) (hdg : decode cc pc = .ok (.return_, 1)) : W p l e R s m args below meth c H locs cells slots (MQ below (QV D w A) args s cells slots A) (F0 m pc ls []) :=
  W.vret S.1 S.2.1 hr (fun t ht _ => ⟨rfl, by rw [ht]; exact h.1, h.2.1, h.2.2.F ht⟩) h.2.2.2.2 hdg hlocks
theorem g_sreti (S : CallFix p m c cc nL s args Ts own) (hr : meth.sig.returnType = some .int) (hlocks : meth.locks = false) (hdg : decode cc pc = .ok (.ireturn, 1)) : W p l e R s m args below meth c s.heap [] cells slots (MQ below (QS r) args s cells slots (fun _ => False)) (F0 m pc ls [.int r]) :=
  W.iret S.1 S.2.1 hr (fun t ht _ => ⟨rfl, ht⟩) (fun _ h => by cases h) hdg hlocks
theorem g_sretz (S : CallFix p m c cc nL s args Ts own) (hr : meth.sig.returnType = some .boolean) (hlocks : meth.locks = false) (hn : narrow .boolean (.int r) = .int r) (hdg : decode cc pc = .ok (.ireturn, 1)) : W p l e R s m args below meth c s.heap [] cells slots (MQ below (QS r) args s cells slots (fun _ => False)) (F0 m pc ls [.int r]) :=
  W.zret S.1 S.2.1 hr hn (fun t ht _ => ⟨rfl, ht⟩) (fun _ h => by cases h) hdg hlocks
/-- a table switch: the number is one of the table's -/
theorem g_sw {dflt lo hi : Int} {offs : Array Int} {len : Nat} {x : Int32} {K : Int32} {k off : Int} {tgt : Nat} (hexec : p.tables.exec = Jvm.exec) (hb : c.code = cc) (hdg : decode cc pc = .ok (.tableswitch dflt lo hi offs, len)) (hx : x = K) (hk : K.toInt = k) (h1 : ¬ k < lo) (h2 : ¬ hi < k) (ho : offs[(k - lo).toNat]? = some off) (ht : (pc : Int) + off = (tgt : Int)) (kk : W p l e R s m args below meth c H locs cells slots Q (F0 m tgt ls rest)) : W p l e R s m args below meth c H locs cells slots Q (F0 m pc ls (.int x :: rest)) := by
  subst hx
  subst hk
  exact lv_tableIn hexec hb hdg h1 h2 ho ht kk
end GEN
/-- a method of a world, from its body -/
theorem g_met {l : Launch} {y : MethodName} {cc : ByteArray} {maxL : Nat} {ret : Option FieldType} {rm : Room} {D : va_G} {cy : CY} {w : va_W} {A : Nat → Prop} {av : List Value} {Qc : Array Value → State → Outcome → State → Prop} {lv : List (Nat × Value)} {own : String} (hy : plainName y.cls = true) (ho : y.cls = own) (hav : (lg_sl av).length ≤ maxL) (hlv : lv_args 0 av = lv)
    (body : ∀ (p : Program) (e : Env) (s : State) (m : MethodId) (below : List Frame) (meth : Method) (c : Code) (ls : Array Slot), CallFix p m c cc maxL s av.toArray (wm y cc maxL ret) own → KK D cy s → WH D A s.heap s.heap [] w → meth.sig.returnType = ret → meth.locks = false → lv_has ls maxL lv → W p l e rm s m av.toArray below meth c s.heap [] 0 0 (MQ below Qc av.toArray s 0 0 A) (F0 m 0 ls [])) : Met l y (wm y cc maxL ret) rm (PC D cy w A av) Qc 0 0 A := by
  refine Met.ofW (cc := cc) (maxL := maxL) (ret := ret) hy rfl ?_
  intro p e s m args below meth c s₁ B hml hv
  obtain ⟨rfl, K, hP, hD⟩ := hv
  rw [lg_entry_eq]
  subst hlv
  subst ho
  exact body p e s m below meth c _ ⟨B.exec, B.bytes, hml, findClass_of_methodNamed B.named, atoms_spec B.pre⟩ K ⟨hP, hD, va_S.rf⟩ B.returns B.notSynchronized (lv_entry av hav)
/-- a static method that looks at its numbers alone, from its body -/
theorem g_mets {l : Launch} {y : MethodName} {cc : ByteArray} {maxL : Nat} {ret : Option FieldType} {rm : Room} {av : List Value} {Qc : Array Value → State → Outcome → State → Prop} {lv : List (Nat × Value)} {own : String} (hy : plainName y.cls = true) (ho : y.cls = own) (hav : (lg_sl av).length ≤ maxL) (hlv : lv_args 0 av = lv)
    (body : ∀ (p : Program) (e : Env) (s : State) (m : MethodId) (below : List Frame) (meth : Method) (c : Code) (ls : Array Slot), CallFix p m c cc maxL s av.toArray (wm y cc maxL ret) own → NN s → meth.sig.returnType = ret → meth.locks = false → lv_has ls maxL lv → W p l e rm s m av.toArray below meth c s.heap [] 0 0 (MQ below Qc av.toArray s 0 0 (fun _ => False)) (F0 m 0 ls [])) : Met l y (wm y cc maxL ret) rm (PS av) Qc 0 0 (fun _ => False) := by
  refine Met.ofW (cc := cc) (maxL := maxL) (ret := ret) hy rfl ?_
  intro p e s m args below meth c s₁ B hml hv
  obtain ⟨rfl, N⟩ := hv
  rw [lg_entry_eq]
  subst hlv
  subst ho
  exact body p e s m below meth c _ ⟨B.exec, B.bytes, hml, findClass_of_methodNamed B.named, atoms_spec B.pre⟩ N B.returns B.notSynchronized (lv_entry av hav)
theorem wz_cons {c : Cond} : ∀ w ∈ wz, w ∈ c :: wz := fun _ h => List.mem_cons_of_mem _ h
end
section
/-- the hall: its object, its rows; belts are rows 0 to 3, counters rows 4 to 6 -/
def wH (cy : CY) (q : Nat → Nat) (σ : GS) : va_W := [
  (q 0, .inr (0, [.ref (q 1), .ref (q 2), .ref (q 9), .ref (q 7), .ref (q 8), .ref (q 3), .ref (q 4), .ref (q 5), .ref (q 6)])),
  (q 1, .inl (cy.1, 6, .inl (σ 1))),
  (q 2, .inl (cy.1, 8, .inl (σ 2))),
  (q 3, .inl (cy.1, 2, .inl (σ 3))),
  (q 4, .inl (cy.1, 2, .inl (σ 4))),
  (q 5, .inl (cy.2.1, 3, .inl (σ 5))),
  (q 6, .inl (cy.1, 3, .inl (σ 6))),
  (q 7, .inl (cy.2.2, 4, .inr (.inr (.inr (.inr (fun j => some (q (13 + j)))))))),
  (q 8, .inl (cy.2.2, 3, .inr (.inr (.inr (.inr (fun j => some (q (13 + (4 + j))))))))),
  (q 9, .inr (1, [.ref (q 10), .ref (q 11), .ref (q 12), .int (σ 9 0)])),
  (q 10, .inl (cy.1, 64, .inl (σ 10))),
  (q 11, .inl (cy.1, 64, .inl (σ 11))),
  (q 12, .inl (cy.1, 64, .inl (σ 12))),
  (q (13 + 0), .inr (4, [.int (σ 13 0), .int (σ 14 0), .ref (q (20 + 0))])),
  (q (13 + 1), .inr (4, [.int (σ 13 1), .int (σ 14 1), .ref (q (20 + 1))])),
  (q (13 + 2), .inr (4, [.int (σ 13 2), .int (σ 14 2), .ref (q (20 + 2))])),
  (q (13 + 3), .inr (4, [.int (σ 13 3), .int (σ 14 3), .ref (q (20 + 3))])),
  (q (13 + 4), .inr (4, [.int (σ 13 4), .int (σ 14 4), .ref (q (20 + 4))])),
  (q (13 + 5), .inr (4, [.int (σ 13 5), .int (σ 14 5), .ref (q (20 + 5))])),
  (q (13 + 6), .inr (4, [.int (σ 13 6), .int (σ 14 6), .ref (q (20 + 6))])),
  (q (20 + 0), .inl (cy.1, 8, .inl (σ (20 + 0)))),
  (q (20 + 1), .inl (cy.1, 8, .inl (σ (20 + 1)))),
  (q (20 + 2), .inl (cy.1, 8, .inl (σ (20 + 2)))),
  (q (20 + 3), .inl (cy.1, 8, .inl (σ (20 + 3)))),
  (q (20 + 4), .inl (cy.1, 8, .inl (σ (20 + 4)))),
  (q (20 + 5), .inl (cy.1, 8, .inl (σ (20 + 5)))),
  (q (20 + 6), .inl (cy.1, 8, .inl (σ (20 + 6))))]
/-- the object, its plan and report -/
def wE (cy : CY) (q : Nat → Nat) (ρ : GS) : va_W := [
  (q 27, .inr (5, [.ref (q 28), .ref (q 0), .ref (q 37)])),
  (q 28, .inr (2, [.ref (q 29), .ref (q 30), .ref (q 31), .ref (q 32), .int (ρ 28 0), .ref (q 33), .ref (q 34), .ref (q 35), .ref (q 36), .int (ρ 28 1)])),
  (q 29, .inl (cy.1, 40, .inl (ρ 29))),
  (q 30, .inl (cy.1, 40, .inl (ρ 30))),
  (q 31, .inl (cy.1, 40, .inl (ρ 31))),
  (q 32, .inl (cy.1, 40, .inl (ρ 32))),
  (q 33, .inl (cy.1, 5, .inl (ρ 33))),
  (q 34, .inl (cy.1, 5, .inl (ρ 34))),
  (q 35, .inl (cy.1, 5, .inl (ρ 35))),
  (q 36, .inl (cy.1, 5, .inl (ρ 36))),
  (q 37, .inr (3, [.int (ρ 37 0), .int (ρ 37 1), .int (ρ 37 2), .int (ρ 37 3), .int (ρ 37 4), .ref (q 38)])),
  (q 38, .inl (cy.1, 8, .inl (ρ 38)))]
/-- the reference -/
def wM (cy : CY) (q : Nat → Nat) (σ : GS) : va_W := [
  (q 0, .inr (6, [.int (σ 0 0), .ref (q 1), .ref (q 2), .ref (q 3), .ref (q 4), .int (σ 0 5), .ref (q 5), .ref (q 6), .ref (q 7), .ref (q 8), .int (σ 0 10), .ref (q 9), .ref (q 10), .ref (q 11), .ref (q 12), .ref (q 13), .ref (q 14), .ref (q 15), .ref (q 16), .ref (q 17), .ref (q 18), .ref (q 19), .ref (q 20), .ref (q 21), .ref (q 22), .int (σ 0 25), .int (σ 0 26), .int (σ 0 27), .int (σ 0 28), .int (σ 0 29), .int (σ 0 30), .int (σ 0 31), .ref (q 23)])),
  (q 1, .inl (cy.1, 40, .inl (σ 1))),
  (q 2, .inl (cy.1, 40, .inl (σ 2))),
  (q 3, .inl (cy.1, 40, .inl (σ 3))),
  (q 4, .inl (cy.1, 40, .inl (σ 4))),
  (q 5, .inl (cy.1, 5, .inl (σ 5))),
  (q 6, .inl (cy.1, 5, .inl (σ 6))),
  (q 7, .inl (cy.1, 5, .inl (σ 7))),
  (q 8, .inl (cy.1, 5, .inl (σ 8))),
  (q 9, .inl (cy.1, 64, .inl (σ 9))),
  (q 10, .inl (cy.1, 64, .inl (σ 10))),
  (q 11, .inl (cy.1, 64, .inl (σ 11))),
  (q 12, .inl (cy.1, 8, .inl (σ 12))),
  (q 13, .inl (cy.1, 4, .inl (σ 13))),
  (q 14, .inl (cy.1, 4, .inl (σ 14))),
  (q 15, .inl (cy.1, 32, .inl (σ 15))),
  (q 16, .inl (cy.1, 3, .inl (σ 16))),
  (q 17, .inl (cy.1, 24, .inl (σ 17))),
  (q 18, .inl (cy.1, 2, .inl (σ 18))),
  (q 19, .inl (cy.1, 2, .inl (σ 19))),
  (q 20, .inl (cy.2.1, 3, .inl (σ 20))),
  (q 21, .inl (cy.1, 3, .inl (σ 21))),
  (q 22, .inl (cy.1, 6, .inl (σ 22))),
  (q 23, .inl (cy.1, 8, .inl (σ 23)))]
theorem row_at (cy : CY) (q : Nat → Nat) (σ : GS) (ex : va_W) {r : Nat} (hr : r < 7) : (wH cy q σ ++ ex)[13 + r]? = some (q (13 + r), .inr (4, [.int (σ 13 r), .int (σ 14 r), .ref (q (20 + r))])) := by
  match r, hr with
  | 0, _ => rfl
  | 1, _ => rfl
  | 2, _ => rfl
  | 3, _ => rfl
  | 4, _ => rfl
  | 5, _ => rfl
  | 6, _ => rfl
theorem cells_at (cy : CY) (q : Nat → Nat) (σ : GS) (ex : va_W) {r : Nat} (hr : r < 7) : (wH cy q σ ++ ex)[20 + r]? = some (q (20 + r), .inl (cy.1, 8, .inl (σ (20 + r)))) := by
  match r, hr with
  | 0, _ => rfl
  | 1, _ => rfl
  | 2, _ => rfl
  | 3, _ => rfl
  | 4, _ => rfl
  | 5, _ => rfl
  | 6, _ => rfl
theorem row_set_kind (cy : CY) (q : Nat → Nat) (σ : GS) (ex : va_W) {r : Nat} (hr : r < 7) (x : Int32) : (wH cy q σ ++ ex).set (13 + r) (q (13 + r), .inr (4, [.int x, .int (σ 14 r), .ref (q (20 + r))])) = wH cy q (st σ 13 r x) ++ ex := by
  match r, hr with
  | 0, _ => rfl
  | 1, _ => rfl
  | 2, _ => rfl
  | 3, _ => rfl
  | 4, _ => rfl
  | 5, _ => rfl
  | 6, _ => rfl
theorem row_set_length (cy : CY) (q : Nat → Nat) (σ : GS) (ex : va_W) {r : Nat} (hr : r < 7) (x : Int32) : (wH cy q σ ++ ex).set (13 + r) (q (13 + r), .inr (4, [.int (σ 13 r), .int x, .ref (q (20 + r))])) = wH cy q (st σ 14 r x) ++ ex := by
  match r, hr with
  | 0, _ => rfl
  | 1, _ => rfl
  | 2, _ => rfl
  | 3, _ => rfl
  | 4, _ => rfl
  | 5, _ => rfl
  | 6, _ => rfl
theorem cells_set (cy : CY) (q : Nat → Nat) (σ : GS) (ex : va_W) {r : Nat} (hr : r < 7) (i : Nat) (x : Int32) : (wH cy q σ ++ ex).set (20 + r) (q (20 + r), .inl (cy.1, 8, .inl (upd (σ (20 + r)) i x))) = wH cy q (st σ (20 + r) i x) ++ ex := by
  match r, hr with
  | 0, _ => rfl
  | 1, _ => rfl
  | 2, _ => rfl
  | 3, _ => rfl
  | 4, _ => rfl
  | 5, _ => rfl
  | 6, _ => rfl
section WLD
variable {p : Program} {l : Launch} {e : Env} {R : Room} {s : State} {m : MethodId} {args : Array Value} {below : List Frame} {meth : Method} {c : Code} {H : Heap} {locs : List Loc} {cells slots : Nat} {Q : State → Prop}
variable {cc : ByteArray} {pc : Nat} {ls : Array Slot} {rest : List Value} {D : va_G} {cy : CY} {A : Nat → Prop} {H0 : Heap} {nL : Nat} {own : String} {Ts : List Cond}
variable {y : MethodName} {b : ByteArray} {maxL : Nat} {ret : Option FieldType} {q : Nat → Nat} {σ ρ : GS} {ex : va_W}
theorem fg_X0_115 (S : CallFix p m c cc nL s args (wm y b maxL ret) RX0) (K : KK D cy s) (h : WH D A H0 H locs (wH cy q σ ++ ex)) (hd : decode cc pc = .ok (.getfield 115, 3)) (kk : W p l e R s m args below meth c H locs cells slots Q (F0 m (pc + 3) ls (.ref (q 10) :: rest))) : W p l e R s m args below meth c H locs cells slots Q (F0 m pc ls (.ref (q 9) :: rest)) := va_get (D := D) (ci := 1) (v := .ref (q 10)) (C := RX1) (T := TX1) (N := 4) S.1 S.2.1 S.2.2.2.2 (fun w g => List.mem_cons_of_mem _ (inX1 w g)) S.2.2.2.1 K.1 h.1 9 rfl rfl 0 (by decide) (g_ts S kf_X0_115) (fun _ h9 => h9) rfl hd kk
theorem fg_X0_118 (S : CallFix p m c cc nL s args (wm y b maxL ret) RX0) (K : KK D cy s) {r : Nat} (hr : r < 7) (h : WH D A H0 H locs (wH cy q σ ++ ex)) (hd : decode cc pc = .ok (.getfield 118, 3)) (kk : W p l e R s m args below meth c H locs cells slots Q (F0 m (pc + 3) ls (.int (σ 13 r) :: rest))) : W p l e R s m args below meth c H locs cells slots Q (F0 m pc ls (.ref (q (13 + r)) :: rest)) := va_get (D := D) (ci := 4) (v := .int (σ 13 r)) (C := RX4) (T := TX4) (N := 3) S.1 S.2.1 S.2.2.2.2 (fun w g => List.mem_cons_of_mem _ (inX4 w g)) S.2.2.2.1 K.1 h.1 (13 + r) (row_at cy q σ ex hr) rfl 0 (by decide) (g_ts S kf_X0_118) (fun _ h9 => h9) rfl hd kk
theorem fg_X0_125 (S : CallFix p m c cc nL s args (wm y b maxL ret) RX0) (K : KK D cy s) {r : Nat} (hr : r < 7) (h : WH D A H0 H locs (wH cy q σ ++ ex)) (hd : decode cc pc = .ok (.getfield 125, 3)) (kk : W p l e R s m args below meth c H locs cells slots Q (F0 m (pc + 3) ls (.ref (q (20 + r)) :: rest))) : W p l e R s m args below meth c H locs cells slots Q (F0 m pc ls (.ref (q (13 + r)) :: rest)) := va_get (D := D) (ci := 4) (v := .ref (q (20 + r))) (C := RX4) (T := TX4) (N := 3) S.1 S.2.1 S.2.2.2.2 (fun w g => List.mem_cons_of_mem _ (inX4 w g)) S.2.2.2.1 K.1 h.1 (13 + r) (row_at cy q σ ex hr) rfl 2 (by decide) (g_ts S kf_X0_125) (fun _ h9 => h9) rfl hd kk
theorem fg_X0_132 (S : CallFix p m c cc nL s args (wm y b maxL ret) RX0) (K : KK D cy s) {r : Nat} (hr : r < 7) (h : WH D A H0 H locs (wH cy q σ ++ ex)) (hd : decode cc pc = .ok (.getfield 132, 3)) (kk : W p l e R s m args below meth c H locs cells slots Q (F0 m (pc + 3) ls (.int (σ 14 r) :: rest))) : W p l e R s m args below meth c H locs cells slots Q (F0 m pc ls (.ref (q (13 + r)) :: rest)) := va_get (D := D) (ci := 4) (v := .int (σ 14 r)) (C := RX4) (T := TX4) (N := 3) S.1 S.2.1 S.2.2.2.2 (fun w g => List.mem_cons_of_mem _ (inX4 w g)) S.2.2.2.1 K.1 h.1 (13 + r) (row_at cy q σ ex hr) rfl 1 (by decide) (g_ts S kf_X0_132) (fun _ h9 => h9) rfl hd kk
theorem fg_X0_135 (S : CallFix p m c cc nL s args (wm y b maxL ret) RX0) (K : KK D cy s) (h : WH D A H0 H locs (wH cy q σ ++ ex)) (hd : decode cc pc = .ok (.getfield 135, 3)) (kk : W p l e R s m args below meth c H locs cells slots Q (F0 m (pc + 3) ls (.ref (q 11) :: rest))) : W p l e R s m args below meth c H locs cells slots Q (F0 m pc ls (.ref (q 9) :: rest)) := va_get (D := D) (ci := 1) (v := .ref (q 11)) (C := RX1) (T := TX1) (N := 4) S.1 S.2.1 S.2.2.2.2 (fun w g => List.mem_cons_of_mem _ (inX1 w g)) S.2.2.2.1 K.1 h.1 9 rfl rfl 1 (by decide) (g_ts S kf_X0_135) (fun _ h9 => h9) rfl hd kk
theorem fg_X0_15 (S : CallFix p m c cc nL s args (wm y b maxL ret) RX0) (K : KK D cy s) (h : WH D A H0 H locs (wH cy q σ ++ ex)) (hd : decode cc pc = .ok (.getfield 15, 3)) (kk : W p l e R s m args below meth c H locs cells slots Q (F0 m (pc + 3) ls (.ref (q 2) :: rest))) : W p l e R s m args below meth c H locs cells slots Q (F0 m pc ls (.ref (q 0) :: rest)) := va_get (D := D) (ci := 0) (v := .ref (q 2)) (C := RX0) (T := TX0) (N := 9) S.1 S.2.1 S.2.2.2.2 (fun w g => List.mem_cons_of_mem _ (inX0 w g)) S.2.2.2.1 K.1 h.1 0 rfl rfl 1 (by decide) (g_ts S kf_X0_15) (fun _ h9 => h9) rfl hd kk
theorem fg_X0_21 (S : CallFix p m c cc nL s args (wm y b maxL ret) RX0) (K : KK D cy s) (h : WH D A H0 H locs (wH cy q σ ++ ex)) (hd : decode cc pc = .ok (.getfield 21, 3)) (kk : W p l e R s m args below meth c H locs cells slots Q (F0 m (pc + 3) ls (.ref (q 9) :: rest))) : W p l e R s m args below meth c H locs cells slots Q (F0 m pc ls (.ref (q 0) :: rest)) := va_get (D := D) (ci := 0) (v := .ref (q 9)) (C := RX0) (T := TX0) (N := 9) S.1 S.2.1 S.2.2.2.2 (fun w g => List.mem_cons_of_mem _ (inX0 w g)) S.2.2.2.1 K.1 h.1 0 rfl rfl 2 (by decide) (g_ts S kf_X0_21) (fun _ h9 => h9) rfl hd kk
theorem fg_X0_27 (S : CallFix p m c cc nL s args (wm y b maxL ret) RX0) (K : KK D cy s) (h : WH D A H0 H locs (wH cy q σ ++ ex)) (hd : decode cc pc = .ok (.getfield 27, 3)) (kk : W p l e R s m args below meth c H locs cells slots Q (F0 m (pc + 3) ls (.ref (q 7) :: rest))) : W p l e R s m args below meth c H locs cells slots Q (F0 m pc ls (.ref (q 0) :: rest)) := va_get (D := D) (ci := 0) (v := .ref (q 7)) (C := RX0) (T := TX0) (N := 9) S.1 S.2.1 S.2.2.2.2 (fun w g => List.mem_cons_of_mem _ (inX0 w g)) S.2.2.2.1 K.1 h.1 0 rfl rfl 3 (by decide) (g_ts S kf_X0_27) (fun _ h9 => h9) rfl hd kk
theorem fg_X0_31 (S : CallFix p m c cc nL s args (wm y b maxL ret) RX0) (K : KK D cy s) (h : WH D A H0 H locs (wH cy q σ ++ ex)) (hd : decode cc pc = .ok (.getfield 31, 3)) (kk : W p l e R s m args below meth c H locs cells slots Q (F0 m (pc + 3) ls (.ref (q 8) :: rest))) : W p l e R s m args below meth c H locs cells slots Q (F0 m pc ls (.ref (q 0) :: rest)) := va_get (D := D) (ci := 0) (v := .ref (q 8)) (C := RX0) (T := TX0) (N := 9) S.1 S.2.1 S.2.2.2.2 (fun w g => List.mem_cons_of_mem _ (inX0 w g)) S.2.2.2.1 K.1 h.1 0 rfl rfl 4 (by decide) (g_ts S kf_X0_31) (fun _ h9 => h9) rfl hd kk
theorem fg_X0_34 (S : CallFix p m c cc nL s args (wm y b maxL ret) RX0) (K : KK D cy s) (h : WH D A H0 H locs (wH cy q σ ++ ex)) (hd : decode cc pc = .ok (.getfield 34, 3)) (kk : W p l e R s m args below meth c H locs cells slots Q (F0 m (pc + 3) ls (.ref (q 3) :: rest))) : W p l e R s m args below meth c H locs cells slots Q (F0 m pc ls (.ref (q 0) :: rest)) := va_get (D := D) (ci := 0) (v := .ref (q 3)) (C := RX0) (T := TX0) (N := 9) S.1 S.2.1 S.2.2.2.2 (fun w g => List.mem_cons_of_mem _ (inX0 w g)) S.2.2.2.1 K.1 h.1 0 rfl rfl 5 (by decide) (g_ts S kf_X0_34) (fun _ h9 => h9) rfl hd kk
theorem fg_X0_37 (S : CallFix p m c cc nL s args (wm y b maxL ret) RX0) (K : KK D cy s) (h : WH D A H0 H locs (wH cy q σ ++ ex)) (hd : decode cc pc = .ok (.getfield 37, 3)) (kk : W p l e R s m args below meth c H locs cells slots Q (F0 m (pc + 3) ls (.ref (q 4) :: rest))) : W p l e R s m args below meth c H locs cells slots Q (F0 m pc ls (.ref (q 0) :: rest)) := va_get (D := D) (ci := 0) (v := .ref (q 4)) (C := RX0) (T := TX0) (N := 9) S.1 S.2.1 S.2.2.2.2 (fun w g => List.mem_cons_of_mem _ (inX0 w g)) S.2.2.2.1 K.1 h.1 0 rfl rfl 6 (by decide) (g_ts S kf_X0_37) (fun _ h9 => h9) rfl hd kk
theorem fg_X0_40 (S : CallFix p m c cc nL s args (wm y b maxL ret) RX0) (K : KK D cy s) (h : WH D A H0 H locs (wH cy q σ ++ ex)) (hd : decode cc pc = .ok (.getfield 40, 3)) (kk : W p l e R s m args below meth c H locs cells slots Q (F0 m (pc + 3) ls (.ref (q 5) :: rest))) : W p l e R s m args below meth c H locs cells slots Q (F0 m pc ls (.ref (q 0) :: rest)) := va_get (D := D) (ci := 0) (v := .ref (q 5)) (C := RX0) (T := TX0) (N := 9) S.1 S.2.1 S.2.2.2.2 (fun w g => List.mem_cons_of_mem _ (inX0 w g)) S.2.2.2.1 K.1 h.1 0 rfl rfl 7 (by decide) (g_ts S kf_X0_40) (fun _ h9 => h9) rfl hd kk
theorem fg_X0_44 (S : CallFix p m c cc nL s args (wm y b maxL ret) RX0) (K : KK D cy s) (h : WH D A H0 H locs (wH cy q σ ++ ex)) (hd : decode cc pc = .ok (.getfield 44, 3)) (kk : W p l e R s m args below meth c H locs cells slots Q (F0 m (pc + 3) ls (.ref (q 6) :: rest))) : W p l e R s m args below meth c H locs cells slots Q (F0 m pc ls (.ref (q 0) :: rest)) := va_get (D := D) (ci := 0) (v := .ref (q 6)) (C := RX0) (T := TX0) (N := 9) S.1 S.2.1 S.2.2.2.2 (fun w g => List.mem_cons_of_mem _ (inX0 w g)) S.2.2.2.1 K.1 h.1 0 rfl rfl 8 (by decide) (g_ts S kf_X0_44) (fun _ h9 => h9) rfl hd kk
theorem fg_X0_9 (S : CallFix p m c cc nL s args (wm y b maxL ret) RX0) (K : KK D cy s) (h : WH D A H0 H locs (wH cy q σ ++ ex)) (hd : decode cc pc = .ok (.getfield 9, 3)) (kk : W p l e R s m args below meth c H locs cells slots Q (F0 m (pc + 3) ls (.ref (q 1) :: rest))) : W p l e R s m args below meth c H locs cells slots Q (F0 m pc ls (.ref (q 0) :: rest)) := va_get (D := D) (ci := 0) (v := .ref (q 1)) (C := RX0) (T := TX0) (N := 9) S.1 S.2.1 S.2.2.2.2 (fun w g => List.mem_cons_of_mem _ (inX0 w g)) S.2.2.2.1 K.1 h.1 0 rfl rfl 0 (by decide) (g_ts S kf_X0_9) (fun _ h9 => h9) rfl hd kk
theorem fg_X1_15 (S : CallFix p m c cc nL s args (wm y b maxL ret) RX1) (K : KK D cy s) (h : WH D A H0 H locs (wH cy q σ ++ ex)) (hd : decode cc pc = .ok (.getfield 15, 3)) (kk : W p l e R s m args below meth c H locs cells slots Q (F0 m (pc + 3) ls (.ref (q 11) :: rest))) : W p l e R s m args below meth c H locs cells slots Q (F0 m pc ls (.ref (q 9) :: rest)) := va_get (D := D) (ci := 1) (v := .ref (q 11)) (C := RX1) (T := TX1) (N := 4) S.1 S.2.1 S.2.2.2.2 (fun w g => List.mem_cons_of_mem _ (inX1 w g)) S.2.2.2.1 K.1 h.1 9 rfl rfl 1 (by decide) (g_ts S kf_X1_15) (fun _ h9 => h9) rfl hd kk
theorem fg_X1_18 (S : CallFix p m c cc nL s args (wm y b maxL ret) RX1) (K : KK D cy s) (h : WH D A H0 H locs (wH cy q σ ++ ex)) (hd : decode cc pc = .ok (.getfield 18, 3)) (kk : W p l e R s m args below meth c H locs cells slots Q (F0 m (pc + 3) ls (.ref (q 12) :: rest))) : W p l e R s m args below meth c H locs cells slots Q (F0 m pc ls (.ref (q 9) :: rest)) := va_get (D := D) (ci := 1) (v := .ref (q 12)) (C := RX1) (T := TX1) (N := 4) S.1 S.2.1 S.2.2.2.2 (fun w g => List.mem_cons_of_mem _ (inX1 w g)) S.2.2.2.1 K.1 h.1 9 rfl rfl 2 (by decide) (g_ts S kf_X1_18) (fun _ h9 => h9) rfl hd kk
theorem fg_X1_21 (S : CallFix p m c cc nL s args (wm y b maxL ret) RX1) (K : KK D cy s) (h : WH D A H0 H locs (wH cy q σ ++ ex)) (hd : decode cc pc = .ok (.getfield 21, 3)) (kk : W p l e R s m args below meth c H locs cells slots Q (F0 m (pc + 3) ls (.int (σ 9 0) :: rest))) : W p l e R s m args below meth c H locs cells slots Q (F0 m pc ls (.ref (q 9) :: rest)) := va_get (D := D) (ci := 1) (v := .int (σ 9 0)) (C := RX1) (T := TX1) (N := 4) S.1 S.2.1 S.2.2.2.2 (fun w g => List.mem_cons_of_mem _ (inX1 w g)) S.2.2.2.1 K.1 h.1 9 rfl rfl 3 (by decide) (g_ts S kf_X1_21) (fun _ h9 => h9) rfl hd kk
theorem fg_X1_9 (S : CallFix p m c cc nL s args (wm y b maxL ret) RX1) (K : KK D cy s) (h : WH D A H0 H locs (wH cy q σ ++ ex)) (hd : decode cc pc = .ok (.getfield 9, 3)) (kk : W p l e R s m args below meth c H locs cells slots Q (F0 m (pc + 3) ls (.ref (q 10) :: rest))) : W p l e R s m args below meth c H locs cells slots Q (F0 m pc ls (.ref (q 9) :: rest)) := va_get (D := D) (ci := 1) (v := .ref (q 10)) (C := RX1) (T := TX1) (N := 4) S.1 S.2.1 S.2.2.2.2 (fun w g => List.mem_cons_of_mem _ (inX1 w g)) S.2.2.2.1 K.1 h.1 9 rfl rfl 0 (by decide) (g_ts S kf_X1_9) (fun _ h9 => h9) rfl hd kk
theorem fg_X2_15 (S : CallFix p m c cc nL s args (wm y b maxL ret) RX2) (K : KK D cy s) (h : WH D A H0 H locs (wH cy q σ ++ (wE cy q ρ ++ ex))) (hd : decode cc pc = .ok (.getfield 15, 3)) (kk : W p l e R s m args below meth c H locs cells slots Q (F0 m (pc + 3) ls (.ref (q 30) :: rest))) : W p l e R s m args below meth c H locs cells slots Q (F0 m pc ls (.ref (q 28) :: rest)) := va_get (D := D) (ci := 2) (v := .ref (q 30)) (C := RX2) (T := TX2) (N := 10) S.1 S.2.1 S.2.2.2.2 (fun w g => List.mem_cons_of_mem _ (inX2 w g)) S.2.2.2.1 K.1 h.1 28 rfl rfl 1 (by decide) (g_ts S kf_X2_15) (fun _ h9 => h9) rfl hd kk
theorem fg_X2_18 (S : CallFix p m c cc nL s args (wm y b maxL ret) RX2) (K : KK D cy s) (h : WH D A H0 H locs (wH cy q σ ++ (wE cy q ρ ++ ex))) (hd : decode cc pc = .ok (.getfield 18, 3)) (kk : W p l e R s m args below meth c H locs cells slots Q (F0 m (pc + 3) ls (.ref (q 31) :: rest))) : W p l e R s m args below meth c H locs cells slots Q (F0 m pc ls (.ref (q 28) :: rest)) := va_get (D := D) (ci := 2) (v := .ref (q 31)) (C := RX2) (T := TX2) (N := 10) S.1 S.2.1 S.2.2.2.2 (fun w g => List.mem_cons_of_mem _ (inX2 w g)) S.2.2.2.1 K.1 h.1 28 rfl rfl 2 (by decide) (g_ts S kf_X2_18) (fun _ h9 => h9) rfl hd kk
theorem fg_X2_21 (S : CallFix p m c cc nL s args (wm y b maxL ret) RX2) (K : KK D cy s) (h : WH D A H0 H locs (wH cy q σ ++ (wE cy q ρ ++ ex))) (hd : decode cc pc = .ok (.getfield 21, 3)) (kk : W p l e R s m args below meth c H locs cells slots Q (F0 m (pc + 3) ls (.ref (q 32) :: rest))) : W p l e R s m args below meth c H locs cells slots Q (F0 m pc ls (.ref (q 28) :: rest)) := va_get (D := D) (ci := 2) (v := .ref (q 32)) (C := RX2) (T := TX2) (N := 10) S.1 S.2.1 S.2.2.2.2 (fun w g => List.mem_cons_of_mem _ (inX2 w g)) S.2.2.2.1 K.1 h.1 28 rfl rfl 3 (by decide) (g_ts S kf_X2_21) (fun _ h9 => h9) rfl hd kk
theorem fg_X2_24 (S : CallFix p m c cc nL s args (wm y b maxL ret) RX2) (K : KK D cy s) (h : WH D A H0 H locs (wH cy q σ ++ (wE cy q ρ ++ ex))) (hd : decode cc pc = .ok (.getfield 24, 3)) (kk : W p l e R s m args below meth c H locs cells slots Q (F0 m (pc + 3) ls (.int (ρ 28 0) :: rest))) : W p l e R s m args below meth c H locs cells slots Q (F0 m pc ls (.ref (q 28) :: rest)) := va_get (D := D) (ci := 2) (v := .int (ρ 28 0)) (C := RX2) (T := TX2) (N := 10) S.1 S.2.1 S.2.2.2.2 (fun w g => List.mem_cons_of_mem _ (inX2 w g)) S.2.2.2.1 K.1 h.1 28 rfl rfl 4 (by decide) (g_ts S kf_X2_24) (fun _ h9 => h9) rfl hd kk
theorem fg_X2_28 (S : CallFix p m c cc nL s args (wm y b maxL ret) RX2) (K : KK D cy s) (h : WH D A H0 H locs (wH cy q σ ++ (wE cy q ρ ++ ex))) (hd : decode cc pc = .ok (.getfield 28, 3)) (kk : W p l e R s m args below meth c H locs cells slots Q (F0 m (pc + 3) ls (.ref (q 33) :: rest))) : W p l e R s m args below meth c H locs cells slots Q (F0 m pc ls (.ref (q 28) :: rest)) := va_get (D := D) (ci := 2) (v := .ref (q 33)) (C := RX2) (T := TX2) (N := 10) S.1 S.2.1 S.2.2.2.2 (fun w g => List.mem_cons_of_mem _ (inX2 w g)) S.2.2.2.1 K.1 h.1 28 rfl rfl 5 (by decide) (g_ts S kf_X2_28) (fun _ h9 => h9) rfl hd kk
theorem fg_X2_31 (S : CallFix p m c cc nL s args (wm y b maxL ret) RX2) (K : KK D cy s) (h : WH D A H0 H locs (wH cy q σ ++ (wE cy q ρ ++ ex))) (hd : decode cc pc = .ok (.getfield 31, 3)) (kk : W p l e R s m args below meth c H locs cells slots Q (F0 m (pc + 3) ls (.ref (q 34) :: rest))) : W p l e R s m args below meth c H locs cells slots Q (F0 m pc ls (.ref (q 28) :: rest)) := va_get (D := D) (ci := 2) (v := .ref (q 34)) (C := RX2) (T := TX2) (N := 10) S.1 S.2.1 S.2.2.2.2 (fun w g => List.mem_cons_of_mem _ (inX2 w g)) S.2.2.2.1 K.1 h.1 28 rfl rfl 6 (by decide) (g_ts S kf_X2_31) (fun _ h9 => h9) rfl hd kk
theorem fg_X2_34 (S : CallFix p m c cc nL s args (wm y b maxL ret) RX2) (K : KK D cy s) (h : WH D A H0 H locs (wH cy q σ ++ (wE cy q ρ ++ ex))) (hd : decode cc pc = .ok (.getfield 34, 3)) (kk : W p l e R s m args below meth c H locs cells slots Q (F0 m (pc + 3) ls (.ref (q 35) :: rest))) : W p l e R s m args below meth c H locs cells slots Q (F0 m pc ls (.ref (q 28) :: rest)) := va_get (D := D) (ci := 2) (v := .ref (q 35)) (C := RX2) (T := TX2) (N := 10) S.1 S.2.1 S.2.2.2.2 (fun w g => List.mem_cons_of_mem _ (inX2 w g)) S.2.2.2.1 K.1 h.1 28 rfl rfl 7 (by decide) (g_ts S kf_X2_34) (fun _ h9 => h9) rfl hd kk
theorem fg_X2_37 (S : CallFix p m c cc nL s args (wm y b maxL ret) RX2) (K : KK D cy s) (h : WH D A H0 H locs (wH cy q σ ++ (wE cy q ρ ++ ex))) (hd : decode cc pc = .ok (.getfield 37, 3)) (kk : W p l e R s m args below meth c H locs cells slots Q (F0 m (pc + 3) ls (.ref (q 36) :: rest))) : W p l e R s m args below meth c H locs cells slots Q (F0 m pc ls (.ref (q 28) :: rest)) := va_get (D := D) (ci := 2) (v := .ref (q 36)) (C := RX2) (T := TX2) (N := 10) S.1 S.2.1 S.2.2.2.2 (fun w g => List.mem_cons_of_mem _ (inX2 w g)) S.2.2.2.1 K.1 h.1 28 rfl rfl 8 (by decide) (g_ts S kf_X2_37) (fun _ h9 => h9) rfl hd kk
theorem fg_X2_40 (S : CallFix p m c cc nL s args (wm y b maxL ret) RX2) (K : KK D cy s) (h : WH D A H0 H locs (wH cy q σ ++ (wE cy q ρ ++ ex))) (hd : decode cc pc = .ok (.getfield 40, 3)) (kk : W p l e R s m args below meth c H locs cells slots Q (F0 m (pc + 3) ls (.int (ρ 28 1) :: rest))) : W p l e R s m args below meth c H locs cells slots Q (F0 m pc ls (.ref (q 28) :: rest)) := va_get (D := D) (ci := 2) (v := .int (ρ 28 1)) (C := RX2) (T := TX2) (N := 10) S.1 S.2.1 S.2.2.2.2 (fun w g => List.mem_cons_of_mem _ (inX2 w g)) S.2.2.2.1 K.1 h.1 28 rfl rfl 9 (by decide) (g_ts S kf_X2_40) (fun _ h9 => h9) rfl hd kk
theorem fg_X2_9 (S : CallFix p m c cc nL s args (wm y b maxL ret) RX2) (K : KK D cy s) (h : WH D A H0 H locs (wH cy q σ ++ (wE cy q ρ ++ ex))) (hd : decode cc pc = .ok (.getfield 9, 3)) (kk : W p l e R s m args below meth c H locs cells slots Q (F0 m (pc + 3) ls (.ref (q 29) :: rest))) : W p l e R s m args below meth c H locs cells slots Q (F0 m pc ls (.ref (q 28) :: rest)) := va_get (D := D) (ci := 2) (v := .ref (q 29)) (C := RX2) (T := TX2) (N := 10) S.1 S.2.1 S.2.2.2.2 (fun w g => List.mem_cons_of_mem _ (inX2 w g)) S.2.2.2.1 K.1 h.1 28 rfl rfl 0 (by decide) (g_ts S kf_X2_9) (fun _ h9 => h9) rfl hd kk
theorem fg_X3_27 (S : CallFix p m c cc nL s args (wm y b maxL ret) RX3) (K : KK D cy s) (h : WH D A H0 H locs (wH cy q σ ++ (wE cy q ρ ++ ex))) (hd : decode cc pc = .ok (.getfield 27, 3)) (kk : W p l e R s m args below meth c H locs cells slots Q (F0 m (pc + 3) ls (.ref (q 38) :: rest))) : W p l e R s m args below meth c H locs cells slots Q (F0 m pc ls (.ref (q 37) :: rest)) := va_get (D := D) (ci := 3) (v := .ref (q 38)) (C := RX3) (T := TX3) (N := 6) S.1 S.2.1 S.2.2.2.2 (fun w g => List.mem_cons_of_mem _ (inX3 w g)) S.2.2.2.1 K.1 h.1 37 rfl rfl 5 (by decide) (g_ts S kf_X3_27) (fun _ h9 => h9) rfl hd kk
theorem fg_X4_15 (S : CallFix p m c cc nL s args (wm y b maxL ret) RX4) (K : KK D cy s) {r : Nat} (hr : r < 7) (h : WH D A H0 H locs (wH cy q σ ++ ex)) (hd : decode cc pc = .ok (.getfield 15, 3)) (kk : W p l e R s m args below meth c H locs cells slots Q (F0 m (pc + 3) ls (.int (σ 14 r) :: rest))) : W p l e R s m args below meth c H locs cells slots Q (F0 m pc ls (.ref (q (13 + r)) :: rest)) := va_get (D := D) (ci := 4) (v := .int (σ 14 r)) (C := RX4) (T := TX4) (N := 3) S.1 S.2.1 S.2.2.2.2 (fun w g => List.mem_cons_of_mem _ (inX4 w g)) S.2.2.2.1 K.1 h.1 (13 + r) (row_at cy q σ ex hr) rfl 1 (by decide) (g_ts S kf_X4_15) (fun _ h9 => h9) rfl hd kk
theorem fg_X4_18 (S : CallFix p m c cc nL s args (wm y b maxL ret) RX4) (K : KK D cy s) {r : Nat} (hr : r < 7) (h : WH D A H0 H locs (wH cy q σ ++ ex)) (hd : decode cc pc = .ok (.getfield 18, 3)) (kk : W p l e R s m args below meth c H locs cells slots Q (F0 m (pc + 3) ls (.ref (q (20 + r)) :: rest))) : W p l e R s m args below meth c H locs cells slots Q (F0 m pc ls (.ref (q (13 + r)) :: rest)) := va_get (D := D) (ci := 4) (v := .ref (q (20 + r))) (C := RX4) (T := TX4) (N := 3) S.1 S.2.1 S.2.2.2.2 (fun w g => List.mem_cons_of_mem _ (inX4 w g)) S.2.2.2.1 K.1 h.1 (13 + r) (row_at cy q σ ex hr) rfl 2 (by decide) (g_ts S kf_X4_18) (fun _ h9 => h9) rfl hd kk
theorem fg_X5_10 (S : CallFix p m c cc nL s args (wm y b maxL ret) RX5) (K : KK D cy s) (h : WH D A H0 H locs (wH cy q σ ++ (wE cy q ρ ++ ex))) (hd : decode cc pc = .ok (.getfield 10, 3)) (kk : W p l e R s m args below meth c H locs cells slots Q (F0 m (pc + 3) ls (.ref (q 28) :: rest))) : W p l e R s m args below meth c H locs cells slots Q (F0 m pc ls (.ref (q 27) :: rest)) := va_get (D := D) (ci := 5) (v := .ref (q 28)) (C := RX5) (T := TX5) (N := 3) S.1 S.2.1 S.2.2.2.2 (fun w g => List.mem_cons_of_mem _ (inX5 w g)) S.2.2.2.1 K.1 h.1 27 rfl rfl 0 (by decide) (g_ts S kf_X5_10) (fun _ h9 => h9) rfl hd kk
theorem fg_X5_100 (S : CallFix p m c cc nL s args (wm y b maxL ret) RX5) (K : KK D cy s) (h : WH D A H0 H locs (wH cy q σ ++ ex)) (hd : decode cc pc = .ok (.getfield 100, 3)) (kk : W p l e R s m args below meth c H locs cells slots Q (F0 m (pc + 3) ls (.ref (q 10) :: rest))) : W p l e R s m args below meth c H locs cells slots Q (F0 m pc ls (.ref (q 9) :: rest)) := va_get (D := D) (ci := 1) (v := .ref (q 10)) (C := RX1) (T := TX1) (N := 4) S.1 S.2.1 S.2.2.2.2 (fun w g => List.mem_cons_of_mem _ (inX1 w g)) S.2.2.2.1 K.1 h.1 9 rfl rfl 0 (by decide) (g_ts S kf_X5_100) (fun _ h9 => h9) rfl hd kk
theorem fg_X5_103 (S : CallFix p m c cc nL s args (wm y b maxL ret) RX5) (K : KK D cy s) (h : WH D A H0 H locs (wH cy q σ ++ ex)) (hd : decode cc pc = .ok (.getfield 103, 3)) (kk : W p l e R s m args below meth c H locs cells slots Q (F0 m (pc + 3) ls (.ref (q 11) :: rest))) : W p l e R s m args below meth c H locs cells slots Q (F0 m pc ls (.ref (q 9) :: rest)) := va_get (D := D) (ci := 1) (v := .ref (q 11)) (C := RX1) (T := TX1) (N := 4) S.1 S.2.1 S.2.2.2.2 (fun w g => List.mem_cons_of_mem _ (inX1 w g)) S.2.2.2.1 K.1 h.1 9 rfl rfl 1 (by decide) (g_ts S kf_X5_103) (fun _ h9 => h9) rfl hd kk
theorem fg_X5_106 (S : CallFix p m c cc nL s args (wm y b maxL ret) RX5) (K : KK D cy s) (h : WH D A H0 H locs (wH cy q σ ++ ex)) (hd : decode cc pc = .ok (.getfield 106, 3)) (kk : W p l e R s m args below meth c H locs cells slots Q (F0 m (pc + 3) ls (.ref (q 12) :: rest))) : W p l e R s m args below meth c H locs cells slots Q (F0 m pc ls (.ref (q 9) :: rest)) := va_get (D := D) (ci := 1) (v := .ref (q 12)) (C := RX1) (T := TX1) (N := 4) S.1 S.2.1 S.2.2.2.2 (fun w g => List.mem_cons_of_mem _ (inX1 w g)) S.2.2.2.1 K.1 h.1 9 rfl rfl 2 (by decide) (g_ts S kf_X5_106) (fun _ h9 => h9) rfl hd kk
theorem fg_X5_112 (S : CallFix p m c cc nL s args (wm y b maxL ret) RX5) (K : KK D cy s) (h : WH D A H0 H locs (wH cy q σ ++ ex)) (hd : decode cc pc = .ok (.getfield 112, 3)) (kk : W p l e R s m args below meth c H locs cells slots Q (F0 m (pc + 3) ls (.ref (q 7) :: rest))) : W p l e R s m args below meth c H locs cells slots Q (F0 m pc ls (.ref (q 0) :: rest)) := va_get (D := D) (ci := 0) (v := .ref (q 7)) (C := RX0) (T := TX0) (N := 9) S.1 S.2.1 S.2.2.2.2 (fun w g => List.mem_cons_of_mem _ (inX0 w g)) S.2.2.2.1 K.1 h.1 0 rfl rfl 3 (by decide) (g_ts S kf_X5_112) (fun _ h9 => h9) rfl hd kk
theorem fg_X5_116 (S : CallFix p m c cc nL s args (wm y b maxL ret) RX5) (K : KK D cy s) {r : Nat} (hr : r < 7) (h : WH D A H0 H locs (wH cy q σ ++ ex)) (hd : decode cc pc = .ok (.getfield 116, 3)) (kk : W p l e R s m args below meth c H locs cells slots Q (F0 m (pc + 3) ls (.int (σ 14 r) :: rest))) : W p l e R s m args below meth c H locs cells slots Q (F0 m pc ls (.ref (q (13 + r)) :: rest)) := va_get (D := D) (ci := 4) (v := .int (σ 14 r)) (C := RX4) (T := TX4) (N := 3) S.1 S.2.1 S.2.2.2.2 (fun w g => List.mem_cons_of_mem _ (inX4 w g)) S.2.2.2.1 K.1 h.1 (13 + r) (row_at cy q σ ex hr) rfl 1 (by decide) (g_ts S kf_X5_116) (fun _ h9 => h9) rfl hd kk
theorem fg_X5_121 (S : CallFix p m c cc nL s args (wm y b maxL ret) RX5) (K : KK D cy s) (h : WH D A H0 H locs (wH cy q σ ++ ex)) (hd : decode cc pc = .ok (.getfield 121, 3)) (kk : W p l e R s m args below meth c H locs cells slots Q (F0 m (pc + 3) ls (.ref (q 8) :: rest))) : W p l e R s m args below meth c H locs cells slots Q (F0 m pc ls (.ref (q 0) :: rest)) := va_get (D := D) (ci := 0) (v := .ref (q 8)) (C := RX0) (T := TX0) (N := 9) S.1 S.2.1 S.2.2.2.2 (fun w g => List.mem_cons_of_mem _ (inX0 w g)) S.2.2.2.1 K.1 h.1 0 rfl rfl 4 (by decide) (g_ts S kf_X5_121) (fun _ h9 => h9) rfl hd kk
theorem fg_X5_124 (S : CallFix p m c cc nL s args (wm y b maxL ret) RX5) (K : KK D cy s) (h : WH D A H0 H locs (wH cy q σ ++ ex)) (hd : decode cc pc = .ok (.getfield 124, 3)) (kk : W p l e R s m args below meth c H locs cells slots Q (F0 m (pc + 3) ls (.ref (q 3) :: rest))) : W p l e R s m args below meth c H locs cells slots Q (F0 m pc ls (.ref (q 0) :: rest)) := va_get (D := D) (ci := 0) (v := .ref (q 3)) (C := RX0) (T := TX0) (N := 9) S.1 S.2.1 S.2.2.2.2 (fun w g => List.mem_cons_of_mem _ (inX0 w g)) S.2.2.2.1 K.1 h.1 0 rfl rfl 5 (by decide) (g_ts S kf_X5_124) (fun _ h9 => h9) rfl hd kk
theorem fg_X5_127 (S : CallFix p m c cc nL s args (wm y b maxL ret) RX5) (K : KK D cy s) {r : Nat} (hr : r < 7) (h : WH D A H0 H locs (wH cy q σ ++ ex)) (hd : decode cc pc = .ok (.getfield 127, 3)) (kk : W p l e R s m args below meth c H locs cells slots Q (F0 m (pc + 3) ls (.int (σ 13 r) :: rest))) : W p l e R s m args below meth c H locs cells slots Q (F0 m pc ls (.ref (q (13 + r)) :: rest)) := va_get (D := D) (ci := 4) (v := .int (σ 13 r)) (C := RX4) (T := TX4) (N := 3) S.1 S.2.1 S.2.2.2.2 (fun w g => List.mem_cons_of_mem _ (inX4 w g)) S.2.2.2.1 K.1 h.1 (13 + r) (row_at cy q σ ex hr) rfl 0 (by decide) (g_ts S kf_X5_127) (fun _ h9 => h9) rfl hd kk
theorem fg_X5_133 (S : CallFix p m c cc nL s args (wm y b maxL ret) RX5) (K : KK D cy s) {r : Nat} (hr : r < 7) (h : WH D A H0 H locs (wH cy q σ ++ ex)) (hd : decode cc pc = .ok (.getfield 133, 3)) (kk : W p l e R s m args below meth c H locs cells slots Q (F0 m (pc + 3) ls (.ref (q (20 + r)) :: rest))) : W p l e R s m args below meth c H locs cells slots Q (F0 m pc ls (.ref (q (13 + r)) :: rest)) := va_get (D := D) (ci := 4) (v := .ref (q (20 + r))) (C := RX4) (T := TX4) (N := 3) S.1 S.2.1 S.2.2.2.2 (fun w g => List.mem_cons_of_mem _ (inX4 w g)) S.2.2.2.1 K.1 h.1 (13 + r) (row_at cy q σ ex hr) rfl 2 (by decide) (g_ts S kf_X5_133) (fun _ h9 => h9) rfl hd kk
theorem fg_X5_136 (S : CallFix p m c cc nL s args (wm y b maxL ret) RX5) (K : KK D cy s) (h : WH D A H0 H locs (wH cy q σ ++ (wE cy q ρ ++ ex))) (hd : decode cc pc = .ok (.getfield 136, 3)) (kk : W p l e R s m args below meth c H locs cells slots Q (F0 m (pc + 3) ls (.ref (q 29) :: rest))) : W p l e R s m args below meth c H locs cells slots Q (F0 m pc ls (.ref (q 28) :: rest)) := va_get (D := D) (ci := 2) (v := .ref (q 29)) (C := RX2) (T := TX2) (N := 10) S.1 S.2.1 S.2.2.2.2 (fun w g => List.mem_cons_of_mem _ (inX2 w g)) S.2.2.2.1 K.1 h.1 28 rfl rfl 0 (by decide) (g_ts S kf_X5_136) (fun _ h9 => h9) rfl hd kk
theorem fg_X5_139 (S : CallFix p m c cc nL s args (wm y b maxL ret) RX5) (K : KK D cy s) (h : WH D A H0 H locs (wH cy q σ ++ (wE cy q ρ ++ ex))) (hd : decode cc pc = .ok (.getfield 139, 3)) (kk : W p l e R s m args below meth c H locs cells slots Q (F0 m (pc + 3) ls (.ref (q 30) :: rest))) : W p l e R s m args below meth c H locs cells slots Q (F0 m pc ls (.ref (q 28) :: rest)) := va_get (D := D) (ci := 2) (v := .ref (q 30)) (C := RX2) (T := TX2) (N := 10) S.1 S.2.1 S.2.2.2.2 (fun w g => List.mem_cons_of_mem _ (inX2 w g)) S.2.2.2.1 K.1 h.1 28 rfl rfl 1 (by decide) (g_ts S kf_X5_139) (fun _ h9 => h9) rfl hd kk
theorem fg_X5_142 (S : CallFix p m c cc nL s args (wm y b maxL ret) RX5) (K : KK D cy s) (h : WH D A H0 H locs (wH cy q σ ++ (wE cy q ρ ++ ex))) (hd : decode cc pc = .ok (.getfield 142, 3)) (kk : W p l e R s m args below meth c H locs cells slots Q (F0 m (pc + 3) ls (.ref (q 31) :: rest))) : W p l e R s m args below meth c H locs cells slots Q (F0 m pc ls (.ref (q 28) :: rest)) := va_get (D := D) (ci := 2) (v := .ref (q 31)) (C := RX2) (T := TX2) (N := 10) S.1 S.2.1 S.2.2.2.2 (fun w g => List.mem_cons_of_mem _ (inX2 w g)) S.2.2.2.1 K.1 h.1 28 rfl rfl 2 (by decide) (g_ts S kf_X5_142) (fun _ h9 => h9) rfl hd kk
theorem fg_X5_145 (S : CallFix p m c cc nL s args (wm y b maxL ret) RX5) (K : KK D cy s) (h : WH D A H0 H locs (wH cy q σ ++ (wE cy q ρ ++ ex))) (hd : decode cc pc = .ok (.getfield 145, 3)) (kk : W p l e R s m args below meth c H locs cells slots Q (F0 m (pc + 3) ls (.ref (q 32) :: rest))) : W p l e R s m args below meth c H locs cells slots Q (F0 m pc ls (.ref (q 28) :: rest)) := va_get (D := D) (ci := 2) (v := .ref (q 32)) (C := RX2) (T := TX2) (N := 10) S.1 S.2.1 S.2.2.2.2 (fun w g => List.mem_cons_of_mem _ (inX2 w g)) S.2.2.2.1 K.1 h.1 28 rfl rfl 3 (by decide) (g_ts S kf_X5_145) (fun _ h9 => h9) rfl hd kk
theorem fg_X5_154 (S : CallFix p m c cc nL s args (wm y b maxL ret) RX5) (K : KK D cy s) (h : WH D A H0 H locs (wH cy q σ ++ ex)) (hd : decode cc pc = .ok (.getfield 154, 3)) (kk : W p l e R s m args below meth c H locs cells slots Q (F0 m (pc + 3) ls (.ref (q 6) :: rest))) : W p l e R s m args below meth c H locs cells slots Q (F0 m pc ls (.ref (q 0) :: rest)) := va_get (D := D) (ci := 0) (v := .ref (q 6)) (C := RX0) (T := TX0) (N := 9) S.1 S.2.1 S.2.2.2.2 (fun w g => List.mem_cons_of_mem _ (inX0 w g)) S.2.2.2.1 K.1 h.1 0 rfl rfl 8 (by decide) (g_ts S kf_X5_154) (fun _ h9 => h9) rfl hd kk
theorem fg_X5_161 (S : CallFix p m c cc nL s args (wm y b maxL ret) RX5) (K : KK D cy s) (h : WH D A H0 H locs (wH cy q σ ++ (wE cy q ρ ++ ex))) (hd : decode cc pc = .ok (.getfield 161, 3)) (kk : W p l e R s m args below meth c H locs cells slots Q (F0 m (pc + 3) ls (.ref (q 36) :: rest))) : W p l e R s m args below meth c H locs cells slots Q (F0 m pc ls (.ref (q 28) :: rest)) := va_get (D := D) (ci := 2) (v := .ref (q 36)) (C := RX2) (T := TX2) (N := 10) S.1 S.2.1 S.2.2.2.2 (fun w g => List.mem_cons_of_mem _ (inX2 w g)) S.2.2.2.1 K.1 h.1 28 rfl rfl 8 (by decide) (g_ts S kf_X5_161) (fun _ h9 => h9) rfl hd kk
theorem fg_X5_19 (S : CallFix p m c cc nL s args (wm y b maxL ret) RX5) (K : KK D cy s) (h : WH D A H0 H locs (wH cy q σ ++ (wE cy q ρ ++ ex))) (hd : decode cc pc = .ok (.getfield 19, 3)) (kk : W p l e R s m args below meth c H locs cells slots Q (F0 m (pc + 3) ls (.ref (q 0) :: rest))) : W p l e R s m args below meth c H locs cells slots Q (F0 m pc ls (.ref (q 27) :: rest)) := va_get (D := D) (ci := 5) (v := .ref (q 0)) (C := RX5) (T := TX5) (N := 3) S.1 S.2.1 S.2.2.2.2 (fun w g => List.mem_cons_of_mem _ (inX5 w g)) S.2.2.2.1 K.1 h.1 27 rfl rfl 1 (by decide) (g_ts S kf_X5_19) (fun _ h9 => h9) rfl hd kk
theorem fg_X5_26 (S : CallFix p m c cc nL s args (wm y b maxL ret) RX5) (K : KK D cy s) (h : WH D A H0 H locs (wH cy q σ ++ (wE cy q ρ ++ ex))) (hd : decode cc pc = .ok (.getfield 26, 3)) (kk : W p l e R s m args below meth c H locs cells slots Q (F0 m (pc + 3) ls (.ref (q 37) :: rest))) : W p l e R s m args below meth c H locs cells slots Q (F0 m pc ls (.ref (q 27) :: rest)) := va_get (D := D) (ci := 5) (v := .ref (q 37)) (C := RX5) (T := TX5) (N := 3) S.1 S.2.1 S.2.2.2.2 (fun w g => List.mem_cons_of_mem _ (inX5 w g)) S.2.2.2.1 K.1 h.1 27 rfl rfl 2 (by decide) (g_ts S kf_X5_26) (fun _ h9 => h9) rfl hd kk
theorem fg_X5_45 (S : CallFix p m c cc nL s args (wm y b maxL ret) RX5) (K : KK D cy s) (h : WH D A H0 H locs (wH cy q σ ++ (wE cy q ρ ++ ex))) (hd : decode cc pc = .ok (.getfield 45, 3)) (kk : W p l e R s m args below meth c H locs cells slots Q (F0 m (pc + 3) ls (.int (ρ 28 0) :: rest))) : W p l e R s m args below meth c H locs cells slots Q (F0 m pc ls (.ref (q 28) :: rest)) := va_get (D := D) (ci := 2) (v := .int (ρ 28 0)) (C := RX2) (T := TX2) (N := 10) S.1 S.2.1 S.2.2.2.2 (fun w g => List.mem_cons_of_mem _ (inX2 w g)) S.2.2.2.1 K.1 h.1 28 rfl rfl 4 (by decide) (g_ts S kf_X5_45) (fun _ h9 => h9) rfl hd kk
theorem fg_X5_66 (S : CallFix p m c cc nL s args (wm y b maxL ret) RX5) (K : KK D cy s) (h : WH D A H0 H locs (wH cy q σ ++ (wE cy q ρ ++ ex))) (hd : decode cc pc = .ok (.getfield 66, 3)) (kk : W p l e R s m args below meth c H locs cells slots Q (F0 m (pc + 3) ls (.int (ρ 37 0) :: rest))) : W p l e R s m args below meth c H locs cells slots Q (F0 m pc ls (.ref (q 37) :: rest)) := va_get (D := D) (ci := 3) (v := .int (ρ 37 0)) (C := RX3) (T := TX3) (N := 6) S.1 S.2.1 S.2.2.2.2 (fun w g => List.mem_cons_of_mem _ (inX3 w g)) S.2.2.2.1 K.1 h.1 37 rfl rfl 0 (by decide) (g_ts S kf_X5_66) (fun _ h9 => h9) rfl hd kk
theorem fg_X5_69 (S : CallFix p m c cc nL s args (wm y b maxL ret) RX5) (K : KK D cy s) (h : WH D A H0 H locs (wH cy q σ ++ (wE cy q ρ ++ ex))) (hd : decode cc pc = .ok (.getfield 69, 3)) (kk : W p l e R s m args below meth c H locs cells slots Q (F0 m (pc + 3) ls (.int (ρ 37 1) :: rest))) : W p l e R s m args below meth c H locs cells slots Q (F0 m pc ls (.ref (q 37) :: rest)) := va_get (D := D) (ci := 3) (v := .int (ρ 37 1)) (C := RX3) (T := TX3) (N := 6) S.1 S.2.1 S.2.2.2.2 (fun w g => List.mem_cons_of_mem _ (inX3 w g)) S.2.2.2.1 K.1 h.1 37 rfl rfl 1 (by decide) (g_ts S kf_X5_69) (fun _ h9 => h9) rfl hd kk
theorem fg_X5_72 (S : CallFix p m c cc nL s args (wm y b maxL ret) RX5) (K : KK D cy s) (h : WH D A H0 H locs (wH cy q σ ++ (wE cy q ρ ++ ex))) (hd : decode cc pc = .ok (.getfield 72, 3)) (kk : W p l e R s m args below meth c H locs cells slots Q (F0 m (pc + 3) ls (.int (ρ 37 2) :: rest))) : W p l e R s m args below meth c H locs cells slots Q (F0 m pc ls (.ref (q 37) :: rest)) := va_get (D := D) (ci := 3) (v := .int (ρ 37 2)) (C := RX3) (T := TX3) (N := 6) S.1 S.2.1 S.2.2.2.2 (fun w g => List.mem_cons_of_mem _ (inX3 w g)) S.2.2.2.1 K.1 h.1 37 rfl rfl 2 (by decide) (g_ts S kf_X5_72) (fun _ h9 => h9) rfl hd kk
theorem fg_X5_75 (S : CallFix p m c cc nL s args (wm y b maxL ret) RX5) (K : KK D cy s) (h : WH D A H0 H locs (wH cy q σ ++ (wE cy q ρ ++ ex))) (hd : decode cc pc = .ok (.getfield 75, 3)) (kk : W p l e R s m args below meth c H locs cells slots Q (F0 m (pc + 3) ls (.int (ρ 37 3) :: rest))) : W p l e R s m args below meth c H locs cells slots Q (F0 m pc ls (.ref (q 37) :: rest)) := va_get (D := D) (ci := 3) (v := .int (ρ 37 3)) (C := RX3) (T := TX3) (N := 6) S.1 S.2.1 S.2.2.2.2 (fun w g => List.mem_cons_of_mem _ (inX3 w g)) S.2.2.2.1 K.1 h.1 37 rfl rfl 3 (by decide) (g_ts S kf_X5_75) (fun _ h9 => h9) rfl hd kk
theorem fg_X5_78 (S : CallFix p m c cc nL s args (wm y b maxL ret) RX5) (K : KK D cy s) (h : WH D A H0 H locs (wH cy q σ ++ (wE cy q ρ ++ ex))) (hd : decode cc pc = .ok (.getfield 78, 3)) (kk : W p l e R s m args below meth c H locs cells slots Q (F0 m (pc + 3) ls (.int (ρ 37 4) :: rest))) : W p l e R s m args below meth c H locs cells slots Q (F0 m pc ls (.ref (q 37) :: rest)) := va_get (D := D) (ci := 3) (v := .int (ρ 37 4)) (C := RX3) (T := TX3) (N := 6) S.1 S.2.1 S.2.2.2.2 (fun w g => List.mem_cons_of_mem _ (inX3 w g)) S.2.2.2.1 K.1 h.1 37 rfl rfl 4 (by decide) (g_ts S kf_X5_78) (fun _ h9 => h9) rfl hd kk
theorem fg_X5_81 (S : CallFix p m c cc nL s args (wm y b maxL ret) RX5) (K : KK D cy s) (h : WH D A H0 H locs (wH cy q σ ++ (wE cy q ρ ++ ex))) (hd : decode cc pc = .ok (.getfield 81, 3)) (kk : W p l e R s m args below meth c H locs cells slots Q (F0 m (pc + 3) ls (.ref (q 38) :: rest))) : W p l e R s m args below meth c H locs cells slots Q (F0 m pc ls (.ref (q 37) :: rest)) := va_get (D := D) (ci := 3) (v := .ref (q 38)) (C := RX3) (T := TX3) (N := 6) S.1 S.2.1 S.2.2.2.2 (fun w g => List.mem_cons_of_mem _ (inX3 w g)) S.2.2.2.1 K.1 h.1 37 rfl rfl 5 (by decide) (g_ts S kf_X5_81) (fun _ h9 => h9) rfl hd kk
theorem fg_X5_85 (S : CallFix p m c cc nL s args (wm y b maxL ret) RX5) (K : KK D cy s) (h : WH D A H0 H locs (wH cy q σ ++ ex)) (hd : decode cc pc = .ok (.getfield 85, 3)) (kk : W p l e R s m args below meth c H locs cells slots Q (F0 m (pc + 3) ls (.ref (q 1) :: rest))) : W p l e R s m args below meth c H locs cells slots Q (F0 m pc ls (.ref (q 0) :: rest)) := va_get (D := D) (ci := 0) (v := .ref (q 1)) (C := RX0) (T := TX0) (N := 9) S.1 S.2.1 S.2.2.2.2 (fun w g => List.mem_cons_of_mem _ (inX0 w g)) S.2.2.2.1 K.1 h.1 0 rfl rfl 0 (by decide) (g_ts S kf_X5_85) (fun _ h9 => h9) rfl hd kk
theorem fg_X5_88 (S : CallFix p m c cc nL s args (wm y b maxL ret) RX5) (K : KK D cy s) (h : WH D A H0 H locs (wH cy q σ ++ ex)) (hd : decode cc pc = .ok (.getfield 88, 3)) (kk : W p l e R s m args below meth c H locs cells slots Q (F0 m (pc + 3) ls (.ref (q 2) :: rest))) : W p l e R s m args below meth c H locs cells slots Q (F0 m pc ls (.ref (q 0) :: rest)) := va_get (D := D) (ci := 0) (v := .ref (q 2)) (C := RX0) (T := TX0) (N := 9) S.1 S.2.1 S.2.2.2.2 (fun w g => List.mem_cons_of_mem _ (inX0 w g)) S.2.2.2.1 K.1 h.1 0 rfl rfl 1 (by decide) (g_ts S kf_X5_88) (fun _ h9 => h9) rfl hd kk
theorem fg_X5_91 (S : CallFix p m c cc nL s args (wm y b maxL ret) RX5) (K : KK D cy s) (h : WH D A H0 H locs (wH cy q σ ++ ex)) (hd : decode cc pc = .ok (.getfield 91, 3)) (kk : W p l e R s m args below meth c H locs cells slots Q (F0 m (pc + 3) ls (.ref (q 9) :: rest))) : W p l e R s m args below meth c H locs cells slots Q (F0 m pc ls (.ref (q 0) :: rest)) := va_get (D := D) (ci := 0) (v := .ref (q 9)) (C := RX0) (T := TX0) (N := 9) S.1 S.2.1 S.2.2.2.2 (fun w g => List.mem_cons_of_mem _ (inX0 w g)) S.2.2.2.1 K.1 h.1 0 rfl rfl 2 (by decide) (g_ts S kf_X5_91) (fun _ h9 => h9) rfl hd kk
theorem fg_X6_100 (S : CallFix p m c cc nL s args (wm y b maxL ret) RX6) (K : KK D cy s) (h : WH D A H0 H locs (wM cy q σ ++ ex)) (hd : decode cc pc = .ok (.getfield 100, 3)) (kk : W p l e R s m args below meth c H locs cells slots Q (F0 m (pc + 3) ls (.int (σ 0 30) :: rest))) : W p l e R s m args below meth c H locs cells slots Q (F0 m pc ls (.ref (q 0) :: rest)) := va_get (D := D) (ci := 6) (v := .int (σ 0 30)) (C := RX6) (T := TX6) (N := 33) S.1 S.2.1 S.2.2.2.2 (fun w g => List.mem_cons_of_mem _ (inX6 w g)) S.2.2.2.1 K.1 h.1 0 rfl rfl 30 (by decide) (g_ts S kf_X6_100) (fun _ h9 => h9) rfl hd kk
theorem fg_X6_103 (S : CallFix p m c cc nL s args (wm y b maxL ret) RX6) (K : KK D cy s) (h : WH D A H0 H locs (wM cy q σ ++ ex)) (hd : decode cc pc = .ok (.getfield 103, 3)) (kk : W p l e R s m args below meth c H locs cells slots Q (F0 m (pc + 3) ls (.int (σ 0 31) :: rest))) : W p l e R s m args below meth c H locs cells slots Q (F0 m pc ls (.ref (q 0) :: rest)) := va_get (D := D) (ci := 6) (v := .int (σ 0 31)) (C := RX6) (T := TX6) (N := 33) S.1 S.2.1 S.2.2.2.2 (fun w g => List.mem_cons_of_mem _ (inX6 w g)) S.2.2.2.1 K.1 h.1 0 rfl rfl 31 (by decide) (g_ts S kf_X6_103) (fun _ h9 => h9) rfl hd kk
theorem fg_X6_121 (S : CallFix p m c cc nL s args (wm y b maxL ret) RX6) (K : KK D cy s) (h : WH D A H0 H locs (wM cy q σ ++ ex)) (hd : decode cc pc = .ok (.getfield 121, 3)) (kk : W p l e R s m args below meth c H locs cells slots Q (F0 m (pc + 3) ls (.int (σ 0 0) :: rest))) : W p l e R s m args below meth c H locs cells slots Q (F0 m pc ls (.ref (q 0) :: rest)) := va_get (D := D) (ci := 6) (v := .int (σ 0 0)) (C := RX6) (T := TX6) (N := 33) S.1 S.2.1 S.2.2.2.2 (fun w g => List.mem_cons_of_mem _ (inX6 w g)) S.2.2.2.1 K.1 h.1 0 rfl rfl 0 (by decide) (g_ts S kf_X6_121) (fun _ h9 => h9) rfl hd kk
theorem fg_X6_124 (S : CallFix p m c cc nL s args (wm y b maxL ret) RX6) (K : KK D cy s) (h : WH D A H0 H locs (wM cy q σ ++ ex)) (hd : decode cc pc = .ok (.getfield 124, 3)) (kk : W p l e R s m args below meth c H locs cells slots Q (F0 m (pc + 3) ls (.int (σ 0 5) :: rest))) : W p l e R s m args below meth c H locs cells slots Q (F0 m pc ls (.ref (q 0) :: rest)) := va_get (D := D) (ci := 6) (v := .int (σ 0 5)) (C := RX6) (T := TX6) (N := 33) S.1 S.2.1 S.2.2.2.2 (fun w g => List.mem_cons_of_mem _ (inX6 w g)) S.2.2.2.1 K.1 h.1 0 rfl rfl 5 (by decide) (g_ts S kf_X6_124) (fun _ h9 => h9) rfl hd kk
theorem fg_X6_127 (S : CallFix p m c cc nL s args (wm y b maxL ret) RX6) (K : KK D cy s) (h : WH D A H0 H locs (wM cy q σ ++ ex)) (hd : decode cc pc = .ok (.getfield 127, 3)) (kk : W p l e R s m args below meth c H locs cells slots Q (F0 m (pc + 3) ls (.int (σ 0 27) :: rest))) : W p l e R s m args below meth c H locs cells slots Q (F0 m pc ls (.ref (q 0) :: rest)) := va_get (D := D) (ci := 6) (v := .int (σ 0 27)) (C := RX6) (T := TX6) (N := 33) S.1 S.2.1 S.2.2.2.2 (fun w g => List.mem_cons_of_mem _ (inX6 w g)) S.2.2.2.1 K.1 h.1 0 rfl rfl 27 (by decide) (g_ts S kf_X6_127) (fun _ h9 => h9) rfl hd kk
theorem fg_X6_13 (S : CallFix p m c cc nL s args (wm y b maxL ret) RX6) (K : KK D cy s) (h : WH D A H0 H locs (wM cy q σ ++ ex)) (hd : decode cc pc = .ok (.getfield 13, 3)) (kk : W p l e R s m args below meth c H locs cells slots Q (F0 m (pc + 3) ls (.ref (q 2) :: rest))) : W p l e R s m args below meth c H locs cells slots Q (F0 m pc ls (.ref (q 0) :: rest)) := va_get (D := D) (ci := 6) (v := .ref (q 2)) (C := RX6) (T := TX6) (N := 33) S.1 S.2.1 S.2.2.2.2 (fun w g => List.mem_cons_of_mem _ (inX6 w g)) S.2.2.2.1 K.1 h.1 0 rfl rfl 2 (by decide) (g_ts S kf_X6_13) (fun _ h9 => h9) rfl hd kk
theorem fg_X6_16 (S : CallFix p m c cc nL s args (wm y b maxL ret) RX6) (K : KK D cy s) (h : WH D A H0 H locs (wM cy q σ ++ ex)) (hd : decode cc pc = .ok (.getfield 16, 3)) (kk : W p l e R s m args below meth c H locs cells slots Q (F0 m (pc + 3) ls (.ref (q 3) :: rest))) : W p l e R s m args below meth c H locs cells slots Q (F0 m pc ls (.ref (q 0) :: rest)) := va_get (D := D) (ci := 6) (v := .ref (q 3)) (C := RX6) (T := TX6) (N := 33) S.1 S.2.1 S.2.2.2.2 (fun w g => List.mem_cons_of_mem _ (inX6 w g)) S.2.2.2.1 K.1 h.1 0 rfl rfl 3 (by decide) (g_ts S kf_X6_16) (fun _ h9 => h9) rfl hd kk
theorem fg_X6_19 (S : CallFix p m c cc nL s args (wm y b maxL ret) RX6) (K : KK D cy s) (h : WH D A H0 H locs (wM cy q σ ++ ex)) (hd : decode cc pc = .ok (.getfield 19, 3)) (kk : W p l e R s m args below meth c H locs cells slots Q (F0 m (pc + 3) ls (.ref (q 4) :: rest))) : W p l e R s m args below meth c H locs cells slots Q (F0 m pc ls (.ref (q 0) :: rest)) := va_get (D := D) (ci := 6) (v := .ref (q 4)) (C := RX6) (T := TX6) (N := 33) S.1 S.2.1 S.2.2.2.2 (fun w g => List.mem_cons_of_mem _ (inX6 w g)) S.2.2.2.1 K.1 h.1 0 rfl rfl 4 (by decide) (g_ts S kf_X6_19) (fun _ h9 => h9) rfl hd kk
theorem fg_X6_22 (S : CallFix p m c cc nL s args (wm y b maxL ret) RX6) (K : KK D cy s) (h : WH D A H0 H locs (wM cy q σ ++ ex)) (hd : decode cc pc = .ok (.getfield 22, 3)) (kk : W p l e R s m args below meth c H locs cells slots Q (F0 m (pc + 3) ls (.ref (q 5) :: rest))) : W p l e R s m args below meth c H locs cells slots Q (F0 m pc ls (.ref (q 0) :: rest)) := va_get (D := D) (ci := 6) (v := .ref (q 5)) (C := RX6) (T := TX6) (N := 33) S.1 S.2.1 S.2.2.2.2 (fun w g => List.mem_cons_of_mem _ (inX6 w g)) S.2.2.2.1 K.1 h.1 0 rfl rfl 6 (by decide) (g_ts S kf_X6_22) (fun _ h9 => h9) rfl hd kk
theorem fg_X6_25 (S : CallFix p m c cc nL s args (wm y b maxL ret) RX6) (K : KK D cy s) (h : WH D A H0 H locs (wM cy q σ ++ ex)) (hd : decode cc pc = .ok (.getfield 25, 3)) (kk : W p l e R s m args below meth c H locs cells slots Q (F0 m (pc + 3) ls (.ref (q 6) :: rest))) : W p l e R s m args below meth c H locs cells slots Q (F0 m pc ls (.ref (q 0) :: rest)) := va_get (D := D) (ci := 6) (v := .ref (q 6)) (C := RX6) (T := TX6) (N := 33) S.1 S.2.1 S.2.2.2.2 (fun w g => List.mem_cons_of_mem _ (inX6 w g)) S.2.2.2.1 K.1 h.1 0 rfl rfl 7 (by decide) (g_ts S kf_X6_25) (fun _ h9 => h9) rfl hd kk
theorem fg_X6_28 (S : CallFix p m c cc nL s args (wm y b maxL ret) RX6) (K : KK D cy s) (h : WH D A H0 H locs (wM cy q σ ++ ex)) (hd : decode cc pc = .ok (.getfield 28, 3)) (kk : W p l e R s m args below meth c H locs cells slots Q (F0 m (pc + 3) ls (.ref (q 7) :: rest))) : W p l e R s m args below meth c H locs cells slots Q (F0 m pc ls (.ref (q 0) :: rest)) := va_get (D := D) (ci := 6) (v := .ref (q 7)) (C := RX6) (T := TX6) (N := 33) S.1 S.2.1 S.2.2.2.2 (fun w g => List.mem_cons_of_mem _ (inX6 w g)) S.2.2.2.1 K.1 h.1 0 rfl rfl 8 (by decide) (g_ts S kf_X6_28) (fun _ h9 => h9) rfl hd kk
theorem fg_X6_31 (S : CallFix p m c cc nL s args (wm y b maxL ret) RX6) (K : KK D cy s) (h : WH D A H0 H locs (wM cy q σ ++ ex)) (hd : decode cc pc = .ok (.getfield 31, 3)) (kk : W p l e R s m args below meth c H locs cells slots Q (F0 m (pc + 3) ls (.ref (q 8) :: rest))) : W p l e R s m args below meth c H locs cells slots Q (F0 m pc ls (.ref (q 0) :: rest)) := va_get (D := D) (ci := 6) (v := .ref (q 8)) (C := RX6) (T := TX6) (N := 33) S.1 S.2.1 S.2.2.2.2 (fun w g => List.mem_cons_of_mem _ (inX6 w g)) S.2.2.2.1 K.1 h.1 0 rfl rfl 9 (by decide) (g_ts S kf_X6_31) (fun _ h9 => h9) rfl hd kk
theorem fg_X6_34 (S : CallFix p m c cc nL s args (wm y b maxL ret) RX6) (K : KK D cy s) (h : WH D A H0 H locs (wM cy q σ ++ ex)) (hd : decode cc pc = .ok (.getfield 34, 3)) (kk : W p l e R s m args below meth c H locs cells slots Q (F0 m (pc + 3) ls (.ref (q 9) :: rest))) : W p l e R s m args below meth c H locs cells slots Q (F0 m pc ls (.ref (q 0) :: rest)) := va_get (D := D) (ci := 6) (v := .ref (q 9)) (C := RX6) (T := TX6) (N := 33) S.1 S.2.1 S.2.2.2.2 (fun w g => List.mem_cons_of_mem _ (inX6 w g)) S.2.2.2.1 K.1 h.1 0 rfl rfl 11 (by decide) (g_ts S kf_X6_34) (fun _ h9 => h9) rfl hd kk
theorem fg_X6_37 (S : CallFix p m c cc nL s args (wm y b maxL ret) RX6) (K : KK D cy s) (h : WH D A H0 H locs (wM cy q σ ++ ex)) (hd : decode cc pc = .ok (.getfield 37, 3)) (kk : W p l e R s m args below meth c H locs cells slots Q (F0 m (pc + 3) ls (.ref (q 10) :: rest))) : W p l e R s m args below meth c H locs cells slots Q (F0 m pc ls (.ref (q 0) :: rest)) := va_get (D := D) (ci := 6) (v := .ref (q 10)) (C := RX6) (T := TX6) (N := 33) S.1 S.2.1 S.2.2.2.2 (fun w g => List.mem_cons_of_mem _ (inX6 w g)) S.2.2.2.1 K.1 h.1 0 rfl rfl 12 (by decide) (g_ts S kf_X6_37) (fun _ h9 => h9) rfl hd kk
theorem fg_X6_40 (S : CallFix p m c cc nL s args (wm y b maxL ret) RX6) (K : KK D cy s) (h : WH D A H0 H locs (wM cy q σ ++ ex)) (hd : decode cc pc = .ok (.getfield 40, 3)) (kk : W p l e R s m args below meth c H locs cells slots Q (F0 m (pc + 3) ls (.ref (q 11) :: rest))) : W p l e R s m args below meth c H locs cells slots Q (F0 m pc ls (.ref (q 0) :: rest)) := va_get (D := D) (ci := 6) (v := .ref (q 11)) (C := RX6) (T := TX6) (N := 33) S.1 S.2.1 S.2.2.2.2 (fun w g => List.mem_cons_of_mem _ (inX6 w g)) S.2.2.2.1 K.1 h.1 0 rfl rfl 13 (by decide) (g_ts S kf_X6_40) (fun _ h9 => h9) rfl hd kk
theorem fg_X6_43 (S : CallFix p m c cc nL s args (wm y b maxL ret) RX6) (K : KK D cy s) (h : WH D A H0 H locs (wM cy q σ ++ ex)) (hd : decode cc pc = .ok (.getfield 43, 3)) (kk : W p l e R s m args below meth c H locs cells slots Q (F0 m (pc + 3) ls (.ref (q 12) :: rest))) : W p l e R s m args below meth c H locs cells slots Q (F0 m pc ls (.ref (q 0) :: rest)) := va_get (D := D) (ci := 6) (v := .ref (q 12)) (C := RX6) (T := TX6) (N := 33) S.1 S.2.1 S.2.2.2.2 (fun w g => List.mem_cons_of_mem _ (inX6 w g)) S.2.2.2.1 K.1 h.1 0 rfl rfl 14 (by decide) (g_ts S kf_X6_43) (fun _ h9 => h9) rfl hd kk
theorem fg_X6_46 (S : CallFix p m c cc nL s args (wm y b maxL ret) RX6) (K : KK D cy s) (h : WH D A H0 H locs (wM cy q σ ++ ex)) (hd : decode cc pc = .ok (.getfield 46, 3)) (kk : W p l e R s m args below meth c H locs cells slots Q (F0 m (pc + 3) ls (.ref (q 13) :: rest))) : W p l e R s m args below meth c H locs cells slots Q (F0 m pc ls (.ref (q 0) :: rest)) := va_get (D := D) (ci := 6) (v := .ref (q 13)) (C := RX6) (T := TX6) (N := 33) S.1 S.2.1 S.2.2.2.2 (fun w g => List.mem_cons_of_mem _ (inX6 w g)) S.2.2.2.1 K.1 h.1 0 rfl rfl 15 (by decide) (g_ts S kf_X6_46) (fun _ h9 => h9) rfl hd kk
theorem fg_X6_49 (S : CallFix p m c cc nL s args (wm y b maxL ret) RX6) (K : KK D cy s) (h : WH D A H0 H locs (wM cy q σ ++ ex)) (hd : decode cc pc = .ok (.getfield 49, 3)) (kk : W p l e R s m args below meth c H locs cells slots Q (F0 m (pc + 3) ls (.ref (q 14) :: rest))) : W p l e R s m args below meth c H locs cells slots Q (F0 m pc ls (.ref (q 0) :: rest)) := va_get (D := D) (ci := 6) (v := .ref (q 14)) (C := RX6) (T := TX6) (N := 33) S.1 S.2.1 S.2.2.2.2 (fun w g => List.mem_cons_of_mem _ (inX6 w g)) S.2.2.2.1 K.1 h.1 0 rfl rfl 16 (by decide) (g_ts S kf_X6_49) (fun _ h9 => h9) rfl hd kk
theorem fg_X6_52 (S : CallFix p m c cc nL s args (wm y b maxL ret) RX6) (K : KK D cy s) (h : WH D A H0 H locs (wM cy q σ ++ ex)) (hd : decode cc pc = .ok (.getfield 52, 3)) (kk : W p l e R s m args below meth c H locs cells slots Q (F0 m (pc + 3) ls (.ref (q 15) :: rest))) : W p l e R s m args below meth c H locs cells slots Q (F0 m pc ls (.ref (q 0) :: rest)) := va_get (D := D) (ci := 6) (v := .ref (q 15)) (C := RX6) (T := TX6) (N := 33) S.1 S.2.1 S.2.2.2.2 (fun w g => List.mem_cons_of_mem _ (inX6 w g)) S.2.2.2.1 K.1 h.1 0 rfl rfl 17 (by decide) (g_ts S kf_X6_52) (fun _ h9 => h9) rfl hd kk
theorem fg_X6_55 (S : CallFix p m c cc nL s args (wm y b maxL ret) RX6) (K : KK D cy s) (h : WH D A H0 H locs (wM cy q σ ++ ex)) (hd : decode cc pc = .ok (.getfield 55, 3)) (kk : W p l e R s m args below meth c H locs cells slots Q (F0 m (pc + 3) ls (.ref (q 16) :: rest))) : W p l e R s m args below meth c H locs cells slots Q (F0 m pc ls (.ref (q 0) :: rest)) := va_get (D := D) (ci := 6) (v := .ref (q 16)) (C := RX6) (T := TX6) (N := 33) S.1 S.2.1 S.2.2.2.2 (fun w g => List.mem_cons_of_mem _ (inX6 w g)) S.2.2.2.1 K.1 h.1 0 rfl rfl 18 (by decide) (g_ts S kf_X6_55) (fun _ h9 => h9) rfl hd kk
theorem fg_X6_58 (S : CallFix p m c cc nL s args (wm y b maxL ret) RX6) (K : KK D cy s) (h : WH D A H0 H locs (wM cy q σ ++ ex)) (hd : decode cc pc = .ok (.getfield 58, 3)) (kk : W p l e R s m args below meth c H locs cells slots Q (F0 m (pc + 3) ls (.ref (q 17) :: rest))) : W p l e R s m args below meth c H locs cells slots Q (F0 m pc ls (.ref (q 0) :: rest)) := va_get (D := D) (ci := 6) (v := .ref (q 17)) (C := RX6) (T := TX6) (N := 33) S.1 S.2.1 S.2.2.2.2 (fun w g => List.mem_cons_of_mem _ (inX6 w g)) S.2.2.2.1 K.1 h.1 0 rfl rfl 19 (by decide) (g_ts S kf_X6_58) (fun _ h9 => h9) rfl hd kk
theorem fg_X6_61 (S : CallFix p m c cc nL s args (wm y b maxL ret) RX6) (K : KK D cy s) (h : WH D A H0 H locs (wM cy q σ ++ ex)) (hd : decode cc pc = .ok (.getfield 61, 3)) (kk : W p l e R s m args below meth c H locs cells slots Q (F0 m (pc + 3) ls (.ref (q 18) :: rest))) : W p l e R s m args below meth c H locs cells slots Q (F0 m pc ls (.ref (q 0) :: rest)) := va_get (D := D) (ci := 6) (v := .ref (q 18)) (C := RX6) (T := TX6) (N := 33) S.1 S.2.1 S.2.2.2.2 (fun w g => List.mem_cons_of_mem _ (inX6 w g)) S.2.2.2.1 K.1 h.1 0 rfl rfl 20 (by decide) (g_ts S kf_X6_61) (fun _ h9 => h9) rfl hd kk
theorem fg_X6_64 (S : CallFix p m c cc nL s args (wm y b maxL ret) RX6) (K : KK D cy s) (h : WH D A H0 H locs (wM cy q σ ++ ex)) (hd : decode cc pc = .ok (.getfield 64, 3)) (kk : W p l e R s m args below meth c H locs cells slots Q (F0 m (pc + 3) ls (.ref (q 19) :: rest))) : W p l e R s m args below meth c H locs cells slots Q (F0 m pc ls (.ref (q 0) :: rest)) := va_get (D := D) (ci := 6) (v := .ref (q 19)) (C := RX6) (T := TX6) (N := 33) S.1 S.2.1 S.2.2.2.2 (fun w g => List.mem_cons_of_mem _ (inX6 w g)) S.2.2.2.1 K.1 h.1 0 rfl rfl 21 (by decide) (g_ts S kf_X6_64) (fun _ h9 => h9) rfl hd kk
theorem fg_X6_67 (S : CallFix p m c cc nL s args (wm y b maxL ret) RX6) (K : KK D cy s) (h : WH D A H0 H locs (wM cy q σ ++ ex)) (hd : decode cc pc = .ok (.getfield 67, 3)) (kk : W p l e R s m args below meth c H locs cells slots Q (F0 m (pc + 3) ls (.ref (q 20) :: rest))) : W p l e R s m args below meth c H locs cells slots Q (F0 m pc ls (.ref (q 0) :: rest)) := va_get (D := D) (ci := 6) (v := .ref (q 20)) (C := RX6) (T := TX6) (N := 33) S.1 S.2.1 S.2.2.2.2 (fun w g => List.mem_cons_of_mem _ (inX6 w g)) S.2.2.2.1 K.1 h.1 0 rfl rfl 22 (by decide) (g_ts S kf_X6_67) (fun _ h9 => h9) rfl hd kk
theorem fg_X6_7 (S : CallFix p m c cc nL s args (wm y b maxL ret) RX6) (K : KK D cy s) (h : WH D A H0 H locs (wM cy q σ ++ ex)) (hd : decode cc pc = .ok (.getfield 7, 3)) (kk : W p l e R s m args below meth c H locs cells slots Q (F0 m (pc + 3) ls (.ref (q 1) :: rest))) : W p l e R s m args below meth c H locs cells slots Q (F0 m pc ls (.ref (q 0) :: rest)) := va_get (D := D) (ci := 6) (v := .ref (q 1)) (C := RX6) (T := TX6) (N := 33) S.1 S.2.1 S.2.2.2.2 (fun w g => List.mem_cons_of_mem _ (inX6 w g)) S.2.2.2.1 K.1 h.1 0 rfl rfl 1 (by decide) (g_ts S kf_X6_7) (fun _ h9 => h9) rfl hd kk
theorem fg_X6_71 (S : CallFix p m c cc nL s args (wm y b maxL ret) RX6) (K : KK D cy s) (h : WH D A H0 H locs (wM cy q σ ++ ex)) (hd : decode cc pc = .ok (.getfield 71, 3)) (kk : W p l e R s m args below meth c H locs cells slots Q (F0 m (pc + 3) ls (.ref (q 21) :: rest))) : W p l e R s m args below meth c H locs cells slots Q (F0 m pc ls (.ref (q 0) :: rest)) := va_get (D := D) (ci := 6) (v := .ref (q 21)) (C := RX6) (T := TX6) (N := 33) S.1 S.2.1 S.2.2.2.2 (fun w g => List.mem_cons_of_mem _ (inX6 w g)) S.2.2.2.1 K.1 h.1 0 rfl rfl 23 (by decide) (g_ts S kf_X6_71) (fun _ h9 => h9) rfl hd kk
theorem fg_X6_74 (S : CallFix p m c cc nL s args (wm y b maxL ret) RX6) (K : KK D cy s) (h : WH D A H0 H locs (wM cy q σ ++ ex)) (hd : decode cc pc = .ok (.getfield 74, 3)) (kk : W p l e R s m args below meth c H locs cells slots Q (F0 m (pc + 3) ls (.ref (q 22) :: rest))) : W p l e R s m args below meth c H locs cells slots Q (F0 m pc ls (.ref (q 0) :: rest)) := va_get (D := D) (ci := 6) (v := .ref (q 22)) (C := RX6) (T := TX6) (N := 33) S.1 S.2.1 S.2.2.2.2 (fun w g => List.mem_cons_of_mem _ (inX6 w g)) S.2.2.2.1 K.1 h.1 0 rfl rfl 24 (by decide) (g_ts S kf_X6_74) (fun _ h9 => h9) rfl hd kk
theorem fg_X6_77 (S : CallFix p m c cc nL s args (wm y b maxL ret) RX6) (K : KK D cy s) (h : WH D A H0 H locs (wM cy q σ ++ ex)) (hd : decode cc pc = .ok (.getfield 77, 3)) (kk : W p l e R s m args below meth c H locs cells slots Q (F0 m (pc + 3) ls (.ref (q 23) :: rest))) : W p l e R s m args below meth c H locs cells slots Q (F0 m pc ls (.ref (q 0) :: rest)) := va_get (D := D) (ci := 6) (v := .ref (q 23)) (C := RX6) (T := TX6) (N := 33) S.1 S.2.1 S.2.2.2.2 (fun w g => List.mem_cons_of_mem _ (inX6 w g)) S.2.2.2.1 K.1 h.1 0 rfl rfl 32 (by decide) (g_ts S kf_X6_77) (fun _ h9 => h9) rfl hd kk
theorem fg_X6_84 (S : CallFix p m c cc nL s args (wm y b maxL ret) RX6) (K : KK D cy s) (h : WH D A H0 H locs (wM cy q σ ++ ex)) (hd : decode cc pc = .ok (.getfield 84, 3)) (kk : W p l e R s m args below meth c H locs cells slots Q (F0 m (pc + 3) ls (.int (σ 0 10) :: rest))) : W p l e R s m args below meth c H locs cells slots Q (F0 m pc ls (.ref (q 0) :: rest)) := va_get (D := D) (ci := 6) (v := .int (σ 0 10)) (C := RX6) (T := TX6) (N := 33) S.1 S.2.1 S.2.2.2.2 (fun w g => List.mem_cons_of_mem _ (inX6 w g)) S.2.2.2.1 K.1 h.1 0 rfl rfl 10 (by decide) (g_ts S kf_X6_84) (fun _ h9 => h9) rfl hd kk
theorem fg_X6_88 (S : CallFix p m c cc nL s args (wm y b maxL ret) RX6) (K : KK D cy s) (h : WH D A H0 H locs (wM cy q σ ++ ex)) (hd : decode cc pc = .ok (.getfield 88, 3)) (kk : W p l e R s m args below meth c H locs cells slots Q (F0 m (pc + 3) ls (.int (σ 0 25) :: rest))) : W p l e R s m args below meth c H locs cells slots Q (F0 m pc ls (.ref (q 0) :: rest)) := va_get (D := D) (ci := 6) (v := .int (σ 0 25)) (C := RX6) (T := TX6) (N := 33) S.1 S.2.1 S.2.2.2.2 (fun w g => List.mem_cons_of_mem _ (inX6 w g)) S.2.2.2.1 K.1 h.1 0 rfl rfl 25 (by decide) (g_ts S kf_X6_88) (fun _ h9 => h9) rfl hd kk
theorem fg_X6_91 (S : CallFix p m c cc nL s args (wm y b maxL ret) RX6) (K : KK D cy s) (h : WH D A H0 H locs (wM cy q σ ++ ex)) (hd : decode cc pc = .ok (.getfield 91, 3)) (kk : W p l e R s m args below meth c H locs cells slots Q (F0 m (pc + 3) ls (.int (σ 0 26) :: rest))) : W p l e R s m args below meth c H locs cells slots Q (F0 m pc ls (.ref (q 0) :: rest)) := va_get (D := D) (ci := 6) (v := .int (σ 0 26)) (C := RX6) (T := TX6) (N := 33) S.1 S.2.1 S.2.2.2.2 (fun w g => List.mem_cons_of_mem _ (inX6 w g)) S.2.2.2.1 K.1 h.1 0 rfl rfl 26 (by decide) (g_ts S kf_X6_91) (fun _ h9 => h9) rfl hd kk
theorem fg_X6_94 (S : CallFix p m c cc nL s args (wm y b maxL ret) RX6) (K : KK D cy s) (h : WH D A H0 H locs (wM cy q σ ++ ex)) (hd : decode cc pc = .ok (.getfield 94, 3)) (kk : W p l e R s m args below meth c H locs cells slots Q (F0 m (pc + 3) ls (.int (σ 0 28) :: rest))) : W p l e R s m args below meth c H locs cells slots Q (F0 m pc ls (.ref (q 0) :: rest)) := va_get (D := D) (ci := 6) (v := .int (σ 0 28)) (C := RX6) (T := TX6) (N := 33) S.1 S.2.1 S.2.2.2.2 (fun w g => List.mem_cons_of_mem _ (inX6 w g)) S.2.2.2.1 K.1 h.1 0 rfl rfl 28 (by decide) (g_ts S kf_X6_94) (fun _ h9 => h9) rfl hd kk
theorem fg_X6_97 (S : CallFix p m c cc nL s args (wm y b maxL ret) RX6) (K : KK D cy s) (h : WH D A H0 H locs (wM cy q σ ++ ex)) (hd : decode cc pc = .ok (.getfield 97, 3)) (kk : W p l e R s m args below meth c H locs cells slots Q (F0 m (pc + 3) ls (.int (σ 0 29) :: rest))) : W p l e R s m args below meth c H locs cells slots Q (F0 m pc ls (.ref (q 0) :: rest)) := va_get (D := D) (ci := 6) (v := .int (σ 0 29)) (C := RX6) (T := TX6) (N := 33) S.1 S.2.1 S.2.2.2.2 (fun w g => List.mem_cons_of_mem _ (inX6 w g)) S.2.2.2.1 K.1 h.1 0 rfl rfl 29 (by decide) (g_ts S kf_X6_97) (fun _ h9 => h9) rfl hd kk
theorem fp_X0_52 (S : CallFix p m c cc nL s args (wm y b maxL ret) RX0) (K : KK D cy s) (h : WH D A H0 H locs (wH cy q σ ++ ex)) {x : Int32} (hd : decode cc pc = .ok (.putfield 52, 3)) (kk : ∀ (H1 : Heap) (locs1 : List Loc), WH D A H0 H1 locs1 (wH cy q (st σ 9 0 x) ++ ex) → W p l e R s m args below meth c H1 locs1 cells slots Q (F0 m (pc + 3) ls rest)) : W p l e R s m args below meth c H locs cells slots Q (F0 m pc ls (.int x :: .ref (q 9) :: rest)) := va_put (D := D) (ci := 1) (v := .int x) (ty := .int) (C := RX1) (T := TX1) (N := 4) S.1 S.2.1 S.2.2.2.2 (fun w g => List.mem_cons_of_mem _ (inX1 w g)) tyX1 tyX1_ok nmX1 S.2.2.2.1 K.1 h.1 h.2.1 h.2.2 9 rfl rfl 3 (by decide) (g_ts S kf_X0_52) (fun _ h9 => h9) rfl (by decide +kernel) rfl rfl (Nat.le_of_ble_eq_true rfl) hd (fun H1 locs1 a b c => kk H1 locs1 ⟨a, b, c⟩)
theorem fp_X1_21 (S : CallFix p m c cc nL s args (wm y b maxL ret) RX1) (K : KK D cy s) (h : WH D A H0 H locs (wH cy q σ ++ ex)) {x : Int32} (hd : decode cc pc = .ok (.putfield 21, 3)) (kk : ∀ (H1 : Heap) (locs1 : List Loc), WH D A H0 H1 locs1 (wH cy q (st σ 9 0 x) ++ ex) → W p l e R s m args below meth c H1 locs1 cells slots Q (F0 m (pc + 3) ls rest)) : W p l e R s m args below meth c H locs cells slots Q (F0 m pc ls (.int x :: .ref (q 9) :: rest)) := va_put (D := D) (ci := 1) (v := .int x) (ty := .int) (C := RX1) (T := TX1) (N := 4) S.1 S.2.1 S.2.2.2.2 (fun w g => List.mem_cons_of_mem _ (inX1 w g)) tyX1 tyX1_ok nmX1 S.2.2.2.1 K.1 h.1 h.2.1 h.2.2 9 rfl rfl 3 (by decide) (g_ts S kf_X1_21) (fun _ h9 => h9) rfl (by decide +kernel) rfl rfl (Nat.le_of_ble_eq_true rfl) hd (fun H1 locs1 a b c => kk H1 locs1 ⟨a, b, c⟩)
theorem fp_X2_24 (S : CallFix p m c cc nL s args (wm y b maxL ret) RX2) (K : KK D cy s) (h : WH D A H0 H locs (wH cy q σ ++ (wE cy q ρ ++ ex))) {x : Int32} (hd : decode cc pc = .ok (.putfield 24, 3)) (kk : ∀ (H1 : Heap) (locs1 : List Loc), WH D A H0 H1 locs1 (wH cy q σ ++ (wE cy q (st ρ 28 0 x) ++ ex)) → W p l e R s m args below meth c H1 locs1 cells slots Q (F0 m (pc + 3) ls rest)) : W p l e R s m args below meth c H locs cells slots Q (F0 m pc ls (.int x :: .ref (q 28) :: rest)) := va_put (D := D) (ci := 2) (v := .int x) (ty := .int) (C := RX2) (T := TX2) (N := 10) S.1 S.2.1 S.2.2.2.2 (fun w g => List.mem_cons_of_mem _ (inX2 w g)) tyX2 tyX2_ok nmX2 S.2.2.2.1 K.1 h.1 h.2.1 h.2.2 28 rfl rfl 4 (by decide) (g_ts S kf_X2_24) (fun _ h9 => h9) rfl (by decide +kernel) rfl rfl (Nat.le_of_ble_eq_true rfl) hd (fun H1 locs1 a b c => kk H1 locs1 ⟨a, b, c⟩)
theorem fp_X2_40 (S : CallFix p m c cc nL s args (wm y b maxL ret) RX2) (K : KK D cy s) (h : WH D A H0 H locs (wH cy q σ ++ (wE cy q ρ ++ ex))) {x : Int32} (hd : decode cc pc = .ok (.putfield 40, 3)) (kk : ∀ (H1 : Heap) (locs1 : List Loc), WH D A H0 H1 locs1 (wH cy q σ ++ (wE cy q (st ρ 28 1 x) ++ ex)) → W p l e R s m args below meth c H1 locs1 cells slots Q (F0 m (pc + 3) ls rest)) : W p l e R s m args below meth c H locs cells slots Q (F0 m pc ls (.int x :: .ref (q 28) :: rest)) := va_put (D := D) (ci := 2) (v := .int x) (ty := .int) (C := RX2) (T := TX2) (N := 10) S.1 S.2.1 S.2.2.2.2 (fun w g => List.mem_cons_of_mem _ (inX2 w g)) tyX2 tyX2_ok nmX2 S.2.2.2.1 K.1 h.1 h.2.1 h.2.2 28 rfl rfl 9 (by decide) (g_ts S kf_X2_40) (fun _ h9 => h9) rfl (by decide +kernel) rfl rfl (Nat.le_of_ble_eq_true rfl) hd (fun H1 locs1 a b c => kk H1 locs1 ⟨a, b, c⟩)
theorem fp_X3_15 (S : CallFix p m c cc nL s args (wm y b maxL ret) RX3) (K : KK D cy s) (h : WH D A H0 H locs (wH cy q σ ++ (wE cy q ρ ++ ex))) {x : Int32} (hd : decode cc pc = .ok (.putfield 15, 3)) (kk : ∀ (H1 : Heap) (locs1 : List Loc), WH D A H0 H1 locs1 (wH cy q σ ++ (wE cy q (st ρ 37 1 x) ++ ex)) → W p l e R s m args below meth c H1 locs1 cells slots Q (F0 m (pc + 3) ls rest)) : W p l e R s m args below meth c H locs cells slots Q (F0 m pc ls (.int x :: .ref (q 37) :: rest)) := va_put (D := D) (ci := 3) (v := .int x) (ty := .int) (C := RX3) (T := TX3) (N := 6) S.1 S.2.1 S.2.2.2.2 (fun w g => List.mem_cons_of_mem _ (inX3 w g)) tyX3 tyX3_ok nmX3 S.2.2.2.1 K.1 h.1 h.2.1 h.2.2 37 rfl rfl 1 (by decide) (g_ts S kf_X3_15) (fun _ h9 => h9) rfl (by decide +kernel) rfl rfl (Nat.le_of_ble_eq_true rfl) hd (fun H1 locs1 a b c => kk H1 locs1 ⟨a, b, c⟩)
theorem fp_X3_18 (S : CallFix p m c cc nL s args (wm y b maxL ret) RX3) (K : KK D cy s) (h : WH D A H0 H locs (wH cy q σ ++ (wE cy q ρ ++ ex))) {x : Int32} (hd : decode cc pc = .ok (.putfield 18, 3)) (kk : ∀ (H1 : Heap) (locs1 : List Loc), WH D A H0 H1 locs1 (wH cy q σ ++ (wE cy q (st ρ 37 2 x) ++ ex)) → W p l e R s m args below meth c H1 locs1 cells slots Q (F0 m (pc + 3) ls rest)) : W p l e R s m args below meth c H locs cells slots Q (F0 m pc ls (.int x :: .ref (q 37) :: rest)) := va_put (D := D) (ci := 3) (v := .int x) (ty := .int) (C := RX3) (T := TX3) (N := 6) S.1 S.2.1 S.2.2.2.2 (fun w g => List.mem_cons_of_mem _ (inX3 w g)) tyX3 tyX3_ok nmX3 S.2.2.2.1 K.1 h.1 h.2.1 h.2.2 37 rfl rfl 2 (by decide) (g_ts S kf_X3_18) (fun _ h9 => h9) rfl (by decide +kernel) rfl rfl (Nat.le_of_ble_eq_true rfl) hd (fun H1 locs1 a b c => kk H1 locs1 ⟨a, b, c⟩)
theorem fp_X3_21 (S : CallFix p m c cc nL s args (wm y b maxL ret) RX3) (K : KK D cy s) (h : WH D A H0 H locs (wH cy q σ ++ (wE cy q ρ ++ ex))) {x : Int32} (hd : decode cc pc = .ok (.putfield 21, 3)) (kk : ∀ (H1 : Heap) (locs1 : List Loc), WH D A H0 H1 locs1 (wH cy q σ ++ (wE cy q (st ρ 37 3 x) ++ ex)) → W p l e R s m args below meth c H1 locs1 cells slots Q (F0 m (pc + 3) ls rest)) : W p l e R s m args below meth c H locs cells slots Q (F0 m pc ls (.int x :: .ref (q 37) :: rest)) := va_put (D := D) (ci := 3) (v := .int x) (ty := .int) (C := RX3) (T := TX3) (N := 6) S.1 S.2.1 S.2.2.2.2 (fun w g => List.mem_cons_of_mem _ (inX3 w g)) tyX3 tyX3_ok nmX3 S.2.2.2.1 K.1 h.1 h.2.1 h.2.2 37 rfl rfl 3 (by decide) (g_ts S kf_X3_21) (fun _ h9 => h9) rfl (by decide +kernel) rfl rfl (Nat.le_of_ble_eq_true rfl) hd (fun H1 locs1 a b c => kk H1 locs1 ⟨a, b, c⟩)
theorem fp_X3_24 (S : CallFix p m c cc nL s args (wm y b maxL ret) RX3) (K : KK D cy s) (h : WH D A H0 H locs (wH cy q σ ++ (wE cy q ρ ++ ex))) {x : Int32} (hd : decode cc pc = .ok (.putfield 24, 3)) (kk : ∀ (H1 : Heap) (locs1 : List Loc), WH D A H0 H1 locs1 (wH cy q σ ++ (wE cy q (st ρ 37 4 x) ++ ex)) → W p l e R s m args below meth c H1 locs1 cells slots Q (F0 m (pc + 3) ls rest)) : W p l e R s m args below meth c H locs cells slots Q (F0 m pc ls (.int x :: .ref (q 37) :: rest)) := va_put (D := D) (ci := 3) (v := .int x) (ty := .int) (C := RX3) (T := TX3) (N := 6) S.1 S.2.1 S.2.2.2.2 (fun w g => List.mem_cons_of_mem _ (inX3 w g)) tyX3 tyX3_ok nmX3 S.2.2.2.1 K.1 h.1 h.2.1 h.2.2 37 rfl rfl 4 (by decide) (g_ts S kf_X3_24) (fun _ h9 => h9) rfl (by decide +kernel) rfl rfl (Nat.le_of_ble_eq_true rfl) hd (fun H1 locs1 a b c => kk H1 locs1 ⟨a, b, c⟩)
theorem fp_X3_9 (S : CallFix p m c cc nL s args (wm y b maxL ret) RX3) (K : KK D cy s) (h : WH D A H0 H locs (wH cy q σ ++ (wE cy q ρ ++ ex))) {x : Int32} (hd : decode cc pc = .ok (.putfield 9, 3)) (kk : ∀ (H1 : Heap) (locs1 : List Loc), WH D A H0 H1 locs1 (wH cy q σ ++ (wE cy q (st ρ 37 0 x) ++ ex)) → W p l e R s m args below meth c H1 locs1 cells slots Q (F0 m (pc + 3) ls rest)) : W p l e R s m args below meth c H locs cells slots Q (F0 m pc ls (.int x :: .ref (q 37) :: rest)) := va_put (D := D) (ci := 3) (v := .int x) (ty := .int) (C := RX3) (T := TX3) (N := 6) S.1 S.2.1 S.2.2.2.2 (fun w g => List.mem_cons_of_mem _ (inX3 w g)) tyX3 tyX3_ok nmX3 S.2.2.2.1 K.1 h.1 h.2.1 h.2.2 37 rfl rfl 0 (by decide) (g_ts S kf_X3_9) (fun _ h9 => h9) rfl (by decide +kernel) rfl rfl (Nat.le_of_ble_eq_true rfl) hd (fun H1 locs1 a b c => kk H1 locs1 ⟨a, b, c⟩)
theorem fp_X4_15 (S : CallFix p m c cc nL s args (wm y b maxL ret) RX4) (K : KK D cy s) {r : Nat} (hr : r < 7) (h : WH D A H0 H locs (wH cy q σ ++ ex)) {x : Int32} (hd : decode cc pc = .ok (.putfield 15, 3)) (kk : ∀ (H1 : Heap) (locs1 : List Loc), WH D A H0 H1 locs1 (wH cy q (st σ 14 r x) ++ ex) → W p l e R s m args below meth c H1 locs1 cells slots Q (F0 m (pc + 3) ls rest)) : W p l e R s m args below meth c H locs cells slots Q (F0 m pc ls (.int x :: .ref (q (13 + r)) :: rest)) := va_put (D := D) (ci := 4) (v := .int x) (ty := .int) (C := RX4) (T := TX4) (N := 3) S.1 S.2.1 S.2.2.2.2 (fun w g => List.mem_cons_of_mem _ (inX4 w g)) tyX4 tyX4_ok nmX4 S.2.2.2.1 K.1 h.1 h.2.1 h.2.2 (13 + r) (row_at cy q σ ex hr) rfl 1 (by decide) (g_ts S kf_X4_15) (fun _ h9 => h9) rfl (by decide +kernel) rfl rfl (Nat.le_of_ble_eq_true rfl) hd (fun H1 locs1 a b c => kk H1 locs1 (by rw [← row_set_length cy q σ ex hr x]; exact ⟨a, b, c⟩))
theorem fp_X4_9 (S : CallFix p m c cc nL s args (wm y b maxL ret) RX4) (K : KK D cy s) {r : Nat} (hr : r < 7) (h : WH D A H0 H locs (wH cy q σ ++ ex)) {x : Int32} (hd : decode cc pc = .ok (.putfield 9, 3)) (kk : ∀ (H1 : Heap) (locs1 : List Loc), WH D A H0 H1 locs1 (wH cy q (st σ 13 r x) ++ ex) → W p l e R s m args below meth c H1 locs1 cells slots Q (F0 m (pc + 3) ls rest)) : W p l e R s m args below meth c H locs cells slots Q (F0 m pc ls (.int x :: .ref (q (13 + r)) :: rest)) := va_put (D := D) (ci := 4) (v := .int x) (ty := .int) (C := RX4) (T := TX4) (N := 3) S.1 S.2.1 S.2.2.2.2 (fun w g => List.mem_cons_of_mem _ (inX4 w g)) tyX4 tyX4_ok nmX4 S.2.2.2.1 K.1 h.1 h.2.1 h.2.2 (13 + r) (row_at cy q σ ex hr) rfl 0 (by decide) (g_ts S kf_X4_9) (fun _ h9 => h9) rfl (by decide +kernel) rfl rfl (Nat.le_of_ble_eq_true rfl) hd (fun H1 locs1 a b c => kk H1 locs1 (by rw [← row_set_kind cy q σ ex hr x]; exact ⟨a, b, c⟩))
theorem fp_X5_45 (S : CallFix p m c cc nL s args (wm y b maxL ret) RX5) (K : KK D cy s) (h : WH D A H0 H locs (wH cy q σ ++ (wE cy q ρ ++ ex))) {x : Int32} (hd : decode cc pc = .ok (.putfield 45, 3)) (kk : ∀ (H1 : Heap) (locs1 : List Loc), WH D A H0 H1 locs1 (wH cy q σ ++ (wE cy q (st ρ 28 0 x) ++ ex)) → W p l e R s m args below meth c H1 locs1 cells slots Q (F0 m (pc + 3) ls rest)) : W p l e R s m args below meth c H locs cells slots Q (F0 m pc ls (.int x :: .ref (q 28) :: rest)) := va_put (D := D) (ci := 2) (v := .int x) (ty := .int) (C := RX2) (T := TX2) (N := 10) S.1 S.2.1 S.2.2.2.2 (fun w g => List.mem_cons_of_mem _ (inX2 w g)) tyX2 tyX2_ok nmX2 S.2.2.2.1 K.1 h.1 h.2.1 h.2.2 28 rfl rfl 4 (by decide) (g_ts S kf_X5_45) (fun _ h9 => h9) rfl (by decide +kernel) rfl rfl (Nat.le_of_ble_eq_true rfl) hd (fun H1 locs1 a b c => kk H1 locs1 ⟨a, b, c⟩)
theorem fp_X5_49 (S : CallFix p m c cc nL s args (wm y b maxL ret) RX5) (K : KK D cy s) (h : WH D A H0 H locs (wH cy q σ ++ (wE cy q ρ ++ ex))) {x : Int32} (hd : decode cc pc = .ok (.putfield 49, 3)) (kk : ∀ (H1 : Heap) (locs1 : List Loc), WH D A H0 H1 locs1 (wH cy q σ ++ (wE cy q (st ρ 28 1 x) ++ ex)) → W p l e R s m args below meth c H1 locs1 cells slots Q (F0 m (pc + 3) ls rest)) : W p l e R s m args below meth c H locs cells slots Q (F0 m pc ls (.int x :: .ref (q 28) :: rest)) := va_put (D := D) (ci := 2) (v := .int x) (ty := .int) (C := RX2) (T := TX2) (N := 10) S.1 S.2.1 S.2.2.2.2 (fun w g => List.mem_cons_of_mem _ (inX2 w g)) tyX2 tyX2_ok nmX2 S.2.2.2.1 K.1 h.1 h.2.1 h.2.2 28 rfl rfl 9 (by decide) (g_ts S kf_X5_49) (fun _ h9 => h9) rfl (by decide +kernel) rfl rfl (Nat.le_of_ble_eq_true rfl) hd (fun H1 locs1 a b c => kk H1 locs1 ⟨a, b, c⟩)
theorem fp_X5_66 (S : CallFix p m c cc nL s args (wm y b maxL ret) RX5) (K : KK D cy s) (h : WH D A H0 H locs (wH cy q σ ++ (wE cy q ρ ++ ex))) {x : Int32} (hd : decode cc pc = .ok (.putfield 66, 3)) (kk : ∀ (H1 : Heap) (locs1 : List Loc), WH D A H0 H1 locs1 (wH cy q σ ++ (wE cy q (st ρ 37 0 x) ++ ex)) → W p l e R s m args below meth c H1 locs1 cells slots Q (F0 m (pc + 3) ls rest)) : W p l e R s m args below meth c H locs cells slots Q (F0 m pc ls (.int x :: .ref (q 37) :: rest)) := va_put (D := D) (ci := 3) (v := .int x) (ty := .int) (C := RX3) (T := TX3) (N := 6) S.1 S.2.1 S.2.2.2.2 (fun w g => List.mem_cons_of_mem _ (inX3 w g)) tyX3 tyX3_ok nmX3 S.2.2.2.1 K.1 h.1 h.2.1 h.2.2 37 rfl rfl 0 (by decide) (g_ts S kf_X5_66) (fun _ h9 => h9) rfl (by decide +kernel) rfl rfl (Nat.le_of_ble_eq_true rfl) hd (fun H1 locs1 a b c => kk H1 locs1 ⟨a, b, c⟩)
theorem fp_X5_69 (S : CallFix p m c cc nL s args (wm y b maxL ret) RX5) (K : KK D cy s) (h : WH D A H0 H locs (wH cy q σ ++ (wE cy q ρ ++ ex))) {x : Int32} (hd : decode cc pc = .ok (.putfield 69, 3)) (kk : ∀ (H1 : Heap) (locs1 : List Loc), WH D A H0 H1 locs1 (wH cy q σ ++ (wE cy q (st ρ 37 1 x) ++ ex)) → W p l e R s m args below meth c H1 locs1 cells slots Q (F0 m (pc + 3) ls rest)) : W p l e R s m args below meth c H locs cells slots Q (F0 m pc ls (.int x :: .ref (q 37) :: rest)) := va_put (D := D) (ci := 3) (v := .int x) (ty := .int) (C := RX3) (T := TX3) (N := 6) S.1 S.2.1 S.2.2.2.2 (fun w g => List.mem_cons_of_mem _ (inX3 w g)) tyX3 tyX3_ok nmX3 S.2.2.2.1 K.1 h.1 h.2.1 h.2.2 37 rfl rfl 1 (by decide) (g_ts S kf_X5_69) (fun _ h9 => h9) rfl (by decide +kernel) rfl rfl (Nat.le_of_ble_eq_true rfl) hd (fun H1 locs1 a b c => kk H1 locs1 ⟨a, b, c⟩)
theorem fp_X5_72 (S : CallFix p m c cc nL s args (wm y b maxL ret) RX5) (K : KK D cy s) (h : WH D A H0 H locs (wH cy q σ ++ (wE cy q ρ ++ ex))) {x : Int32} (hd : decode cc pc = .ok (.putfield 72, 3)) (kk : ∀ (H1 : Heap) (locs1 : List Loc), WH D A H0 H1 locs1 (wH cy q σ ++ (wE cy q (st ρ 37 2 x) ++ ex)) → W p l e R s m args below meth c H1 locs1 cells slots Q (F0 m (pc + 3) ls rest)) : W p l e R s m args below meth c H locs cells slots Q (F0 m pc ls (.int x :: .ref (q 37) :: rest)) := va_put (D := D) (ci := 3) (v := .int x) (ty := .int) (C := RX3) (T := TX3) (N := 6) S.1 S.2.1 S.2.2.2.2 (fun w g => List.mem_cons_of_mem _ (inX3 w g)) tyX3 tyX3_ok nmX3 S.2.2.2.1 K.1 h.1 h.2.1 h.2.2 37 rfl rfl 2 (by decide) (g_ts S kf_X5_72) (fun _ h9 => h9) rfl (by decide +kernel) rfl rfl (Nat.le_of_ble_eq_true rfl) hd (fun H1 locs1 a b c => kk H1 locs1 ⟨a, b, c⟩)
theorem fp_X5_75 (S : CallFix p m c cc nL s args (wm y b maxL ret) RX5) (K : KK D cy s) (h : WH D A H0 H locs (wH cy q σ ++ (wE cy q ρ ++ ex))) {x : Int32} (hd : decode cc pc = .ok (.putfield 75, 3)) (kk : ∀ (H1 : Heap) (locs1 : List Loc), WH D A H0 H1 locs1 (wH cy q σ ++ (wE cy q (st ρ 37 3 x) ++ ex)) → W p l e R s m args below meth c H1 locs1 cells slots Q (F0 m (pc + 3) ls rest)) : W p l e R s m args below meth c H locs cells slots Q (F0 m pc ls (.int x :: .ref (q 37) :: rest)) := va_put (D := D) (ci := 3) (v := .int x) (ty := .int) (C := RX3) (T := TX3) (N := 6) S.1 S.2.1 S.2.2.2.2 (fun w g => List.mem_cons_of_mem _ (inX3 w g)) tyX3 tyX3_ok nmX3 S.2.2.2.1 K.1 h.1 h.2.1 h.2.2 37 rfl rfl 3 (by decide) (g_ts S kf_X5_75) (fun _ h9 => h9) rfl (by decide +kernel) rfl rfl (Nat.le_of_ble_eq_true rfl) hd (fun H1 locs1 a b c => kk H1 locs1 ⟨a, b, c⟩)
theorem fp_X5_78 (S : CallFix p m c cc nL s args (wm y b maxL ret) RX5) (K : KK D cy s) (h : WH D A H0 H locs (wH cy q σ ++ (wE cy q ρ ++ ex))) {x : Int32} (hd : decode cc pc = .ok (.putfield 78, 3)) (kk : ∀ (H1 : Heap) (locs1 : List Loc), WH D A H0 H1 locs1 (wH cy q σ ++ (wE cy q (st ρ 37 4 x) ++ ex)) → W p l e R s m args below meth c H1 locs1 cells slots Q (F0 m (pc + 3) ls rest)) : W p l e R s m args below meth c H locs cells slots Q (F0 m pc ls (.int x :: .ref (q 37) :: rest)) := va_put (D := D) (ci := 3) (v := .int x) (ty := .int) (C := RX3) (T := TX3) (N := 6) S.1 S.2.1 S.2.2.2.2 (fun w g => List.mem_cons_of_mem _ (inX3 w g)) tyX3 tyX3_ok nmX3 S.2.2.2.1 K.1 h.1 h.2.1 h.2.2 37 rfl rfl 4 (by decide) (g_ts S kf_X5_78) (fun _ h9 => h9) rfl (by decide +kernel) rfl rfl (Nat.le_of_ble_eq_true rfl) hd (fun H1 locs1 a b c => kk H1 locs1 ⟨a, b, c⟩)
theorem fp_X6_100 (S : CallFix p m c cc nL s args (wm y b maxL ret) RX6) (K : KK D cy s) (h : WH D A H0 H locs (wM cy q σ ++ ex)) {x : Int32} (hd : decode cc pc = .ok (.putfield 100, 3)) (kk : ∀ (H1 : Heap) (locs1 : List Loc), WH D A H0 H1 locs1 (wM cy q (st σ 0 30 x) ++ ex) → W p l e R s m args below meth c H1 locs1 cells slots Q (F0 m (pc + 3) ls rest)) : W p l e R s m args below meth c H locs cells slots Q (F0 m pc ls (.int x :: .ref (q 0) :: rest)) := va_put (D := D) (ci := 6) (v := .int x) (ty := .int) (C := RX6) (T := TX6) (N := 33) S.1 S.2.1 S.2.2.2.2 (fun w g => List.mem_cons_of_mem _ (inX6 w g)) tyX6 tyX6_ok nmX6 S.2.2.2.1 K.1 h.1 h.2.1 h.2.2 0 rfl rfl 30 (by decide) (g_ts S kf_X6_100) (fun _ h9 => h9) rfl (by decide +kernel) rfl rfl (Nat.le_of_ble_eq_true rfl) hd (fun H1 locs1 a b c => kk H1 locs1 ⟨a, b, c⟩)
theorem fp_X6_103 (S : CallFix p m c cc nL s args (wm y b maxL ret) RX6) (K : KK D cy s) (h : WH D A H0 H locs (wM cy q σ ++ ex)) {x : Int32} (hd : decode cc pc = .ok (.putfield 103, 3)) (kk : ∀ (H1 : Heap) (locs1 : List Loc), WH D A H0 H1 locs1 (wM cy q (st σ 0 31 x) ++ ex) → W p l e R s m args below meth c H1 locs1 cells slots Q (F0 m (pc + 3) ls rest)) : W p l e R s m args below meth c H locs cells slots Q (F0 m pc ls (.int x :: .ref (q 0) :: rest)) := va_put (D := D) (ci := 6) (v := .int x) (ty := .int) (C := RX6) (T := TX6) (N := 33) S.1 S.2.1 S.2.2.2.2 (fun w g => List.mem_cons_of_mem _ (inX6 w g)) tyX6 tyX6_ok nmX6 S.2.2.2.1 K.1 h.1 h.2.1 h.2.2 0 rfl rfl 31 (by decide) (g_ts S kf_X6_103) (fun _ h9 => h9) rfl (by decide +kernel) rfl rfl (Nat.le_of_ble_eq_true rfl) hd (fun H1 locs1 a b c => kk H1 locs1 ⟨a, b, c⟩)
theorem fp_X6_121 (S : CallFix p m c cc nL s args (wm y b maxL ret) RX6) (K : KK D cy s) (h : WH D A H0 H locs (wM cy q σ ++ ex)) {x : Int32} (hd : decode cc pc = .ok (.putfield 121, 3)) (kk : ∀ (H1 : Heap) (locs1 : List Loc), WH D A H0 H1 locs1 (wM cy q (st σ 0 0 x) ++ ex) → W p l e R s m args below meth c H1 locs1 cells slots Q (F0 m (pc + 3) ls rest)) : W p l e R s m args below meth c H locs cells slots Q (F0 m pc ls (.int x :: .ref (q 0) :: rest)) := va_put (D := D) (ci := 6) (v := .int x) (ty := .int) (C := RX6) (T := TX6) (N := 33) S.1 S.2.1 S.2.2.2.2 (fun w g => List.mem_cons_of_mem _ (inX6 w g)) tyX6 tyX6_ok nmX6 S.2.2.2.1 K.1 h.1 h.2.1 h.2.2 0 rfl rfl 0 (by decide) (g_ts S kf_X6_121) (fun _ h9 => h9) rfl (by decide +kernel) rfl rfl (Nat.le_of_ble_eq_true rfl) hd (fun H1 locs1 a b c => kk H1 locs1 ⟨a, b, c⟩)
theorem fp_X6_124 (S : CallFix p m c cc nL s args (wm y b maxL ret) RX6) (K : KK D cy s) (h : WH D A H0 H locs (wM cy q σ ++ ex)) {x : Int32} (hd : decode cc pc = .ok (.putfield 124, 3)) (kk : ∀ (H1 : Heap) (locs1 : List Loc), WH D A H0 H1 locs1 (wM cy q (st σ 0 5 x) ++ ex) → W p l e R s m args below meth c H1 locs1 cells slots Q (F0 m (pc + 3) ls rest)) : W p l e R s m args below meth c H locs cells slots Q (F0 m pc ls (.int x :: .ref (q 0) :: rest)) := va_put (D := D) (ci := 6) (v := .int x) (ty := .int) (C := RX6) (T := TX6) (N := 33) S.1 S.2.1 S.2.2.2.2 (fun w g => List.mem_cons_of_mem _ (inX6 w g)) tyX6 tyX6_ok nmX6 S.2.2.2.1 K.1 h.1 h.2.1 h.2.2 0 rfl rfl 5 (by decide) (g_ts S kf_X6_124) (fun _ h9 => h9) rfl (by decide +kernel) rfl rfl (Nat.le_of_ble_eq_true rfl) hd (fun H1 locs1 a b c => kk H1 locs1 ⟨a, b, c⟩)
theorem fp_X6_127 (S : CallFix p m c cc nL s args (wm y b maxL ret) RX6) (K : KK D cy s) (h : WH D A H0 H locs (wM cy q σ ++ ex)) {x : Int32} (hd : decode cc pc = .ok (.putfield 127, 3)) (kk : ∀ (H1 : Heap) (locs1 : List Loc), WH D A H0 H1 locs1 (wM cy q (st σ 0 27 x) ++ ex) → W p l e R s m args below meth c H1 locs1 cells slots Q (F0 m (pc + 3) ls rest)) : W p l e R s m args below meth c H locs cells slots Q (F0 m pc ls (.int x :: .ref (q 0) :: rest)) := va_put (D := D) (ci := 6) (v := .int x) (ty := .int) (C := RX6) (T := TX6) (N := 33) S.1 S.2.1 S.2.2.2.2 (fun w g => List.mem_cons_of_mem _ (inX6 w g)) tyX6 tyX6_ok nmX6 S.2.2.2.1 K.1 h.1 h.2.1 h.2.2 0 rfl rfl 27 (by decide) (g_ts S kf_X6_127) (fun _ h9 => h9) rfl (by decide +kernel) rfl rfl (Nat.le_of_ble_eq_true rfl) hd (fun H1 locs1 a b c => kk H1 locs1 ⟨a, b, c⟩)
theorem fp_X6_84 (S : CallFix p m c cc nL s args (wm y b maxL ret) RX6) (K : KK D cy s) (h : WH D A H0 H locs (wM cy q σ ++ ex)) {x : Int32} (hd : decode cc pc = .ok (.putfield 84, 3)) (kk : ∀ (H1 : Heap) (locs1 : List Loc), WH D A H0 H1 locs1 (wM cy q (st σ 0 10 x) ++ ex) → W p l e R s m args below meth c H1 locs1 cells slots Q (F0 m (pc + 3) ls rest)) : W p l e R s m args below meth c H locs cells slots Q (F0 m pc ls (.int x :: .ref (q 0) :: rest)) := va_put (D := D) (ci := 6) (v := .int x) (ty := .int) (C := RX6) (T := TX6) (N := 33) S.1 S.2.1 S.2.2.2.2 (fun w g => List.mem_cons_of_mem _ (inX6 w g)) tyX6 tyX6_ok nmX6 S.2.2.2.1 K.1 h.1 h.2.1 h.2.2 0 rfl rfl 10 (by decide) (g_ts S kf_X6_84) (fun _ h9 => h9) rfl (by decide +kernel) rfl rfl (Nat.le_of_ble_eq_true rfl) hd (fun H1 locs1 a b c => kk H1 locs1 ⟨a, b, c⟩)
theorem fp_X6_88 (S : CallFix p m c cc nL s args (wm y b maxL ret) RX6) (K : KK D cy s) (h : WH D A H0 H locs (wM cy q σ ++ ex)) {x : Int32} (hd : decode cc pc = .ok (.putfield 88, 3)) (kk : ∀ (H1 : Heap) (locs1 : List Loc), WH D A H0 H1 locs1 (wM cy q (st σ 0 25 x) ++ ex) → W p l e R s m args below meth c H1 locs1 cells slots Q (F0 m (pc + 3) ls rest)) : W p l e R s m args below meth c H locs cells slots Q (F0 m pc ls (.int x :: .ref (q 0) :: rest)) := va_put (D := D) (ci := 6) (v := .int x) (ty := .int) (C := RX6) (T := TX6) (N := 33) S.1 S.2.1 S.2.2.2.2 (fun w g => List.mem_cons_of_mem _ (inX6 w g)) tyX6 tyX6_ok nmX6 S.2.2.2.1 K.1 h.1 h.2.1 h.2.2 0 rfl rfl 25 (by decide) (g_ts S kf_X6_88) (fun _ h9 => h9) rfl (by decide +kernel) rfl rfl (Nat.le_of_ble_eq_true rfl) hd (fun H1 locs1 a b c => kk H1 locs1 ⟨a, b, c⟩)
theorem fp_X6_91 (S : CallFix p m c cc nL s args (wm y b maxL ret) RX6) (K : KK D cy s) (h : WH D A H0 H locs (wM cy q σ ++ ex)) {x : Int32} (hd : decode cc pc = .ok (.putfield 91, 3)) (kk : ∀ (H1 : Heap) (locs1 : List Loc), WH D A H0 H1 locs1 (wM cy q (st σ 0 26 x) ++ ex) → W p l e R s m args below meth c H1 locs1 cells slots Q (F0 m (pc + 3) ls rest)) : W p l e R s m args below meth c H locs cells slots Q (F0 m pc ls (.int x :: .ref (q 0) :: rest)) := va_put (D := D) (ci := 6) (v := .int x) (ty := .int) (C := RX6) (T := TX6) (N := 33) S.1 S.2.1 S.2.2.2.2 (fun w g => List.mem_cons_of_mem _ (inX6 w g)) tyX6 tyX6_ok nmX6 S.2.2.2.1 K.1 h.1 h.2.1 h.2.2 0 rfl rfl 26 (by decide) (g_ts S kf_X6_91) (fun _ h9 => h9) rfl (by decide +kernel) rfl rfl (Nat.le_of_ble_eq_true rfl) hd (fun H1 locs1 a b c => kk H1 locs1 ⟨a, b, c⟩)
theorem fp_X6_94 (S : CallFix p m c cc nL s args (wm y b maxL ret) RX6) (K : KK D cy s) (h : WH D A H0 H locs (wM cy q σ ++ ex)) {x : Int32} (hd : decode cc pc = .ok (.putfield 94, 3)) (kk : ∀ (H1 : Heap) (locs1 : List Loc), WH D A H0 H1 locs1 (wM cy q (st σ 0 28 x) ++ ex) → W p l e R s m args below meth c H1 locs1 cells slots Q (F0 m (pc + 3) ls rest)) : W p l e R s m args below meth c H locs cells slots Q (F0 m pc ls (.int x :: .ref (q 0) :: rest)) := va_put (D := D) (ci := 6) (v := .int x) (ty := .int) (C := RX6) (T := TX6) (N := 33) S.1 S.2.1 S.2.2.2.2 (fun w g => List.mem_cons_of_mem _ (inX6 w g)) tyX6 tyX6_ok nmX6 S.2.2.2.1 K.1 h.1 h.2.1 h.2.2 0 rfl rfl 28 (by decide) (g_ts S kf_X6_94) (fun _ h9 => h9) rfl (by decide +kernel) rfl rfl (Nat.le_of_ble_eq_true rfl) hd (fun H1 locs1 a b c => kk H1 locs1 ⟨a, b, c⟩)
theorem fp_X6_97 (S : CallFix p m c cc nL s args (wm y b maxL ret) RX6) (K : KK D cy s) (h : WH D A H0 H locs (wM cy q σ ++ ex)) {x : Int32} (hd : decode cc pc = .ok (.putfield 97, 3)) (kk : ∀ (H1 : Heap) (locs1 : List Loc), WH D A H0 H1 locs1 (wM cy q (st σ 0 29 x) ++ ex) → W p l e R s m args below meth c H1 locs1 cells slots Q (F0 m (pc + 3) ls rest)) : W p l e R s m args below meth c H locs cells slots Q (F0 m pc ls (.int x :: .ref (q 0) :: rest)) := va_put (D := D) (ci := 6) (v := .int x) (ty := .int) (C := RX6) (T := TX6) (N := 33) S.1 S.2.1 S.2.2.2.2 (fun w g => List.mem_cons_of_mem _ (inX6 w g)) tyX6 tyX6_ok nmX6 S.2.2.2.1 K.1 h.1 h.2.1 h.2.2 0 rfl rfl 29 (by decide) (g_ts S kf_X6_97) (fun _ h9 => h9) rfl (by decide +kernel) rfl rfl (Nat.le_of_ble_eq_true rfl) hd (fun H1 locs1 a b c => kk H1 locs1 ⟨a, b, c⟩)
theorem al_H6 (S : CallFix p m c cc nL s args Ts own) (K : KK D cy s) (h : WH D A H0 H locs (wH cy q σ ++ ex)) {i : Int32} (hin : vp_in i 3) (hd : decode cc pc = .ok (.iaload, 1)) (kk : W p l e R s m args below meth c H locs cells slots Q (F0 m (pc + 1) ls (.int (σ 6 i.toNatClampNeg) :: rest))) : W p l e R s m args below meth c H locs cells slots Q (F0 m pc ls (.int i :: .ref (q 6) :: rest)) := va_iald S.1 S.2.1 K.1 h.1 6 0 rfl rfl hin hd kk
theorem as_H6 (S : CallFix p m c cc nL s args Ts own) (K : KK D cy s) (h : WH D A H0 H locs (wH cy q σ ++ ex)) {i x : Int32} (hin : vp_in i 3) (hd : decode cc pc = .ok (.iastore, 1)) (kk : ∀ (H1 : Heap) (locs1 : List Loc), WH D A H0 H1 locs1 (wH cy q (st σ 6 i.toNatClampNeg x) ++ ex) → W p l e R s m args below meth c H1 locs1 cells slots Q (F0 m (pc + 1) ls rest)) : W p l e R s m args below meth c H locs cells slots Q (F0 m pc ls (.int x :: .int i :: .ref (q 6) :: rest)) := va_iast S.1 S.2.1 K.1 h.1 h.2.1 h.2.2 6 0 rfl rfl hin hd (fun H1 locs1 a b c => kk H1 locs1 ⟨a, b, c⟩)
theorem al_H5 (S : CallFix p m c cc nL s args Ts own) (K : KK D cy s) (h : WH D A H0 H locs (wH cy q σ ++ ex)) {i : Int32} (hin : vp_in i 3) (hd : decode cc pc = .ok (.baload, 1)) (kk : W p l e R s m args below meth c H locs cells slots Q (F0 m (pc + 1) ls (.int (σ 5 i.toNatClampNeg) :: rest))) : W p l e R s m args below meth c H locs cells slots Q (F0 m pc ls (.int i :: .ref (q 5) :: rest)) := va_zald S.1 S.2.1 K.1 h.1 5 1 rfl rfl hin hd kk
theorem as_H5 (S : CallFix p m c cc nL s args Ts own) (K : KK D cy s) (h : WH D A H0 H locs (wH cy q σ ++ ex)) {i x : Int32} (hin : vp_in i 3) (hd : decode cc pc = .ok (.bastore, 1)) (kk : ∀ (H1 : Heap) (locs1 : List Loc), WH D A H0 H1 locs1 (wH cy q (st σ 5 i.toNatClampNeg (vp_nar .boolean x)) ++ ex) → W p l e R s m args below meth c H1 locs1 cells slots Q (F0 m (pc + 1) ls rest)) : W p l e R s m args below meth c H locs cells slots Q (F0 m pc ls (.int x :: .int i :: .ref (q 5) :: rest)) := va_zast S.1 S.2.1 K.1 h.1 h.2.1 h.2.2 5 1 rfl rfl hin hd (fun H1 locs1 a b c => kk H1 locs1 ⟨a, b, c⟩)
theorem al_belts (S : CallFix p m c cc nL s args Ts own) (K : KK D cy s) (h : WH D A H0 H locs (wH cy q σ ++ ex)) {i : Int32} (hin : vp_in i 4) (hd : decode cc pc = .ok (.aaload, 1)) (kk : W p l e R s m args below meth c H locs cells slots Q (F0 m (pc + 1) ls (.ref (q (13 + i.toNatClampNeg)) :: rest))) : W p l e R s m args below meth c H locs cells slots Q (F0 m pc ls (.int i :: .ref (q 7) :: rest)) := va_aldq S.1 S.2.1 K.1 h.1 7 2 rfl rfl hin hd kk
theorem al_counters (S : CallFix p m c cc nL s args Ts own) (K : KK D cy s) (h : WH D A H0 H locs (wH cy q σ ++ ex)) {i : Int32} (hin : vp_in i 3) (hd : decode cc pc = .ok (.aaload, 1)) (kk : W p l e R s m args below meth c H locs cells slots Q (F0 m (pc + 1) ls (.ref (q (13 + (4 + i.toNatClampNeg))) :: rest))) : W p l e R s m args below meth c H locs cells slots Q (F0 m pc ls (.int i :: .ref (q 8) :: rest)) := va_aldq S.1 S.2.1 K.1 h.1 8 2 rfl rfl hin hd kk
theorem al_H3 (S : CallFix p m c cc nL s args Ts own) (K : KK D cy s) (h : WH D A H0 H locs (wH cy q σ ++ ex)) {i : Int32} (hin : vp_in i 2) (hd : decode cc pc = .ok (.iaload, 1)) (kk : W p l e R s m args below meth c H locs cells slots Q (F0 m (pc + 1) ls (.int (σ 3 i.toNatClampNeg) :: rest))) : W p l e R s m args below meth c H locs cells slots Q (F0 m pc ls (.int i :: .ref (q 3) :: rest)) := va_iald S.1 S.2.1 K.1 h.1 3 0 rfl rfl hin hd kk
theorem as_H3 (S : CallFix p m c cc nL s args Ts own) (K : KK D cy s) (h : WH D A H0 H locs (wH cy q σ ++ ex)) {i x : Int32} (hin : vp_in i 2) (hd : decode cc pc = .ok (.iastore, 1)) (kk : ∀ (H1 : Heap) (locs1 : List Loc), WH D A H0 H1 locs1 (wH cy q (st σ 3 i.toNatClampNeg x) ++ ex) → W p l e R s m args below meth c H1 locs1 cells slots Q (F0 m (pc + 1) ls rest)) : W p l e R s m args below meth c H locs cells slots Q (F0 m pc ls (.int x :: .int i :: .ref (q 3) :: rest)) := va_iast S.1 S.2.1 K.1 h.1 h.2.1 h.2.2 3 0 rfl rfl hin hd (fun H1 locs1 a b c => kk H1 locs1 ⟨a, b, c⟩)
theorem al_H4 (S : CallFix p m c cc nL s args Ts own) (K : KK D cy s) (h : WH D A H0 H locs (wH cy q σ ++ ex)) {i : Int32} (hin : vp_in i 2) (hd : decode cc pc = .ok (.iaload, 1)) (kk : W p l e R s m args below meth c H locs cells slots Q (F0 m (pc + 1) ls (.int (σ 4 i.toNatClampNeg) :: rest))) : W p l e R s m args below meth c H locs cells slots Q (F0 m pc ls (.int i :: .ref (q 4) :: rest)) := va_iald S.1 S.2.1 K.1 h.1 4 0 rfl rfl hin hd kk
theorem as_H4 (S : CallFix p m c cc nL s args Ts own) (K : KK D cy s) (h : WH D A H0 H locs (wH cy q σ ++ ex)) {i x : Int32} (hin : vp_in i 2) (hd : decode cc pc = .ok (.iastore, 1)) (kk : ∀ (H1 : Heap) (locs1 : List Loc), WH D A H0 H1 locs1 (wH cy q (st σ 4 i.toNatClampNeg x) ++ ex) → W p l e R s m args below meth c H1 locs1 cells slots Q (F0 m (pc + 1) ls rest)) : W p l e R s m args below meth c H locs cells slots Q (F0 m pc ls (.int x :: .int i :: .ref (q 4) :: rest)) := va_iast S.1 S.2.1 K.1 h.1 h.2.1 h.2.2 4 0 rfl rfl hin hd (fun H1 locs1 a b c => kk H1 locs1 ⟨a, b, c⟩)
theorem al_H2 (S : CallFix p m c cc nL s args Ts own) (K : KK D cy s) (h : WH D A H0 H locs (wH cy q σ ++ ex)) {i : Int32} (hin : vp_in i 8) (hd : decode cc pc = .ok (.iaload, 1)) (kk : W p l e R s m args below meth c H locs cells slots Q (F0 m (pc + 1) ls (.int (σ 2 i.toNatClampNeg) :: rest))) : W p l e R s m args below meth c H locs cells slots Q (F0 m pc ls (.int i :: .ref (q 2) :: rest)) := va_iald S.1 S.2.1 K.1 h.1 2 0 rfl rfl hin hd kk
theorem as_H2 (S : CallFix p m c cc nL s args Ts own) (K : KK D cy s) (h : WH D A H0 H locs (wH cy q σ ++ ex)) {i x : Int32} (hin : vp_in i 8) (hd : decode cc pc = .ok (.iastore, 1)) (kk : ∀ (H1 : Heap) (locs1 : List Loc), WH D A H0 H1 locs1 (wH cy q (st σ 2 i.toNatClampNeg x) ++ ex) → W p l e R s m args below meth c H1 locs1 cells slots Q (F0 m (pc + 1) ls rest)) : W p l e R s m args below meth c H locs cells slots Q (F0 m pc ls (.int x :: .int i :: .ref (q 2) :: rest)) := va_iast S.1 S.2.1 K.1 h.1 h.2.1 h.2.2 2 0 rfl rfl hin hd (fun H1 locs1 a b c => kk H1 locs1 ⟨a, b, c⟩)
theorem al_H1 (S : CallFix p m c cc nL s args Ts own) (K : KK D cy s) (h : WH D A H0 H locs (wH cy q σ ++ ex)) {i : Int32} (hin : vp_in i 6) (hd : decode cc pc = .ok (.iaload, 1)) (kk : W p l e R s m args below meth c H locs cells slots Q (F0 m (pc + 1) ls (.int (σ 1 i.toNatClampNeg) :: rest))) : W p l e R s m args below meth c H locs cells slots Q (F0 m pc ls (.int i :: .ref (q 1) :: rest)) := va_iald S.1 S.2.1 K.1 h.1 1 0 rfl rfl hin hd kk
theorem as_H1 (S : CallFix p m c cc nL s args Ts own) (K : KK D cy s) (h : WH D A H0 H locs (wH cy q σ ++ ex)) {i x : Int32} (hin : vp_in i 6) (hd : decode cc pc = .ok (.iastore, 1)) (kk : ∀ (H1 : Heap) (locs1 : List Loc), WH D A H0 H1 locs1 (wH cy q (st σ 1 i.toNatClampNeg x) ++ ex) → W p l e R s m args below meth c H1 locs1 cells slots Q (F0 m (pc + 1) ls rest)) : W p l e R s m args below meth c H locs cells slots Q (F0 m pc ls (.int x :: .int i :: .ref (q 1) :: rest)) := va_iast S.1 S.2.1 K.1 h.1 h.2.1 h.2.2 1 0 rfl rfl hin hd (fun H1 locs1 a b c => kk H1 locs1 ⟨a, b, c⟩)
theorem al_H10 (S : CallFix p m c cc nL s args Ts own) (K : KK D cy s) (h : WH D A H0 H locs (wH cy q σ ++ ex)) {i : Int32} (hin : vp_in i 64) (hd : decode cc pc = .ok (.iaload, 1)) (kk : W p l e R s m args below meth c H locs cells slots Q (F0 m (pc + 1) ls (.int (σ 10 i.toNatClampNeg) :: rest))) : W p l e R s m args below meth c H locs cells slots Q (F0 m pc ls (.int i :: .ref (q 10) :: rest)) := va_iald S.1 S.2.1 K.1 h.1 10 0 rfl rfl hin hd kk
theorem as_H10 (S : CallFix p m c cc nL s args Ts own) (K : KK D cy s) (h : WH D A H0 H locs (wH cy q σ ++ ex)) {i x : Int32} (hin : vp_in i 64) (hd : decode cc pc = .ok (.iastore, 1)) (kk : ∀ (H1 : Heap) (locs1 : List Loc), WH D A H0 H1 locs1 (wH cy q (st σ 10 i.toNatClampNeg x) ++ ex) → W p l e R s m args below meth c H1 locs1 cells slots Q (F0 m (pc + 1) ls rest)) : W p l e R s m args below meth c H locs cells slots Q (F0 m pc ls (.int x :: .int i :: .ref (q 10) :: rest)) := va_iast S.1 S.2.1 K.1 h.1 h.2.1 h.2.2 10 0 rfl rfl hin hd (fun H1 locs1 a b c => kk H1 locs1 ⟨a, b, c⟩)
theorem al_H12 (S : CallFix p m c cc nL s args Ts own) (K : KK D cy s) (h : WH D A H0 H locs (wH cy q σ ++ ex)) {i : Int32} (hin : vp_in i 64) (hd : decode cc pc = .ok (.iaload, 1)) (kk : W p l e R s m args below meth c H locs cells slots Q (F0 m (pc + 1) ls (.int (σ 12 i.toNatClampNeg) :: rest))) : W p l e R s m args below meth c H locs cells slots Q (F0 m pc ls (.int i :: .ref (q 12) :: rest)) := va_iald S.1 S.2.1 K.1 h.1 12 0 rfl rfl hin hd kk
theorem as_H12 (S : CallFix p m c cc nL s args Ts own) (K : KK D cy s) (h : WH D A H0 H locs (wH cy q σ ++ ex)) {i x : Int32} (hin : vp_in i 64) (hd : decode cc pc = .ok (.iastore, 1)) (kk : ∀ (H1 : Heap) (locs1 : List Loc), WH D A H0 H1 locs1 (wH cy q (st σ 12 i.toNatClampNeg x) ++ ex) → W p l e R s m args below meth c H1 locs1 cells slots Q (F0 m (pc + 1) ls rest)) : W p l e R s m args below meth c H locs cells slots Q (F0 m pc ls (.int x :: .int i :: .ref (q 12) :: rest)) := va_iast S.1 S.2.1 K.1 h.1 h.2.1 h.2.2 12 0 rfl rfl hin hd (fun H1 locs1 a b c => kk H1 locs1 ⟨a, b, c⟩)
theorem al_H11 (S : CallFix p m c cc nL s args Ts own) (K : KK D cy s) (h : WH D A H0 H locs (wH cy q σ ++ ex)) {i : Int32} (hin : vp_in i 64) (hd : decode cc pc = .ok (.iaload, 1)) (kk : W p l e R s m args below meth c H locs cells slots Q (F0 m (pc + 1) ls (.int (σ 11 i.toNatClampNeg) :: rest))) : W p l e R s m args below meth c H locs cells slots Q (F0 m pc ls (.int i :: .ref (q 11) :: rest)) := va_iald S.1 S.2.1 K.1 h.1 11 0 rfl rfl hin hd kk
theorem as_H11 (S : CallFix p m c cc nL s args Ts own) (K : KK D cy s) (h : WH D A H0 H locs (wH cy q σ ++ ex)) {i x : Int32} (hin : vp_in i 64) (hd : decode cc pc = .ok (.iastore, 1)) (kk : ∀ (H1 : Heap) (locs1 : List Loc), WH D A H0 H1 locs1 (wH cy q (st σ 11 i.toNatClampNeg x) ++ ex) → W p l e R s m args below meth c H1 locs1 cells slots Q (F0 m (pc + 1) ls rest)) : W p l e R s m args below meth c H locs cells slots Q (F0 m pc ls (.int x :: .int i :: .ref (q 11) :: rest)) := va_iast S.1 S.2.1 K.1 h.1 h.2.1 h.2.2 11 0 rfl rfl hin hd (fun H1 locs1 a b c => kk H1 locs1 ⟨a, b, c⟩)
theorem al_E30 (S : CallFix p m c cc nL s args Ts own) (K : KK D cy s) (h : WH D A H0 H locs (wH cy q σ ++ (wE cy q ρ ++ ex))) {i : Int32} (hin : vp_in i 40) (hd : decode cc pc = .ok (.iaload, 1)) (kk : W p l e R s m args below meth c H locs cells slots Q (F0 m (pc + 1) ls (.int (ρ 30 i.toNatClampNeg) :: rest))) : W p l e R s m args below meth c H locs cells slots Q (F0 m pc ls (.int i :: .ref (q 30) :: rest)) := va_iald S.1 S.2.1 K.1 h.1 30 0 rfl rfl hin hd kk
theorem as_E30 (S : CallFix p m c cc nL s args Ts own) (K : KK D cy s) (h : WH D A H0 H locs (wH cy q σ ++ (wE cy q ρ ++ ex))) {i x : Int32} (hin : vp_in i 40) (hd : decode cc pc = .ok (.iastore, 1)) (kk : ∀ (H1 : Heap) (locs1 : List Loc), WH D A H0 H1 locs1 (wH cy q σ ++ (wE cy q (st ρ 30 i.toNatClampNeg x) ++ ex)) → W p l e R s m args below meth c H1 locs1 cells slots Q (F0 m (pc + 1) ls rest)) : W p l e R s m args below meth c H locs cells slots Q (F0 m pc ls (.int x :: .int i :: .ref (q 30) :: rest)) := va_iast S.1 S.2.1 K.1 h.1 h.2.1 h.2.2 30 0 rfl rfl hin hd (fun H1 locs1 a b c => kk H1 locs1 ⟨a, b, c⟩)
theorem al_E35 (S : CallFix p m c cc nL s args Ts own) (K : KK D cy s) (h : WH D A H0 H locs (wH cy q σ ++ (wE cy q ρ ++ ex))) {i : Int32} (hin : vp_in i 5) (hd : decode cc pc = .ok (.iaload, 1)) (kk : W p l e R s m args below meth c H locs cells slots Q (F0 m (pc + 1) ls (.int (ρ 35 i.toNatClampNeg) :: rest))) : W p l e R s m args below meth c H locs cells slots Q (F0 m pc ls (.int i :: .ref (q 35) :: rest)) := va_iald S.1 S.2.1 K.1 h.1 35 0 rfl rfl hin hd kk
theorem as_E35 (S : CallFix p m c cc nL s args Ts own) (K : KK D cy s) (h : WH D A H0 H locs (wH cy q σ ++ (wE cy q ρ ++ ex))) {i x : Int32} (hin : vp_in i 5) (hd : decode cc pc = .ok (.iastore, 1)) (kk : ∀ (H1 : Heap) (locs1 : List Loc), WH D A H0 H1 locs1 (wH cy q σ ++ (wE cy q (st ρ 35 i.toNatClampNeg x) ++ ex)) → W p l e R s m args below meth c H1 locs1 cells slots Q (F0 m (pc + 1) ls rest)) : W p l e R s m args below meth c H locs cells slots Q (F0 m pc ls (.int x :: .int i :: .ref (q 35) :: rest)) := va_iast S.1 S.2.1 K.1 h.1 h.2.1 h.2.2 35 0 rfl rfl hin hd (fun H1 locs1 a b c => kk H1 locs1 ⟨a, b, c⟩)
theorem al_E33 (S : CallFix p m c cc nL s args Ts own) (K : KK D cy s) (h : WH D A H0 H locs (wH cy q σ ++ (wE cy q ρ ++ ex))) {i : Int32} (hin : vp_in i 5) (hd : decode cc pc = .ok (.iaload, 1)) (kk : W p l e R s m args below meth c H locs cells slots Q (F0 m (pc + 1) ls (.int (ρ 33 i.toNatClampNeg) :: rest))) : W p l e R s m args below meth c H locs cells slots Q (F0 m pc ls (.int i :: .ref (q 33) :: rest)) := va_iald S.1 S.2.1 K.1 h.1 33 0 rfl rfl hin hd kk
theorem as_E33 (S : CallFix p m c cc nL s args Ts own) (K : KK D cy s) (h : WH D A H0 H locs (wH cy q σ ++ (wE cy q ρ ++ ex))) {i x : Int32} (hin : vp_in i 5) (hd : decode cc pc = .ok (.iastore, 1)) (kk : ∀ (H1 : Heap) (locs1 : List Loc), WH D A H0 H1 locs1 (wH cy q σ ++ (wE cy q (st ρ 33 i.toNatClampNeg x) ++ ex)) → W p l e R s m args below meth c H1 locs1 cells slots Q (F0 m (pc + 1) ls rest)) : W p l e R s m args below meth c H locs cells slots Q (F0 m pc ls (.int x :: .int i :: .ref (q 33) :: rest)) := va_iast S.1 S.2.1 K.1 h.1 h.2.1 h.2.2 33 0 rfl rfl hin hd (fun H1 locs1 a b c => kk H1 locs1 ⟨a, b, c⟩)
theorem al_E36 (S : CallFix p m c cc nL s args Ts own) (K : KK D cy s) (h : WH D A H0 H locs (wH cy q σ ++ (wE cy q ρ ++ ex))) {i : Int32} (hin : vp_in i 5) (hd : decode cc pc = .ok (.iaload, 1)) (kk : W p l e R s m args below meth c H locs cells slots Q (F0 m (pc + 1) ls (.int (ρ 36 i.toNatClampNeg) :: rest))) : W p l e R s m args below meth c H locs cells slots Q (F0 m pc ls (.int i :: .ref (q 36) :: rest)) := va_iald S.1 S.2.1 K.1 h.1 36 0 rfl rfl hin hd kk
theorem as_E36 (S : CallFix p m c cc nL s args Ts own) (K : KK D cy s) (h : WH D A H0 H locs (wH cy q σ ++ (wE cy q ρ ++ ex))) {i x : Int32} (hin : vp_in i 5) (hd : decode cc pc = .ok (.iastore, 1)) (kk : ∀ (H1 : Heap) (locs1 : List Loc), WH D A H0 H1 locs1 (wH cy q σ ++ (wE cy q (st ρ 36 i.toNatClampNeg x) ++ ex)) → W p l e R s m args below meth c H1 locs1 cells slots Q (F0 m (pc + 1) ls rest)) : W p l e R s m args below meth c H locs cells slots Q (F0 m pc ls (.int x :: .int i :: .ref (q 36) :: rest)) := va_iast S.1 S.2.1 K.1 h.1 h.2.1 h.2.2 36 0 rfl rfl hin hd (fun H1 locs1 a b c => kk H1 locs1 ⟨a, b, c⟩)
theorem al_E34 (S : CallFix p m c cc nL s args Ts own) (K : KK D cy s) (h : WH D A H0 H locs (wH cy q σ ++ (wE cy q ρ ++ ex))) {i : Int32} (hin : vp_in i 5) (hd : decode cc pc = .ok (.iaload, 1)) (kk : W p l e R s m args below meth c H locs cells slots Q (F0 m (pc + 1) ls (.int (ρ 34 i.toNatClampNeg) :: rest))) : W p l e R s m args below meth c H locs cells slots Q (F0 m pc ls (.int i :: .ref (q 34) :: rest)) := va_iald S.1 S.2.1 K.1 h.1 34 0 rfl rfl hin hd kk
theorem as_E34 (S : CallFix p m c cc nL s args Ts own) (K : KK D cy s) (h : WH D A H0 H locs (wH cy q σ ++ (wE cy q ρ ++ ex))) {i x : Int32} (hin : vp_in i 5) (hd : decode cc pc = .ok (.iastore, 1)) (kk : ∀ (H1 : Heap) (locs1 : List Loc), WH D A H0 H1 locs1 (wH cy q σ ++ (wE cy q (st ρ 34 i.toNatClampNeg x) ++ ex)) → W p l e R s m args below meth c H1 locs1 cells slots Q (F0 m (pc + 1) ls rest)) : W p l e R s m args below meth c H locs cells slots Q (F0 m pc ls (.int x :: .int i :: .ref (q 34) :: rest)) := va_iast S.1 S.2.1 K.1 h.1 h.2.1 h.2.2 34 0 rfl rfl hin hd (fun H1 locs1 a b c => kk H1 locs1 ⟨a, b, c⟩)
theorem al_E29 (S : CallFix p m c cc nL s args Ts own) (K : KK D cy s) (h : WH D A H0 H locs (wH cy q σ ++ (wE cy q ρ ++ ex))) {i : Int32} (hin : vp_in i 40) (hd : decode cc pc = .ok (.iaload, 1)) (kk : W p l e R s m args below meth c H locs cells slots Q (F0 m (pc + 1) ls (.int (ρ 29 i.toNatClampNeg) :: rest))) : W p l e R s m args below meth c H locs cells slots Q (F0 m pc ls (.int i :: .ref (q 29) :: rest)) := va_iald S.1 S.2.1 K.1 h.1 29 0 rfl rfl hin hd kk
theorem as_E29 (S : CallFix p m c cc nL s args Ts own) (K : KK D cy s) (h : WH D A H0 H locs (wH cy q σ ++ (wE cy q ρ ++ ex))) {i x : Int32} (hin : vp_in i 40) (hd : decode cc pc = .ok (.iastore, 1)) (kk : ∀ (H1 : Heap) (locs1 : List Loc), WH D A H0 H1 locs1 (wH cy q σ ++ (wE cy q (st ρ 29 i.toNatClampNeg x) ++ ex)) → W p l e R s m args below meth c H1 locs1 cells slots Q (F0 m (pc + 1) ls rest)) : W p l e R s m args below meth c H locs cells slots Q (F0 m pc ls (.int x :: .int i :: .ref (q 29) :: rest)) := va_iast S.1 S.2.1 K.1 h.1 h.2.1 h.2.2 29 0 rfl rfl hin hd (fun H1 locs1 a b c => kk H1 locs1 ⟨a, b, c⟩)
theorem al_E31 (S : CallFix p m c cc nL s args Ts own) (K : KK D cy s) (h : WH D A H0 H locs (wH cy q σ ++ (wE cy q ρ ++ ex))) {i : Int32} (hin : vp_in i 40) (hd : decode cc pc = .ok (.iaload, 1)) (kk : W p l e R s m args below meth c H locs cells slots Q (F0 m (pc + 1) ls (.int (ρ 31 i.toNatClampNeg) :: rest))) : W p l e R s m args below meth c H locs cells slots Q (F0 m pc ls (.int i :: .ref (q 31) :: rest)) := va_iald S.1 S.2.1 K.1 h.1 31 0 rfl rfl hin hd kk
theorem as_E31 (S : CallFix p m c cc nL s args Ts own) (K : KK D cy s) (h : WH D A H0 H locs (wH cy q σ ++ (wE cy q ρ ++ ex))) {i x : Int32} (hin : vp_in i 40) (hd : decode cc pc = .ok (.iastore, 1)) (kk : ∀ (H1 : Heap) (locs1 : List Loc), WH D A H0 H1 locs1 (wH cy q σ ++ (wE cy q (st ρ 31 i.toNatClampNeg x) ++ ex)) → W p l e R s m args below meth c H1 locs1 cells slots Q (F0 m (pc + 1) ls rest)) : W p l e R s m args below meth c H locs cells slots Q (F0 m pc ls (.int x :: .int i :: .ref (q 31) :: rest)) := va_iast S.1 S.2.1 K.1 h.1 h.2.1 h.2.2 31 0 rfl rfl hin hd (fun H1 locs1 a b c => kk H1 locs1 ⟨a, b, c⟩)
theorem al_E32 (S : CallFix p m c cc nL s args Ts own) (K : KK D cy s) (h : WH D A H0 H locs (wH cy q σ ++ (wE cy q ρ ++ ex))) {i : Int32} (hin : vp_in i 40) (hd : decode cc pc = .ok (.iaload, 1)) (kk : W p l e R s m args below meth c H locs cells slots Q (F0 m (pc + 1) ls (.int (ρ 32 i.toNatClampNeg) :: rest))) : W p l e R s m args below meth c H locs cells slots Q (F0 m pc ls (.int i :: .ref (q 32) :: rest)) := va_iald S.1 S.2.1 K.1 h.1 32 0 rfl rfl hin hd kk
theorem as_E32 (S : CallFix p m c cc nL s args Ts own) (K : KK D cy s) (h : WH D A H0 H locs (wH cy q σ ++ (wE cy q ρ ++ ex))) {i x : Int32} (hin : vp_in i 40) (hd : decode cc pc = .ok (.iastore, 1)) (kk : ∀ (H1 : Heap) (locs1 : List Loc), WH D A H0 H1 locs1 (wH cy q σ ++ (wE cy q (st ρ 32 i.toNatClampNeg x) ++ ex)) → W p l e R s m args below meth c H1 locs1 cells slots Q (F0 m (pc + 1) ls rest)) : W p l e R s m args below meth c H locs cells slots Q (F0 m pc ls (.int x :: .int i :: .ref (q 32) :: rest)) := va_iast S.1 S.2.1 K.1 h.1 h.2.1 h.2.2 32 0 rfl rfl hin hd (fun H1 locs1 a b c => kk H1 locs1 ⟨a, b, c⟩)
theorem al_E38 (S : CallFix p m c cc nL s args Ts own) (K : KK D cy s) (h : WH D A H0 H locs (wH cy q σ ++ (wE cy q ρ ++ ex))) {i : Int32} (hin : vp_in i 8) (hd : decode cc pc = .ok (.iaload, 1)) (kk : W p l e R s m args below meth c H locs cells slots Q (F0 m (pc + 1) ls (.int (ρ 38 i.toNatClampNeg) :: rest))) : W p l e R s m args below meth c H locs cells slots Q (F0 m pc ls (.int i :: .ref (q 38) :: rest)) := va_iald S.1 S.2.1 K.1 h.1 38 0 rfl rfl hin hd kk
theorem as_E38 (S : CallFix p m c cc nL s args Ts own) (K : KK D cy s) (h : WH D A H0 H locs (wH cy q σ ++ (wE cy q ρ ++ ex))) {i x : Int32} (hin : vp_in i 8) (hd : decode cc pc = .ok (.iastore, 1)) (kk : ∀ (H1 : Heap) (locs1 : List Loc), WH D A H0 H1 locs1 (wH cy q σ ++ (wE cy q (st ρ 38 i.toNatClampNeg x) ++ ex)) → W p l e R s m args below meth c H1 locs1 cells slots Q (F0 m (pc + 1) ls rest)) : W p l e R s m args below meth c H locs cells slots Q (F0 m pc ls (.int x :: .int i :: .ref (q 38) :: rest)) := va_iast S.1 S.2.1 K.1 h.1 h.2.1 h.2.2 38 0 rfl rfl hin hd (fun H1 locs1 a b c => kk H1 locs1 ⟨a, b, c⟩)
theorem al_M21 (S : CallFix p m c cc nL s args Ts own) (K : KK D cy s) (h : WH D A H0 H locs (wM cy q σ ++ ex)) {i : Int32} (hin : vp_in i 3) (hd : decode cc pc = .ok (.iaload, 1)) (kk : W p l e R s m args below meth c H locs cells slots Q (F0 m (pc + 1) ls (.int (σ 21 i.toNatClampNeg) :: rest))) : W p l e R s m args below meth c H locs cells slots Q (F0 m pc ls (.int i :: .ref (q 21) :: rest)) := va_iald S.1 S.2.1 K.1 h.1 21 0 rfl rfl hin hd kk
theorem as_M21 (S : CallFix p m c cc nL s args Ts own) (K : KK D cy s) (h : WH D A H0 H locs (wM cy q σ ++ ex)) {i x : Int32} (hin : vp_in i 3) (hd : decode cc pc = .ok (.iastore, 1)) (kk : ∀ (H1 : Heap) (locs1 : List Loc), WH D A H0 H1 locs1 (wM cy q (st σ 21 i.toNatClampNeg x) ++ ex) → W p l e R s m args below meth c H1 locs1 cells slots Q (F0 m (pc + 1) ls rest)) : W p l e R s m args below meth c H locs cells slots Q (F0 m pc ls (.int x :: .int i :: .ref (q 21) :: rest)) := va_iast S.1 S.2.1 K.1 h.1 h.2.1 h.2.2 21 0 rfl rfl hin hd (fun H1 locs1 a b c => kk H1 locs1 ⟨a, b, c⟩)
theorem al_M15 (S : CallFix p m c cc nL s args Ts own) (K : KK D cy s) (h : WH D A H0 H locs (wM cy q σ ++ ex)) {i : Int32} (hin : vp_in i 32) (hd : decode cc pc = .ok (.iaload, 1)) (kk : W p l e R s m args below meth c H locs cells slots Q (F0 m (pc + 1) ls (.int (σ 15 i.toNatClampNeg) :: rest))) : W p l e R s m args below meth c H locs cells slots Q (F0 m pc ls (.int i :: .ref (q 15) :: rest)) := va_iald S.1 S.2.1 K.1 h.1 15 0 rfl rfl hin hd kk
theorem as_M15 (S : CallFix p m c cc nL s args Ts own) (K : KK D cy s) (h : WH D A H0 H locs (wM cy q σ ++ ex)) {i x : Int32} (hin : vp_in i 32) (hd : decode cc pc = .ok (.iastore, 1)) (kk : ∀ (H1 : Heap) (locs1 : List Loc), WH D A H0 H1 locs1 (wM cy q (st σ 15 i.toNatClampNeg x) ++ ex) → W p l e R s m args below meth c H1 locs1 cells slots Q (F0 m (pc + 1) ls rest)) : W p l e R s m args below meth c H locs cells slots Q (F0 m pc ls (.int x :: .int i :: .ref (q 15) :: rest)) := va_iast S.1 S.2.1 K.1 h.1 h.2.1 h.2.2 15 0 rfl rfl hin hd (fun H1 locs1 a b c => kk H1 locs1 ⟨a, b, c⟩)
theorem al_M14 (S : CallFix p m c cc nL s args Ts own) (K : KK D cy s) (h : WH D A H0 H locs (wM cy q σ ++ ex)) {i : Int32} (hin : vp_in i 4) (hd : decode cc pc = .ok (.iaload, 1)) (kk : W p l e R s m args below meth c H locs cells slots Q (F0 m (pc + 1) ls (.int (σ 14 i.toNatClampNeg) :: rest))) : W p l e R s m args below meth c H locs cells slots Q (F0 m pc ls (.int i :: .ref (q 14) :: rest)) := va_iald S.1 S.2.1 K.1 h.1 14 0 rfl rfl hin hd kk
theorem as_M14 (S : CallFix p m c cc nL s args Ts own) (K : KK D cy s) (h : WH D A H0 H locs (wM cy q σ ++ ex)) {i x : Int32} (hin : vp_in i 4) (hd : decode cc pc = .ok (.iastore, 1)) (kk : ∀ (H1 : Heap) (locs1 : List Loc), WH D A H0 H1 locs1 (wM cy q (st σ 14 i.toNatClampNeg x) ++ ex) → W p l e R s m args below meth c H1 locs1 cells slots Q (F0 m (pc + 1) ls rest)) : W p l e R s m args below meth c H locs cells slots Q (F0 m pc ls (.int x :: .int i :: .ref (q 14) :: rest)) := va_iast S.1 S.2.1 K.1 h.1 h.2.1 h.2.2 14 0 rfl rfl hin hd (fun H1 locs1 a b c => kk H1 locs1 ⟨a, b, c⟩)
theorem al_M13 (S : CallFix p m c cc nL s args Ts own) (K : KK D cy s) (h : WH D A H0 H locs (wM cy q σ ++ ex)) {i : Int32} (hin : vp_in i 4) (hd : decode cc pc = .ok (.iaload, 1)) (kk : W p l e R s m args below meth c H locs cells slots Q (F0 m (pc + 1) ls (.int (σ 13 i.toNatClampNeg) :: rest))) : W p l e R s m args below meth c H locs cells slots Q (F0 m pc ls (.int i :: .ref (q 13) :: rest)) := va_iald S.1 S.2.1 K.1 h.1 13 0 rfl rfl hin hd kk
theorem as_M13 (S : CallFix p m c cc nL s args Ts own) (K : KK D cy s) (h : WH D A H0 H locs (wM cy q σ ++ ex)) {i x : Int32} (hin : vp_in i 4) (hd : decode cc pc = .ok (.iastore, 1)) (kk : ∀ (H1 : Heap) (locs1 : List Loc), WH D A H0 H1 locs1 (wM cy q (st σ 13 i.toNatClampNeg x) ++ ex) → W p l e R s m args below meth c H1 locs1 cells slots Q (F0 m (pc + 1) ls rest)) : W p l e R s m args below meth c H locs cells slots Q (F0 m pc ls (.int x :: .int i :: .ref (q 13) :: rest)) := va_iast S.1 S.2.1 K.1 h.1 h.2.1 h.2.2 13 0 rfl rfl hin hd (fun H1 locs1 a b c => kk H1 locs1 ⟨a, b, c⟩)
theorem al_M23 (S : CallFix p m c cc nL s args Ts own) (K : KK D cy s) (h : WH D A H0 H locs (wM cy q σ ++ ex)) {i : Int32} (hin : vp_in i 8) (hd : decode cc pc = .ok (.iaload, 1)) (kk : W p l e R s m args below meth c H locs cells slots Q (F0 m (pc + 1) ls (.int (σ 23 i.toNatClampNeg) :: rest))) : W p l e R s m args below meth c H locs cells slots Q (F0 m pc ls (.int i :: .ref (q 23) :: rest)) := va_iald S.1 S.2.1 K.1 h.1 23 0 rfl rfl hin hd kk
theorem as_M23 (S : CallFix p m c cc nL s args Ts own) (K : KK D cy s) (h : WH D A H0 H locs (wM cy q σ ++ ex)) {i x : Int32} (hin : vp_in i 8) (hd : decode cc pc = .ok (.iastore, 1)) (kk : ∀ (H1 : Heap) (locs1 : List Loc), WH D A H0 H1 locs1 (wM cy q (st σ 23 i.toNatClampNeg x) ++ ex) → W p l e R s m args below meth c H1 locs1 cells slots Q (F0 m (pc + 1) ls rest)) : W p l e R s m args below meth c H locs cells slots Q (F0 m pc ls (.int x :: .int i :: .ref (q 23) :: rest)) := va_iast S.1 S.2.1 K.1 h.1 h.2.1 h.2.2 23 0 rfl rfl hin hd (fun H1 locs1 a b c => kk H1 locs1 ⟨a, b, c⟩)
theorem al_M17 (S : CallFix p m c cc nL s args Ts own) (K : KK D cy s) (h : WH D A H0 H locs (wM cy q σ ++ ex)) {i : Int32} (hin : vp_in i 24) (hd : decode cc pc = .ok (.iaload, 1)) (kk : W p l e R s m args below meth c H locs cells slots Q (F0 m (pc + 1) ls (.int (σ 17 i.toNatClampNeg) :: rest))) : W p l e R s m args below meth c H locs cells slots Q (F0 m pc ls (.int i :: .ref (q 17) :: rest)) := va_iald S.1 S.2.1 K.1 h.1 17 0 rfl rfl hin hd kk
theorem as_M17 (S : CallFix p m c cc nL s args Ts own) (K : KK D cy s) (h : WH D A H0 H locs (wM cy q σ ++ ex)) {i x : Int32} (hin : vp_in i 24) (hd : decode cc pc = .ok (.iastore, 1)) (kk : ∀ (H1 : Heap) (locs1 : List Loc), WH D A H0 H1 locs1 (wM cy q (st σ 17 i.toNatClampNeg x) ++ ex) → W p l e R s m args below meth c H1 locs1 cells slots Q (F0 m (pc + 1) ls rest)) : W p l e R s m args below meth c H locs cells slots Q (F0 m pc ls (.int x :: .int i :: .ref (q 17) :: rest)) := va_iast S.1 S.2.1 K.1 h.1 h.2.1 h.2.2 17 0 rfl rfl hin hd (fun H1 locs1 a b c => kk H1 locs1 ⟨a, b, c⟩)
theorem al_M16 (S : CallFix p m c cc nL s args Ts own) (K : KK D cy s) (h : WH D A H0 H locs (wM cy q σ ++ ex)) {i : Int32} (hin : vp_in i 3) (hd : decode cc pc = .ok (.iaload, 1)) (kk : W p l e R s m args below meth c H locs cells slots Q (F0 m (pc + 1) ls (.int (σ 16 i.toNatClampNeg) :: rest))) : W p l e R s m args below meth c H locs cells slots Q (F0 m pc ls (.int i :: .ref (q 16) :: rest)) := va_iald S.1 S.2.1 K.1 h.1 16 0 rfl rfl hin hd kk
theorem as_M16 (S : CallFix p m c cc nL s args Ts own) (K : KK D cy s) (h : WH D A H0 H locs (wM cy q σ ++ ex)) {i x : Int32} (hin : vp_in i 3) (hd : decode cc pc = .ok (.iastore, 1)) (kk : ∀ (H1 : Heap) (locs1 : List Loc), WH D A H0 H1 locs1 (wM cy q (st σ 16 i.toNatClampNeg x) ++ ex) → W p l e R s m args below meth c H1 locs1 cells slots Q (F0 m (pc + 1) ls rest)) : W p l e R s m args below meth c H locs cells slots Q (F0 m pc ls (.int x :: .int i :: .ref (q 16) :: rest)) := va_iast S.1 S.2.1 K.1 h.1 h.2.1 h.2.2 16 0 rfl rfl hin hd (fun H1 locs1 a b c => kk H1 locs1 ⟨a, b, c⟩)
theorem al_M2 (S : CallFix p m c cc nL s args Ts own) (K : KK D cy s) (h : WH D A H0 H locs (wM cy q σ ++ ex)) {i : Int32} (hin : vp_in i 40) (hd : decode cc pc = .ok (.iaload, 1)) (kk : W p l e R s m args below meth c H locs cells slots Q (F0 m (pc + 1) ls (.int (σ 2 i.toNatClampNeg) :: rest))) : W p l e R s m args below meth c H locs cells slots Q (F0 m pc ls (.int i :: .ref (q 2) :: rest)) := va_iald S.1 S.2.1 K.1 h.1 2 0 rfl rfl hin hd kk
theorem as_M2 (S : CallFix p m c cc nL s args Ts own) (K : KK D cy s) (h : WH D A H0 H locs (wM cy q σ ++ ex)) {i x : Int32} (hin : vp_in i 40) (hd : decode cc pc = .ok (.iastore, 1)) (kk : ∀ (H1 : Heap) (locs1 : List Loc), WH D A H0 H1 locs1 (wM cy q (st σ 2 i.toNatClampNeg x) ++ ex) → W p l e R s m args below meth c H1 locs1 cells slots Q (F0 m (pc + 1) ls rest)) : W p l e R s m args below meth c H locs cells slots Q (F0 m pc ls (.int x :: .int i :: .ref (q 2) :: rest)) := va_iast S.1 S.2.1 K.1 h.1 h.2.1 h.2.2 2 0 rfl rfl hin hd (fun H1 locs1 a b c => kk H1 locs1 ⟨a, b, c⟩)
theorem al_M5 (S : CallFix p m c cc nL s args Ts own) (K : KK D cy s) (h : WH D A H0 H locs (wM cy q σ ++ ex)) {i : Int32} (hin : vp_in i 5) (hd : decode cc pc = .ok (.iaload, 1)) (kk : W p l e R s m args below meth c H locs cells slots Q (F0 m (pc + 1) ls (.int (σ 5 i.toNatClampNeg) :: rest))) : W p l e R s m args below meth c H locs cells slots Q (F0 m pc ls (.int i :: .ref (q 5) :: rest)) := va_iald S.1 S.2.1 K.1 h.1 5 0 rfl rfl hin hd kk
theorem as_M5 (S : CallFix p m c cc nL s args Ts own) (K : KK D cy s) (h : WH D A H0 H locs (wM cy q σ ++ ex)) {i x : Int32} (hin : vp_in i 5) (hd : decode cc pc = .ok (.iastore, 1)) (kk : ∀ (H1 : Heap) (locs1 : List Loc), WH D A H0 H1 locs1 (wM cy q (st σ 5 i.toNatClampNeg x) ++ ex) → W p l e R s m args below meth c H1 locs1 cells slots Q (F0 m (pc + 1) ls rest)) : W p l e R s m args below meth c H locs cells slots Q (F0 m pc ls (.int x :: .int i :: .ref (q 5) :: rest)) := va_iast S.1 S.2.1 K.1 h.1 h.2.1 h.2.2 5 0 rfl rfl hin hd (fun H1 locs1 a b c => kk H1 locs1 ⟨a, b, c⟩)
theorem al_M8 (S : CallFix p m c cc nL s args Ts own) (K : KK D cy s) (h : WH D A H0 H locs (wM cy q σ ++ ex)) {i : Int32} (hin : vp_in i 5) (hd : decode cc pc = .ok (.iaload, 1)) (kk : W p l e R s m args below meth c H locs cells slots Q (F0 m (pc + 1) ls (.int (σ 8 i.toNatClampNeg) :: rest))) : W p l e R s m args below meth c H locs cells slots Q (F0 m pc ls (.int i :: .ref (q 8) :: rest)) := va_iald S.1 S.2.1 K.1 h.1 8 0 rfl rfl hin hd kk
theorem as_M8 (S : CallFix p m c cc nL s args Ts own) (K : KK D cy s) (h : WH D A H0 H locs (wM cy q σ ++ ex)) {i x : Int32} (hin : vp_in i 5) (hd : decode cc pc = .ok (.iastore, 1)) (kk : ∀ (H1 : Heap) (locs1 : List Loc), WH D A H0 H1 locs1 (wM cy q (st σ 8 i.toNatClampNeg x) ++ ex) → W p l e R s m args below meth c H1 locs1 cells slots Q (F0 m (pc + 1) ls rest)) : W p l e R s m args below meth c H locs cells slots Q (F0 m pc ls (.int x :: .int i :: .ref (q 8) :: rest)) := va_iast S.1 S.2.1 K.1 h.1 h.2.1 h.2.2 8 0 rfl rfl hin hd (fun H1 locs1 a b c => kk H1 locs1 ⟨a, b, c⟩)
theorem al_M18 (S : CallFix p m c cc nL s args Ts own) (K : KK D cy s) (h : WH D A H0 H locs (wM cy q σ ++ ex)) {i : Int32} (hin : vp_in i 2) (hd : decode cc pc = .ok (.iaload, 1)) (kk : W p l e R s m args below meth c H locs cells slots Q (F0 m (pc + 1) ls (.int (σ 18 i.toNatClampNeg) :: rest))) : W p l e R s m args below meth c H locs cells slots Q (F0 m pc ls (.int i :: .ref (q 18) :: rest)) := va_iald S.1 S.2.1 K.1 h.1 18 0 rfl rfl hin hd kk
theorem as_M18 (S : CallFix p m c cc nL s args Ts own) (K : KK D cy s) (h : WH D A H0 H locs (wM cy q σ ++ ex)) {i x : Int32} (hin : vp_in i 2) (hd : decode cc pc = .ok (.iastore, 1)) (kk : ∀ (H1 : Heap) (locs1 : List Loc), WH D A H0 H1 locs1 (wM cy q (st σ 18 i.toNatClampNeg x) ++ ex) → W p l e R s m args below meth c H1 locs1 cells slots Q (F0 m (pc + 1) ls rest)) : W p l e R s m args below meth c H locs cells slots Q (F0 m pc ls (.int x :: .int i :: .ref (q 18) :: rest)) := va_iast S.1 S.2.1 K.1 h.1 h.2.1 h.2.2 18 0 rfl rfl hin hd (fun H1 locs1 a b c => kk H1 locs1 ⟨a, b, c⟩)
theorem al_M19 (S : CallFix p m c cc nL s args Ts own) (K : KK D cy s) (h : WH D A H0 H locs (wM cy q σ ++ ex)) {i : Int32} (hin : vp_in i 2) (hd : decode cc pc = .ok (.iaload, 1)) (kk : W p l e R s m args below meth c H locs cells slots Q (F0 m (pc + 1) ls (.int (σ 19 i.toNatClampNeg) :: rest))) : W p l e R s m args below meth c H locs cells slots Q (F0 m pc ls (.int i :: .ref (q 19) :: rest)) := va_iald S.1 S.2.1 K.1 h.1 19 0 rfl rfl hin hd kk
theorem as_M19 (S : CallFix p m c cc nL s args Ts own) (K : KK D cy s) (h : WH D A H0 H locs (wM cy q σ ++ ex)) {i x : Int32} (hin : vp_in i 2) (hd : decode cc pc = .ok (.iastore, 1)) (kk : ∀ (H1 : Heap) (locs1 : List Loc), WH D A H0 H1 locs1 (wM cy q (st σ 19 i.toNatClampNeg x) ++ ex) → W p l e R s m args below meth c H1 locs1 cells slots Q (F0 m (pc + 1) ls rest)) : W p l e R s m args below meth c H locs cells slots Q (F0 m pc ls (.int x :: .int i :: .ref (q 19) :: rest)) := va_iast S.1 S.2.1 K.1 h.1 h.2.1 h.2.2 19 0 rfl rfl hin hd (fun H1 locs1 a b c => kk H1 locs1 ⟨a, b, c⟩)
theorem al_M20 (S : CallFix p m c cc nL s args Ts own) (K : KK D cy s) (h : WH D A H0 H locs (wM cy q σ ++ ex)) {i : Int32} (hin : vp_in i 3) (hd : decode cc pc = .ok (.baload, 1)) (kk : W p l e R s m args below meth c H locs cells slots Q (F0 m (pc + 1) ls (.int (σ 20 i.toNatClampNeg) :: rest))) : W p l e R s m args below meth c H locs cells slots Q (F0 m pc ls (.int i :: .ref (q 20) :: rest)) := va_zald S.1 S.2.1 K.1 h.1 20 1 rfl rfl hin hd kk
theorem as_M20 (S : CallFix p m c cc nL s args Ts own) (K : KK D cy s) (h : WH D A H0 H locs (wM cy q σ ++ ex)) {i x : Int32} (hin : vp_in i 3) (hd : decode cc pc = .ok (.bastore, 1)) (kk : ∀ (H1 : Heap) (locs1 : List Loc), WH D A H0 H1 locs1 (wM cy q (st σ 20 i.toNatClampNeg (vp_nar .boolean x)) ++ ex) → W p l e R s m args below meth c H1 locs1 cells slots Q (F0 m (pc + 1) ls rest)) : W p l e R s m args below meth c H locs cells slots Q (F0 m pc ls (.int x :: .int i :: .ref (q 20) :: rest)) := va_zast S.1 S.2.1 K.1 h.1 h.2.1 h.2.2 20 1 rfl rfl hin hd (fun H1 locs1 a b c => kk H1 locs1 ⟨a, b, c⟩)
theorem al_M9 (S : CallFix p m c cc nL s args Ts own) (K : KK D cy s) (h : WH D A H0 H locs (wM cy q σ ++ ex)) {i : Int32} (hin : vp_in i 64) (hd : decode cc pc = .ok (.iaload, 1)) (kk : W p l e R s m args below meth c H locs cells slots Q (F0 m (pc + 1) ls (.int (σ 9 i.toNatClampNeg) :: rest))) : W p l e R s m args below meth c H locs cells slots Q (F0 m pc ls (.int i :: .ref (q 9) :: rest)) := va_iald S.1 S.2.1 K.1 h.1 9 0 rfl rfl hin hd kk
theorem as_M9 (S : CallFix p m c cc nL s args Ts own) (K : KK D cy s) (h : WH D A H0 H locs (wM cy q σ ++ ex)) {i x : Int32} (hin : vp_in i 64) (hd : decode cc pc = .ok (.iastore, 1)) (kk : ∀ (H1 : Heap) (locs1 : List Loc), WH D A H0 H1 locs1 (wM cy q (st σ 9 i.toNatClampNeg x) ++ ex) → W p l e R s m args below meth c H1 locs1 cells slots Q (F0 m (pc + 1) ls rest)) : W p l e R s m args below meth c H locs cells slots Q (F0 m pc ls (.int x :: .int i :: .ref (q 9) :: rest)) := va_iast S.1 S.2.1 K.1 h.1 h.2.1 h.2.2 9 0 rfl rfl hin hd (fun H1 locs1 a b c => kk H1 locs1 ⟨a, b, c⟩)
theorem al_M1 (S : CallFix p m c cc nL s args Ts own) (K : KK D cy s) (h : WH D A H0 H locs (wM cy q σ ++ ex)) {i : Int32} (hin : vp_in i 40) (hd : decode cc pc = .ok (.iaload, 1)) (kk : W p l e R s m args below meth c H locs cells slots Q (F0 m (pc + 1) ls (.int (σ 1 i.toNatClampNeg) :: rest))) : W p l e R s m args below meth c H locs cells slots Q (F0 m pc ls (.int i :: .ref (q 1) :: rest)) := va_iald S.1 S.2.1 K.1 h.1 1 0 rfl rfl hin hd kk
theorem as_M1 (S : CallFix p m c cc nL s args Ts own) (K : KK D cy s) (h : WH D A H0 H locs (wM cy q σ ++ ex)) {i x : Int32} (hin : vp_in i 40) (hd : decode cc pc = .ok (.iastore, 1)) (kk : ∀ (H1 : Heap) (locs1 : List Loc), WH D A H0 H1 locs1 (wM cy q (st σ 1 i.toNatClampNeg x) ++ ex) → W p l e R s m args below meth c H1 locs1 cells slots Q (F0 m (pc + 1) ls rest)) : W p l e R s m args below meth c H locs cells slots Q (F0 m pc ls (.int x :: .int i :: .ref (q 1) :: rest)) := va_iast S.1 S.2.1 K.1 h.1 h.2.1 h.2.2 1 0 rfl rfl hin hd (fun H1 locs1 a b c => kk H1 locs1 ⟨a, b, c⟩)
theorem al_M12 (S : CallFix p m c cc nL s args Ts own) (K : KK D cy s) (h : WH D A H0 H locs (wM cy q σ ++ ex)) {i : Int32} (hin : vp_in i 8) (hd : decode cc pc = .ok (.iaload, 1)) (kk : W p l e R s m args below meth c H locs cells slots Q (F0 m (pc + 1) ls (.int (σ 12 i.toNatClampNeg) :: rest))) : W p l e R s m args below meth c H locs cells slots Q (F0 m pc ls (.int i :: .ref (q 12) :: rest)) := va_iald S.1 S.2.1 K.1 h.1 12 0 rfl rfl hin hd kk
theorem as_M12 (S : CallFix p m c cc nL s args Ts own) (K : KK D cy s) (h : WH D A H0 H locs (wM cy q σ ++ ex)) {i x : Int32} (hin : vp_in i 8) (hd : decode cc pc = .ok (.iastore, 1)) (kk : ∀ (H1 : Heap) (locs1 : List Loc), WH D A H0 H1 locs1 (wM cy q (st σ 12 i.toNatClampNeg x) ++ ex) → W p l e R s m args below meth c H1 locs1 cells slots Q (F0 m (pc + 1) ls rest)) : W p l e R s m args below meth c H locs cells slots Q (F0 m pc ls (.int x :: .int i :: .ref (q 12) :: rest)) := va_iast S.1 S.2.1 K.1 h.1 h.2.1 h.2.2 12 0 rfl rfl hin hd (fun H1 locs1 a b c => kk H1 locs1 ⟨a, b, c⟩)
theorem al_M22 (S : CallFix p m c cc nL s args Ts own) (K : KK D cy s) (h : WH D A H0 H locs (wM cy q σ ++ ex)) {i : Int32} (hin : vp_in i 6) (hd : decode cc pc = .ok (.iaload, 1)) (kk : W p l e R s m args below meth c H locs cells slots Q (F0 m (pc + 1) ls (.int (σ 22 i.toNatClampNeg) :: rest))) : W p l e R s m args below meth c H locs cells slots Q (F0 m pc ls (.int i :: .ref (q 22) :: rest)) := va_iald S.1 S.2.1 K.1 h.1 22 0 rfl rfl hin hd kk
theorem as_M22 (S : CallFix p m c cc nL s args Ts own) (K : KK D cy s) (h : WH D A H0 H locs (wM cy q σ ++ ex)) {i x : Int32} (hin : vp_in i 6) (hd : decode cc pc = .ok (.iastore, 1)) (kk : ∀ (H1 : Heap) (locs1 : List Loc), WH D A H0 H1 locs1 (wM cy q (st σ 22 i.toNatClampNeg x) ++ ex) → W p l e R s m args below meth c H1 locs1 cells slots Q (F0 m (pc + 1) ls rest)) : W p l e R s m args below meth c H locs cells slots Q (F0 m pc ls (.int x :: .int i :: .ref (q 22) :: rest)) := va_iast S.1 S.2.1 K.1 h.1 h.2.1 h.2.2 22 0 rfl rfl hin hd (fun H1 locs1 a b c => kk H1 locs1 ⟨a, b, c⟩)
theorem al_M3 (S : CallFix p m c cc nL s args Ts own) (K : KK D cy s) (h : WH D A H0 H locs (wM cy q σ ++ ex)) {i : Int32} (hin : vp_in i 40) (hd : decode cc pc = .ok (.iaload, 1)) (kk : W p l e R s m args below meth c H locs cells slots Q (F0 m (pc + 1) ls (.int (σ 3 i.toNatClampNeg) :: rest))) : W p l e R s m args below meth c H locs cells slots Q (F0 m pc ls (.int i :: .ref (q 3) :: rest)) := va_iald S.1 S.2.1 K.1 h.1 3 0 rfl rfl hin hd kk
theorem as_M3 (S : CallFix p m c cc nL s args Ts own) (K : KK D cy s) (h : WH D A H0 H locs (wM cy q σ ++ ex)) {i x : Int32} (hin : vp_in i 40) (hd : decode cc pc = .ok (.iastore, 1)) (kk : ∀ (H1 : Heap) (locs1 : List Loc), WH D A H0 H1 locs1 (wM cy q (st σ 3 i.toNatClampNeg x) ++ ex) → W p l e R s m args below meth c H1 locs1 cells slots Q (F0 m (pc + 1) ls rest)) : W p l e R s m args below meth c H locs cells slots Q (F0 m pc ls (.int x :: .int i :: .ref (q 3) :: rest)) := va_iast S.1 S.2.1 K.1 h.1 h.2.1 h.2.2 3 0 rfl rfl hin hd (fun H1 locs1 a b c => kk H1 locs1 ⟨a, b, c⟩)
theorem al_M11 (S : CallFix p m c cc nL s args Ts own) (K : KK D cy s) (h : WH D A H0 H locs (wM cy q σ ++ ex)) {i : Int32} (hin : vp_in i 64) (hd : decode cc pc = .ok (.iaload, 1)) (kk : W p l e R s m args below meth c H locs cells slots Q (F0 m (pc + 1) ls (.int (σ 11 i.toNatClampNeg) :: rest))) : W p l e R s m args below meth c H locs cells slots Q (F0 m pc ls (.int i :: .ref (q 11) :: rest)) := va_iald S.1 S.2.1 K.1 h.1 11 0 rfl rfl hin hd kk
theorem as_M11 (S : CallFix p m c cc nL s args Ts own) (K : KK D cy s) (h : WH D A H0 H locs (wM cy q σ ++ ex)) {i x : Int32} (hin : vp_in i 64) (hd : decode cc pc = .ok (.iastore, 1)) (kk : ∀ (H1 : Heap) (locs1 : List Loc), WH D A H0 H1 locs1 (wM cy q (st σ 11 i.toNatClampNeg x) ++ ex) → W p l e R s m args below meth c H1 locs1 cells slots Q (F0 m (pc + 1) ls rest)) : W p l e R s m args below meth c H locs cells slots Q (F0 m pc ls (.int x :: .int i :: .ref (q 11) :: rest)) := va_iast S.1 S.2.1 K.1 h.1 h.2.1 h.2.2 11 0 rfl rfl hin hd (fun H1 locs1 a b c => kk H1 locs1 ⟨a, b, c⟩)
theorem al_M7 (S : CallFix p m c cc nL s args Ts own) (K : KK D cy s) (h : WH D A H0 H locs (wM cy q σ ++ ex)) {i : Int32} (hin : vp_in i 5) (hd : decode cc pc = .ok (.iaload, 1)) (kk : W p l e R s m args below meth c H locs cells slots Q (F0 m (pc + 1) ls (.int (σ 7 i.toNatClampNeg) :: rest))) : W p l e R s m args below meth c H locs cells slots Q (F0 m pc ls (.int i :: .ref (q 7) :: rest)) := va_iald S.1 S.2.1 K.1 h.1 7 0 rfl rfl hin hd kk
theorem as_M7 (S : CallFix p m c cc nL s args Ts own) (K : KK D cy s) (h : WH D A H0 H locs (wM cy q σ ++ ex)) {i x : Int32} (hin : vp_in i 5) (hd : decode cc pc = .ok (.iastore, 1)) (kk : ∀ (H1 : Heap) (locs1 : List Loc), WH D A H0 H1 locs1 (wM cy q (st σ 7 i.toNatClampNeg x) ++ ex) → W p l e R s m args below meth c H1 locs1 cells slots Q (F0 m (pc + 1) ls rest)) : W p l e R s m args below meth c H locs cells slots Q (F0 m pc ls (.int x :: .int i :: .ref (q 7) :: rest)) := va_iast S.1 S.2.1 K.1 h.1 h.2.1 h.2.2 7 0 rfl rfl hin hd (fun H1 locs1 a b c => kk H1 locs1 ⟨a, b, c⟩)
theorem al_M4 (S : CallFix p m c cc nL s args Ts own) (K : KK D cy s) (h : WH D A H0 H locs (wM cy q σ ++ ex)) {i : Int32} (hin : vp_in i 40) (hd : decode cc pc = .ok (.iaload, 1)) (kk : W p l e R s m args below meth c H locs cells slots Q (F0 m (pc + 1) ls (.int (σ 4 i.toNatClampNeg) :: rest))) : W p l e R s m args below meth c H locs cells slots Q (F0 m pc ls (.int i :: .ref (q 4) :: rest)) := va_iald S.1 S.2.1 K.1 h.1 4 0 rfl rfl hin hd kk
theorem as_M4 (S : CallFix p m c cc nL s args Ts own) (K : KK D cy s) (h : WH D A H0 H locs (wM cy q σ ++ ex)) {i x : Int32} (hin : vp_in i 40) (hd : decode cc pc = .ok (.iastore, 1)) (kk : ∀ (H1 : Heap) (locs1 : List Loc), WH D A H0 H1 locs1 (wM cy q (st σ 4 i.toNatClampNeg x) ++ ex) → W p l e R s m args below meth c H1 locs1 cells slots Q (F0 m (pc + 1) ls rest)) : W p l e R s m args below meth c H locs cells slots Q (F0 m pc ls (.int x :: .int i :: .ref (q 4) :: rest)) := va_iast S.1 S.2.1 K.1 h.1 h.2.1 h.2.2 4 0 rfl rfl hin hd (fun H1 locs1 a b c => kk H1 locs1 ⟨a, b, c⟩)
theorem al_M6 (S : CallFix p m c cc nL s args Ts own) (K : KK D cy s) (h : WH D A H0 H locs (wM cy q σ ++ ex)) {i : Int32} (hin : vp_in i 5) (hd : decode cc pc = .ok (.iaload, 1)) (kk : W p l e R s m args below meth c H locs cells slots Q (F0 m (pc + 1) ls (.int (σ 6 i.toNatClampNeg) :: rest))) : W p l e R s m args below meth c H locs cells slots Q (F0 m pc ls (.int i :: .ref (q 6) :: rest)) := va_iald S.1 S.2.1 K.1 h.1 6 0 rfl rfl hin hd kk
theorem as_M6 (S : CallFix p m c cc nL s args Ts own) (K : KK D cy s) (h : WH D A H0 H locs (wM cy q σ ++ ex)) {i x : Int32} (hin : vp_in i 5) (hd : decode cc pc = .ok (.iastore, 1)) (kk : ∀ (H1 : Heap) (locs1 : List Loc), WH D A H0 H1 locs1 (wM cy q (st σ 6 i.toNatClampNeg x) ++ ex) → W p l e R s m args below meth c H1 locs1 cells slots Q (F0 m (pc + 1) ls rest)) : W p l e R s m args below meth c H locs cells slots Q (F0 m pc ls (.int x :: .int i :: .ref (q 6) :: rest)) := va_iast S.1 S.2.1 K.1 h.1 h.2.1 h.2.2 6 0 rfl rfl hin hd (fun H1 locs1 a b c => kk H1 locs1 ⟨a, b, c⟩)
theorem al_M10 (S : CallFix p m c cc nL s args Ts own) (K : KK D cy s) (h : WH D A H0 H locs (wM cy q σ ++ ex)) {i : Int32} (hin : vp_in i 64) (hd : decode cc pc = .ok (.iaload, 1)) (kk : W p l e R s m args below meth c H locs cells slots Q (F0 m (pc + 1) ls (.int (σ 10 i.toNatClampNeg) :: rest))) : W p l e R s m args below meth c H locs cells slots Q (F0 m pc ls (.int i :: .ref (q 10) :: rest)) := va_iald S.1 S.2.1 K.1 h.1 10 0 rfl rfl hin hd kk
theorem as_M10 (S : CallFix p m c cc nL s args Ts own) (K : KK D cy s) (h : WH D A H0 H locs (wM cy q σ ++ ex)) {i x : Int32} (hin : vp_in i 64) (hd : decode cc pc = .ok (.iastore, 1)) (kk : ∀ (H1 : Heap) (locs1 : List Loc), WH D A H0 H1 locs1 (wM cy q (st σ 10 i.toNatClampNeg x) ++ ex) → W p l e R s m args below meth c H1 locs1 cells slots Q (F0 m (pc + 1) ls rest)) : W p l e R s m args below meth c H locs cells slots Q (F0 m pc ls (.int x :: .int i :: .ref (q 10) :: rest)) := va_iast S.1 S.2.1 K.1 h.1 h.2.1 h.2.2 10 0 rfl rfl hin hd (fun H1 locs1 a b c => kk H1 locs1 ⟨a, b, c⟩)
theorem al_cells (S : CallFix p m c cc nL s args Ts own) (K : KK D cy s) {r : Nat} (hr : r < 7) (h : WH D A H0 H locs (wH cy q σ ++ ex)) {i : Int32} (hin : vp_in i 8) (hd : decode cc pc = .ok (.iaload, 1)) (kk : W p l e R s m args below meth c H locs cells slots Q (F0 m (pc + 1) ls (.int (σ (20 + r) i.toNatClampNeg) :: rest))) : W p l e R s m args below meth c H locs cells slots Q (F0 m pc ls (.int i :: .ref (q (20 + r)) :: rest)) := va_iald S.1 S.2.1 K.1 h.1 (20 + r) 0 (cells_at cy q σ ex hr) rfl hin hd kk
theorem as_cells (S : CallFix p m c cc nL s args Ts own) (K : KK D cy s) {r : Nat} (hr : r < 7) (h : WH D A H0 H locs (wH cy q σ ++ ex)) {i x : Int32} (hin : vp_in i 8) (hd : decode cc pc = .ok (.iastore, 1)) (kk : ∀ (H1 : Heap) (locs1 : List Loc), WH D A H0 H1 locs1 (wH cy q (st σ (20 + r) i.toNatClampNeg x) ++ ex) → W p l e R s m args below meth c H1 locs1 cells slots Q (F0 m (pc + 1) ls rest)) : W p l e R s m args below meth c H locs cells slots Q (F0 m pc ls (.int x :: .int i :: .ref (q (20 + r)) :: rest)) := va_iast S.1 S.2.1 K.1 h.1 h.2.1 h.2.2 (20 + r) 0 (cells_at cy q σ ex hr) rfl hin hd (fun H1 locs1 a b c => kk H1 locs1 (by rw [← cells_set cy q σ ex hr]; exact ⟨a, b, c⟩))
end WLD
theorem yd_X0_alarmAct : yX0_alarmAct.cls = RX0 ∧ yX0_alarmAct.cls ≠ "java/lang/invoke/MethodHandle" ∧ yX0_alarmAct.cls ≠ "java/lang/invoke/VarHandle" ∧ (parseMethodDescriptor yX0_alarmAct.desc).map (fun d => d.parameters.length) = some 3 := by decide +kernel
theorem yd_X0_asKind : yX0_asKind.cls = RX0 ∧ yX0_asKind.cls ≠ "java/lang/invoke/MethodHandle" ∧ yX0_asKind.cls ≠ "java/lang/invoke/VarHandle" ∧ (parseMethodDescriptor yX0_asKind.desc).map (fun d => d.parameters.length) = some 2 := by decide +kernel
theorem yd_X0_askItem : yX0_askItem.cls = RX0 ∧ yX0_askItem.cls ≠ "java/lang/invoke/MethodHandle" ∧ yX0_askItem.cls ≠ "java/lang/invoke/VarHandle" ∧ (parseMethodDescriptor yX0_askItem.desc).map (fun d => d.parameters.length) = some 3 := by decide +kernel
theorem yd_X0_begin : yX0_begin.cls = RX0 ∧ yX0_begin.cls ≠ "java/lang/invoke/MethodHandle" ∧ yX0_begin.cls ≠ "java/lang/invoke/VarHandle" ∧ (parseMethodDescriptor yX0_begin.desc).map (fun d => d.parameters.length) = some 1 := by decide +kernel
theorem yd_X0_beltAct : yX0_beltAct.cls = RX0 ∧ yX0_beltAct.cls ≠ "java/lang/invoke/MethodHandle" ∧ yX0_beltAct.cls ≠ "java/lang/invoke/VarHandle" ∧ (parseMethodDescriptor yX0_beltAct.desc).map (fun d => d.parameters.length) = some 4 := by decide +kernel
theorem yd_X0_count : yX0_count.cls = RX0 ∧ yX0_count.cls ≠ "java/lang/invoke/MethodHandle" ∧ yX0_count.cls ≠ "java/lang/invoke/VarHandle" ∧ (parseMethodDescriptor yX0_count.desc).map (fun d => d.parameters.length) = some 2 := by decide +kernel
theorem yd_X0_counterAct : yX0_counterAct.cls = RX0 ∧ yX0_counterAct.cls ≠ "java/lang/invoke/MethodHandle" ∧ yX0_counterAct.cls ≠ "java/lang/invoke/VarHandle" ∧ (parseMethodDescriptor yX0_counterAct.desc).map (fun d => d.parameters.length) = some 4 := by decide +kernel
theorem yd_X0_firstPlaceOf : yX0_firstPlaceOf.cls = RX0 ∧ yX0_firstPlaceOf.cls ≠ "java/lang/invoke/MethodHandle" ∧ yX0_firstPlaceOf.cls ≠ "java/lang/invoke/VarHandle" ∧ (parseMethodDescriptor yX0_firstPlaceOf.desc).map (fun d => d.parameters.length) = some 1 := by decide +kernel
theorem yd_X0_init : yX0_init.cls = RX0 ∧ yX0_init.cls ≠ "java/lang/invoke/MethodHandle" ∧ yX0_init.cls ≠ "java/lang/invoke/VarHandle" ∧ (parseMethodDescriptor yX0_init.desc).map (fun d => d.parameters.length) = some 0 := by decide +kernel
theorem yd_X0_lay : yX0_lay.cls = RX0 ∧ yX0_lay.cls ≠ "java/lang/invoke/MethodHandle" ∧ yX0_lay.cls ≠ "java/lang/invoke/VarHandle" ∧ (parseMethodDescriptor yX0_lay.desc).map (fun d => d.parameters.length) = some 3 := by decide +kernel
theorem yd_X0_lineBehind : yX0_lineBehind.cls = RX0 ∧ yX0_lineBehind.cls ≠ "java/lang/invoke/MethodHandle" ∧ yX0_lineBehind.cls ≠ "java/lang/invoke/VarHandle" ∧ (parseMethodDescriptor yX0_lineBehind.desc).map (fun d => d.parameters.length) = some 4 := by decide +kernel
theorem yd_X0_load : yX0_load.cls = RX0 ∧ yX0_load.cls ≠ "java/lang/invoke/MethodHandle" ∧ yX0_load.cls ≠ "java/lang/invoke/VarHandle" ∧ (parseMethodDescriptor yX0_load.desc).map (fun d => d.parameters.length) = some 2 := by decide +kernel
theorem yd_X0_measure : yX0_measure.cls = RX0 ∧ yX0_measure.cls ≠ "java/lang/invoke/MethodHandle" ∧ yX0_measure.cls ≠ "java/lang/invoke/VarHandle" ∧ (parseMethodDescriptor yX0_measure.desc).map (fun d => d.parameters.length) = some 2 := by decide +kernel
theorem yd_X0_newGrid : yX0_newGrid.cls = RX0 ∧ yX0_newGrid.cls ≠ "java/lang/invoke/MethodHandle" ∧ yX0_newGrid.cls ≠ "java/lang/invoke/VarHandle" ∧ (parseMethodDescriptor yX0_newGrid.desc).map (fun d => d.parameters.length) = some 3 := by decide +kernel
theorem yd_X0_perform : yX0_perform.cls = RX0 ∧ yX0_perform.cls ≠ "java/lang/invoke/MethodHandle" ∧ yX0_perform.cls ≠ "java/lang/invoke/VarHandle" ∧ (parseMethodDescriptor yX0_perform.desc).map (fun d => d.parameters.length) = some 4 := by decide +kernel
theorem yd_X0_pick : yX0_pick.cls = RX0 ∧ yX0_pick.cls ≠ "java/lang/invoke/MethodHandle" ∧ yX0_pick.cls ≠ "java/lang/invoke/VarHandle" ∧ (parseMethodDescriptor yX0_pick.desc).map (fun d => d.parameters.length) = some 3 := by decide +kernel
theorem yd_X0_placeAct : yX0_placeAct.cls = RX0 ∧ yX0_placeAct.cls ≠ "java/lang/invoke/MethodHandle" ∧ yX0_placeAct.cls ≠ "java/lang/invoke/VarHandle" ∧ (parseMethodDescriptor yX0_placeAct.desc).map (fun d => d.parameters.length) = some 4 := by decide +kernel
theorem yd_X0_readCount : yX0_readCount.cls = RX0 ∧ yX0_readCount.cls ≠ "java/lang/invoke/MethodHandle" ∧ yX0_readCount.cls ≠ "java/lang/invoke/VarHandle" ∧ (parseMethodDescriptor yX0_readCount.desc).map (fun d => d.parameters.length) = some 3 := by decide +kernel
theorem yd_X0_sumGrid : yX0_sumGrid.cls = RX0 ∧ yX0_sumGrid.cls ≠ "java/lang/invoke/MethodHandle" ∧ yX0_sumGrid.cls ≠ "java/lang/invoke/VarHandle" ∧ (parseMethodDescriptor yX0_sumGrid.desc).map (fun d => d.parameters.length) = some 2 := by decide +kernel
theorem yd_X1_add : yX1_add.cls = RX1 ∧ yX1_add.cls ≠ "java/lang/invoke/MethodHandle" ∧ yX1_add.cls ≠ "java/lang/invoke/VarHandle" ∧ (parseMethodDescriptor yX1_add.desc).map (fun d => d.parameters.length) = some 2 := by decide +kernel
theorem yd_X1_feed : yX1_feed.cls = RX1 ∧ yX1_feed.cls ≠ "java/lang/invoke/MethodHandle" ∧ yX1_feed.cls ≠ "java/lang/invoke/VarHandle" ∧ (parseMethodDescriptor yX1_feed.desc).map (fun d => d.parameters.length) = some 1 := by decide +kernel
theorem yd_X1_has : yX1_has.cls = RX1 ∧ yX1_has.cls ≠ "java/lang/invoke/MethodHandle" ∧ yX1_has.cls ≠ "java/lang/invoke/VarHandle" ∧ (parseMethodDescriptor yX1_has.desc).map (fun d => d.parameters.length) = some 1 := by decide +kernel
theorem yd_X1_init : yX1_init.cls = RX1 ∧ yX1_init.cls ≠ "java/lang/invoke/MethodHandle" ∧ yX1_init.cls ≠ "java/lang/invoke/VarHandle" ∧ (parseMethodDescriptor yX1_init.desc).map (fun d => d.parameters.length) = some 0 := by decide +kernel
theorem yd_X1_isAlive : yX1_isAlive.cls = RX1 ∧ yX1_isAlive.cls ≠ "java/lang/invoke/MethodHandle" ∧ yX1_isAlive.cls ≠ "java/lang/invoke/VarHandle" ∧ (parseMethodDescriptor yX1_isAlive.desc).map (fun d => d.parameters.length) = some 1 := by decide +kernel
theorem yd_X1_stamp : yX1_stamp.cls = RX1 ∧ yX1_stamp.cls ≠ "java/lang/invoke/MethodHandle" ∧ yX1_stamp.cls ≠ "java/lang/invoke/VarHandle" ∧ (parseMethodDescriptor yX1_stamp.desc).map (fun d => d.parameters.length) = some 1 := by decide +kernel
theorem yd_X2_addAct : yX2_addAct.cls = RX2 ∧ yX2_addAct.cls ≠ "java/lang/invoke/MethodHandle" ∧ yX2_addAct.cls ≠ "java/lang/invoke/VarHandle" ∧ (parseMethodDescriptor yX2_addAct.desc).map (fun d => d.parameters.length) = some 4 := by decide +kernel
theorem yd_X2_addGuard : yX2_addGuard.cls = RX2 ∧ yX2_addGuard.cls ≠ "java/lang/invoke/MethodHandle" ∧ yX2_addGuard.cls ≠ "java/lang/invoke/VarHandle" ∧ (parseMethodDescriptor yX2_addGuard.desc).map (fun d => d.parameters.length) = some 4 := by decide +kernel
theorem yd_X2_guardFor : yX2_guardFor.cls = RX2 ∧ yX2_guardFor.cls ≠ "java/lang/invoke/MethodHandle" ∧ yX2_guardFor.cls ≠ "java/lang/invoke/VarHandle" ∧ (parseMethodDescriptor yX2_guardFor.desc).map (fun d => d.parameters.length) = some 2 := by decide +kernel
theorem yd_X2_hasAct : yX2_hasAct.cls = RX2 ∧ yX2_hasAct.cls ≠ "java/lang/invoke/MethodHandle" ∧ yX2_hasAct.cls ≠ "java/lang/invoke/VarHandle" ∧ (parseMethodDescriptor yX2_hasAct.desc).map (fun d => d.parameters.length) = some 1 := by decide +kernel
theorem yd_X2_init : yX2_init.cls = RX2 ∧ yX2_init.cls ≠ "java/lang/invoke/MethodHandle" ∧ yX2_init.cls ≠ "java/lang/invoke/VarHandle" ∧ (parseMethodDescriptor yX2_init.desc).map (fun d => d.parameters.length) = some 0 := by decide +kernel
theorem yd_X2_isAct : yX2_isAct.cls = RX2 ∧ yX2_isAct.cls ≠ "java/lang/invoke/MethodHandle" ∧ yX2_isAct.cls ≠ "java/lang/invoke/VarHandle" ∧ (parseMethodDescriptor yX2_isAct.desc).map (fun d => d.parameters.length) = some 4 := by decide +kernel
theorem yd_X2_isGood : yX2_isGood.cls = RX2 ∧ yX2_isGood.cls ≠ "java/lang/invoke/MethodHandle" ∧ yX2_isGood.cls ≠ "java/lang/invoke/VarHandle" ∧ (parseMethodDescriptor yX2_isGood.desc).map (fun d => d.parameters.length) = some 2 := by decide +kernel
theorem yd_X3_begin : yX3_begin.cls = RX3 ∧ yX3_begin.cls ≠ "java/lang/invoke/MethodHandle" ∧ yX3_begin.cls ≠ "java/lang/invoke/VarHandle" ∧ (parseMethodDescriptor yX3_begin.desc).map (fun d => d.parameters.length) = some 0 := by decide +kernel
theorem yd_X3_init : yX3_init.cls = RX3 ∧ yX3_init.cls ≠ "java/lang/invoke/MethodHandle" ∧ yX3_init.cls ≠ "java/lang/invoke/VarHandle" ∧ (parseMethodDescriptor yX3_init.desc).map (fun d => d.parameters.length) = some 0 := by decide +kernel
theorem yd_X4_hasPlace : yX4_hasPlace.cls = RX4 ∧ yX4_hasPlace.cls ≠ "java/lang/invoke/MethodHandle" ∧ yX4_hasPlace.cls ≠ "java/lang/invoke/VarHandle" ∧ (parseMethodDescriptor yX4_hasPlace.desc).map (fun d => d.parameters.length) = some 1 := by decide +kernel
theorem yd_X4_init : yX4_init.cls = RX4 ∧ yX4_init.cls ≠ "java/lang/invoke/MethodHandle" ∧ yX4_init.cls ≠ "java/lang/invoke/VarHandle" ∧ (parseMethodDescriptor yX4_init.desc).map (fun d => d.parameters.length) = some 0 := by decide +kernel
theorem yd_X4_isThere : yX4_isThere.cls = RX4 ∧ yX4_isThere.cls ≠ "java/lang/invoke/MethodHandle" ∧ yX4_isThere.cls ≠ "java/lang/invoke/VarHandle" ∧ (parseMethodDescriptor yX4_isThere.desc).map (fun d => d.parameters.length) = some 0 := by decide +kernel
theorem yd_X4_placeFailure : yX4_placeFailure.cls = RX4 ∧ yX4_placeFailure.cls ≠ "java/lang/invoke/MethodHandle" ∧ yX4_placeFailure.cls ≠ "java/lang/invoke/VarHandle" ∧ (parseMethodDescriptor yX4_placeFailure.desc).map (fun d => d.parameters.length) = some 1 := by decide +kernel
theorem yd_X4_remove : yX4_remove.cls = RX4 ∧ yX4_remove.cls ≠ "java/lang/invoke/MethodHandle" ∧ yX4_remove.cls ≠ "java/lang/invoke/VarHandle" ∧ (parseMethodDescriptor yX4_remove.desc).map (fun d => d.parameters.length) = some 0 := by decide +kernel
theorem yd_X4_renew : yX4_renew.cls = RX4 ∧ yX4_renew.cls ≠ "java/lang/invoke/MethodHandle" ∧ yX4_renew.cls ≠ "java/lang/invoke/VarHandle" ∧ (parseMethodDescriptor yX4_renew.desc).map (fun d => d.parameters.length) = some 3 := by decide +kernel
theorem yd_X5_act : yX5_act.cls = RX5 ∧ yX5_act.cls ≠ "java/lang/invoke/MethodHandle" ∧ yX5_act.cls ≠ "java/lang/invoke/VarHandle" ∧ (parseMethodDescriptor yX5_act.desc).map (fun d => d.parameters.length) = some 4 := by decide +kernel
theorem yd_X5_caught : yX5_caught.cls = RX5 ∧ yX5_caught.cls ≠ "java/lang/invoke/MethodHandle" ∧ yX5_caught.cls ≠ "java/lang/invoke/VarHandle" ∧ (parseMethodDescriptor yX5_caught.desc).map (fun d => d.parameters.length) = some 1 := by decide +kernel
theorem yd_X5_clear : yX5_clear.cls = RX5 ∧ yX5_clear.cls ≠ "java/lang/invoke/MethodHandle" ∧ yX5_clear.cls ≠ "java/lang/invoke/VarHandle" ∧ (parseMethodDescriptor yX5_clear.desc).map (fun d => d.parameters.length) = some 0 := by decide +kernel
theorem yd_X5_counted : yX5_counted.cls = RX5 ∧ yX5_counted.cls ≠ "java/lang/invoke/MethodHandle" ∧ yX5_counted.cls ≠ "java/lang/invoke/VarHandle" ∧ (parseMethodDescriptor yX5_counted.desc).map (fun d => d.parameters.length) = some 2 := by decide +kernel
theorem yd_X5_guard : yX5_guard.cls = RX5 ∧ yX5_guard.cls ≠ "java/lang/invoke/MethodHandle" ∧ yX5_guard.cls ≠ "java/lang/invoke/VarHandle" ∧ (parseMethodDescriptor yX5_guard.desc).map (fun d => d.parameters.length) = some 4 := by decide +kernel
theorem yd_X5_init : yX5_init.cls = RX5 ∧ yX5_init.cls ≠ "java/lang/invoke/MethodHandle" ∧ yX5_init.cls ≠ "java/lang/invoke/VarHandle" ∧ (parseMethodDescriptor yX5_init.desc).map (fun d => d.parameters.length) = some 0 := by decide +kernel
theorem yd_X5_isBelow : yX5_isBelow.cls = RX5 ∧ yX5_isBelow.cls ≠ "java/lang/invoke/MethodHandle" ∧ yX5_isBelow.cls ≠ "java/lang/invoke/VarHandle" ∧ (parseMethodDescriptor yX5_isBelow.desc).map (fun d => d.parameters.length) = some 2 := by decide +kernel
theorem yd_X5_isOf : yX5_isOf.cls = RX5 ∧ yX5_isOf.cls ≠ "java/lang/invoke/MethodHandle" ∧ yX5_isOf.cls ≠ "java/lang/invoke/VarHandle" ∧ (parseMethodDescriptor yX5_isOf.desc).map (fun d => d.parameters.length) = some 2 := by decide +kernel
theorem yd_X5_item : yX5_item.cls = RX5 ∧ yX5_item.cls ≠ "java/lang/invoke/MethodHandle" ∧ yX5_item.cls ≠ "java/lang/invoke/VarHandle" ∧ (parseMethodDescriptor yX5_item.desc).map (fun d => d.parameters.length) = some 2 := by decide +kernel
theorem yd_X5_nextLine : yX5_nextLine.cls = RX5 ∧ yX5_nextLine.cls ≠ "java/lang/invoke/MethodHandle" ∧ yX5_nextLine.cls ≠ "java/lang/invoke/VarHandle" ∧ (parseMethodDescriptor yX5_nextLine.desc).map (fun d => d.parameters.length) = some 1 := by decide +kernel
theorem yd_X5_onBelt : yX5_onBelt.cls = RX5 ∧ yX5_onBelt.cls ≠ "java/lang/invoke/MethodHandle" ∧ yX5_onBelt.cls ≠ "java/lang/invoke/VarHandle" ∧ (parseMethodDescriptor yX5_onBelt.desc).map (fun d => d.parameters.length) = some 2 := by decide +kernel
theorem yd_X5_register : yX5_register.cls = RX5 ∧ yX5_register.cls ≠ "java/lang/invoke/MethodHandle" ∧ yX5_register.cls ≠ "java/lang/invoke/VarHandle" ∧ (parseMethodDescriptor yX5_register.desc).map (fun d => d.parameters.length) = some 1 := by decide +kernel
theorem yd_X5_row : yX5_row.cls = RX5 ∧ yX5_row.cls ≠ "java/lang/invoke/MethodHandle" ∧ yX5_row.cls ≠ "java/lang/invoke/VarHandle" ∧ (parseMethodDescriptor yX5_row.desc).map (fun d => d.parameters.length) = some 2 := by decide +kernel
theorem yd_X5_run : yX5_run.cls = RX5 ∧ yX5_run.cls ≠ "java/lang/invoke/MethodHandle" ∧ yX5_run.cls ≠ "java/lang/invoke/VarHandle" ∧ (parseMethodDescriptor yX5_run.desc).map (fun d => d.parameters.length) = some 2 := by decide +kernel
theorem yd_X5_sizeFailure : yX5_sizeFailure.cls = RX5 ∧ yX5_sizeFailure.cls ≠ "java/lang/invoke/MethodHandle" ∧ yX5_sizeFailure.cls ≠ "java/lang/invoke/VarHandle" ∧ (parseMethodDescriptor yX5_sizeFailure.desc).map (fun d => d.parameters.length) = some 1 := by decide +kernel
theorem yd_X5_told : yX5_told.cls = RX5 ∧ yX5_told.cls ≠ "java/lang/invoke/MethodHandle" ∧ yX5_told.cls ≠ "java/lang/invoke/VarHandle" ∧ (parseMethodDescriptor yX5_told.desc).map (fun d => d.parameters.length) = some 1 := by decide +kernel
theorem yd_X6_act : yX6_act.cls = RX6 ∧ yX6_act.cls ≠ "java/lang/invoke/MethodHandle" ∧ yX6_act.cls ≠ "java/lang/invoke/VarHandle" ∧ (parseMethodDescriptor yX6_act.desc).map (fun d => d.parameters.length) = some 4 := by decide +kernel
theorem yd_X6_begin : yX6_begin.cls = RX6 ∧ yX6_begin.cls ≠ "java/lang/invoke/MethodHandle" ∧ yX6_begin.cls ≠ "java/lang/invoke/VarHandle" ∧ (parseMethodDescriptor yX6_begin.desc).map (fun d => d.parameters.length) = some 1 := by decide +kernel
theorem yd_X6_belts : yX6_belts.cls = RX6 ∧ yX6_belts.cls ≠ "java/lang/invoke/MethodHandle" ∧ yX6_belts.cls ≠ "java/lang/invoke/VarHandle" ∧ (parseMethodDescriptor yX6_belts.desc).map (fun d => d.parameters.length) = some 4 := by decide +kernel
theorem yd_X6_caught : yX6_caught.cls = RX6 ∧ yX6_caught.cls ≠ "java/lang/invoke/MethodHandle" ∧ yX6_caught.cls ≠ "java/lang/invoke/VarHandle" ∧ (parseMethodDescriptor yX6_caught.desc).map (fun d => d.parameters.length) = some 1 := by decide +kernel
theorem yd_X6_clear : yX6_clear.cls = RX6 ∧ yX6_clear.cls ≠ "java/lang/invoke/MethodHandle" ∧ yX6_clear.cls ≠ "java/lang/invoke/VarHandle" ∧ (parseMethodDescriptor yX6_clear.desc).map (fun d => d.parameters.length) = some 0 := by decide +kernel
theorem yd_X6_counted : yX6_counted.cls = RX6 ∧ yX6_counted.cls ≠ "java/lang/invoke/MethodHandle" ∧ yX6_counted.cls ≠ "java/lang/invoke/VarHandle" ∧ (parseMethodDescriptor yX6_counted.desc).map (fun d => d.parameters.length) = some 2 := by decide +kernel
theorem yd_X6_counts : yX6_counts.cls = RX6 ∧ yX6_counts.cls ≠ "java/lang/invoke/MethodHandle" ∧ yX6_counts.cls ≠ "java/lang/invoke/VarHandle" ∧ (parseMethodDescriptor yX6_counts.desc).map (fun d => d.parameters.length) = some 4 := by decide +kernel
theorem yd_X6_fails : yX6_fails.cls = RX6 ∧ yX6_fails.cls ≠ "java/lang/invoke/MethodHandle" ∧ yX6_fails.cls ≠ "java/lang/invoke/VarHandle" ∧ (parseMethodDescriptor yX6_fails.desc).map (fun d => d.parameters.length) = some 1 := by decide +kernel
theorem yd_X6_feed : yX6_feed.cls = RX6 ∧ yX6_feed.cls ≠ "java/lang/invoke/MethodHandle" ∧ yX6_feed.cls ≠ "java/lang/invoke/VarHandle" ∧ (parseMethodDescriptor yX6_feed.desc).map (fun d => d.parameters.length) = some 2 := by decide +kernel
theorem yd_X6_goOn : yX6_goOn.cls = RX6 ∧ yX6_goOn.cls ≠ "java/lang/invoke/MethodHandle" ∧ yX6_goOn.cls ≠ "java/lang/invoke/VarHandle" ∧ (parseMethodDescriptor yX6_goOn.desc).map (fun d => d.parameters.length) = some 0 := by decide +kernel
theorem yd_X6_guard : yX6_guard.cls = RX6 ∧ yX6_guard.cls ≠ "java/lang/invoke/MethodHandle" ∧ yX6_guard.cls ≠ "java/lang/invoke/VarHandle" ∧ (parseMethodDescriptor yX6_guard.desc).map (fun d => d.parameters.length) = some 4 := by decide +kernel
theorem yd_X6_in : yX6_in.cls = RX6 ∧ yX6_in.cls ≠ "java/lang/invoke/MethodHandle" ∧ yX6_in.cls ≠ "java/lang/invoke/VarHandle" ∧ (parseMethodDescriptor yX6_in.desc).map (fun d => d.parameters.length) = some 3 := by decide +kernel
theorem yd_X6_init : yX6_init.cls = RX6 ∧ yX6_init.cls ≠ "java/lang/invoke/MethodHandle" ∧ yX6_init.cls ≠ "java/lang/invoke/VarHandle" ∧ (parseMethodDescriptor yX6_init.desc).map (fun d => d.parameters.length) = some 0 := by decide +kernel
theorem yd_X6_isIndex : yX6_isIndex.cls = RX6 ∧ yX6_isIndex.cls ≠ "java/lang/invoke/MethodHandle" ∧ yX6_isIndex.cls ≠ "java/lang/invoke/VarHandle" ∧ (parseMethodDescriptor yX6_isIndex.desc).map (fun d => d.parameters.length) = some 2 := by decide +kernel
theorem yd_X6_isOf : yX6_isOf.cls = RX6 ∧ yX6_isOf.cls ≠ "java/lang/invoke/MethodHandle" ∧ yX6_isOf.cls ≠ "java/lang/invoke/VarHandle" ∧ (parseMethodDescriptor yX6_isOf.desc).map (fun d => d.parameters.length) = some 2 := by decide +kernel
theorem yd_X6_isPlace : yX6_isPlace.cls = RX6 ∧ yX6_isPlace.cls ≠ "java/lang/invoke/MethodHandle" ∧ yX6_isPlace.cls ≠ "java/lang/invoke/VarHandle" ∧ (parseMethodDescriptor yX6_isPlace.desc).map (fun d => d.parameters.length) = some 1 := by decide +kernel
theorem yd_X6_isRegister : yX6_isRegister.cls = RX6 ∧ yX6_isRegister.cls ≠ "java/lang/invoke/MethodHandle" ∧ yX6_isRegister.cls ≠ "java/lang/invoke/VarHandle" ∧ (parseMethodDescriptor yX6_isRegister.desc).map (fun d => d.parameters.length) = some 1 := by decide +kernel
theorem yd_X6_isRight : yX6_isRight.cls = RX6 ∧ yX6_isRight.cls ≠ "java/lang/invoke/MethodHandle" ∧ yX6_isRight.cls ≠ "java/lang/invoke/VarHandle" ∧ (parseMethodDescriptor yX6_isRight.desc).map (fun d => d.parameters.length) = some 4 := by decide +kernel
theorem yd_X6_isSize : yX6_isSize.cls = RX6 ∧ yX6_isSize.cls ≠ "java/lang/invoke/MethodHandle" ∧ yX6_isSize.cls ≠ "java/lang/invoke/VarHandle" ∧ (parseMethodDescriptor yX6_isSize.desc).map (fun d => d.parameters.length) = some 1 := by decide +kernel
theorem yd_X6_isThere : yX6_isThere.cls = RX6 ∧ yX6_isThere.cls ≠ "java/lang/invoke/MethodHandle" ∧ yX6_isThere.cls ≠ "java/lang/invoke/VarHandle" ∧ (parseMethodDescriptor yX6_isThere.desc).map (fun d => d.parameters.length) = some 1 := by decide +kernel
theorem yd_X6_item : yX6_item.cls = RX6 ∧ yX6_item.cls ≠ "java/lang/invoke/MethodHandle" ∧ yX6_item.cls ≠ "java/lang/invoke/VarHandle" ∧ (parseMethodDescriptor yX6_item.desc).map (fun d => d.parameters.length) = some 2 := by decide +kernel
theorem yd_X6_onBelt : yX6_onBelt.cls = RX6 ∧ yX6_onBelt.cls ≠ "java/lang/invoke/MethodHandle" ∧ yX6_onBelt.cls ≠ "java/lang/invoke/VarHandle" ∧ (parseMethodDescriptor yX6_onBelt.desc).map (fun d => d.parameters.length) = some 2 := by decide +kernel
theorem yd_X6_one : yX6_one.cls = RX6 ∧ yX6_one.cls ≠ "java/lang/invoke/MethodHandle" ∧ yX6_one.cls ≠ "java/lang/invoke/VarHandle" ∧ (parseMethodDescriptor yX6_one.desc).map (fun d => d.parameters.length) = some 3 := by decide +kernel
theorem yd_X6_register : yX6_register.cls = RX6 ∧ yX6_register.cls ≠ "java/lang/invoke/MethodHandle" ∧ yX6_register.cls ≠ "java/lang/invoke/VarHandle" ∧ (parseMethodDescriptor yX6_register.desc).map (fun d => d.parameters.length) = some 1 := by decide +kernel
theorem yd_X6_rest : yX6_rest.cls = RX6 ∧ yX6_rest.cls ≠ "java/lang/invoke/MethodHandle" ∧ yX6_rest.cls ≠ "java/lang/invoke/VarHandle" ∧ (parseMethodDescriptor yX6_rest.desc).map (fun d => d.parameters.length) = some 4 := by decide +kernel
theorem yd_X6_row : yX6_row.cls = RX6 ∧ yX6_row.cls ≠ "java/lang/invoke/MethodHandle" ∧ yX6_row.cls ≠ "java/lang/invoke/VarHandle" ∧ (parseMethodDescriptor yX6_row.desc).map (fun d => d.parameters.length) = some 2 := by decide +kernel
theorem yd_X6_run : yX6_run.cls = RX6 ∧ yX6_run.cls ≠ "java/lang/invoke/MethodHandle" ∧ yX6_run.cls ≠ "java/lang/invoke/VarHandle" ∧ (parseMethodDescriptor yX6_run.desc).map (fun d => d.parameters.length) = some 2 := by decide +kernel
theorem yd_X6_stamped : yX6_stamped.cls = RX6 ∧ yX6_stamped.cls ≠ "java/lang/invoke/MethodHandle" ∧ yX6_stamped.cls ≠ "java/lang/invoke/VarHandle" ∧ (parseMethodDescriptor yX6_stamped.desc).map (fun d => d.parameters.length) = some 1 := by decide +kernel
theorem yd_X6_told : yX6_told.cls = RX6 ∧ yX6_told.cls ≠ "java/lang/invoke/MethodHandle" ∧ yX6_told.cls ≠ "java/lang/invoke/VarHandle" ∧ (parseMethodDescriptor yX6_told.desc).map (fun d => d.parameters.length) = some 1 := by decide +kernel
end
