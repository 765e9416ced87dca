-- ===== PART A: goes FIRST, ahead of the names: the tables' words, and 'selects' of the private methods out of them =====
/-- a private method of a class that the tables say can be made, by its rows of tables_1 -/
def lw_okq (q : MethodName × Nat) : Prop := (q.1.cls ≠ "java/lang/invoke/MethodHandle" ∧ q.1.cls ≠ "java/lang/invoke/VarHandle") ∧ Cond.instantiable q.1.cls q.2 ∈ tables_1 ∧ Cond.privateMethod q.1 ∈ tables_1 ∧ Cond.instanceMethod q.1 ∈ tables_1
theorem lw_p0 : lw_okq (⟨"BaggageHall", "nextLine", "(I)I"⟩, 3) := ⟨⟨by decide +kernel, by decide +kernel⟩, List.mem_of_getElem? (i := 9) (by decide +kernel), List.mem_of_getElem? (i := 250) (by decide +kernel), List.mem_of_getElem? (i := 251) (by decide +kernel)⟩
theorem lw_p1 : lw_okq (⟨"BaggageHall$Hall", "placeAct", "(IIII)I"⟩, 9) := ⟨⟨by decide +kernel, by decide +kernel⟩, List.mem_of_getElem? (i := 62) (by decide +kernel), List.mem_of_getElem? (i := 258) (by decide +kernel), List.mem_of_getElem? (i := 259) (by decide +kernel)⟩
theorem lw_p2 : lw_okq (⟨"BaggageHall$Hall", "beltAct", "(IIII)I"⟩, 9) := ⟨⟨by decide +kernel, by decide +kernel⟩, List.mem_of_getElem? (i := 62) (by decide +kernel), List.mem_of_getElem? (i := 266) (by decide +kernel), List.mem_of_getElem? (i := 267) (by decide +kernel)⟩
theorem lw_p3 : lw_okq (⟨"BaggageHall$Hall", "lay", "(LBaggageHall$Row;II)I"⟩, 9) := ⟨⟨by decide +kernel, by decide +kernel⟩, List.mem_of_getElem? (i := 62) (by decide +kernel), List.mem_of_getElem? (i := 277) (by decide +kernel), List.mem_of_getElem? (i := 278) (by decide +kernel)⟩
theorem lw_p4 : lw_okq (⟨"BaggageHall$Hall", "pick", "(ILBaggageHall$Row;I)I"⟩, 9) := ⟨⟨by decide +kernel, by decide +kernel⟩, List.mem_of_getElem? (i := 62) (by decide +kernel), List.mem_of_getElem? (i := 301) (by decide +kernel), List.mem_of_getElem? (i := 302) (by decide +kernel)⟩
theorem lw_p5 : lw_okq (⟨"BaggageHall$Hall", "measure", "(ILBaggageHall$Row;)I"⟩, 9) := ⟨⟨by decide +kernel, by decide +kernel⟩, List.mem_of_getElem? (i := 62) (by decide +kernel), List.mem_of_getElem? (i := 305) (by decide +kernel), List.mem_of_getElem? (i := 306) (by decide +kernel)⟩
theorem lw_p6 : lw_okq (⟨"BaggageHall$Hall", "askItem", "(III)I"⟩, 9) := ⟨⟨by decide +kernel, by decide +kernel⟩, List.mem_of_getElem? (i := 62) (by decide +kernel), List.mem_of_getElem? (i := 310) (by decide +kernel), List.mem_of_getElem? (i := 311) (by decide +kernel)⟩
theorem lw_p7 : lw_okq (⟨"BaggageHall$Hall", "load", "(II)I"⟩, 9) := ⟨⟨by decide +kernel, by decide +kernel⟩, List.mem_of_getElem? (i := 62) (by decide +kernel), List.mem_of_getElem? (i := 326) (by decide +kernel), List.mem_of_getElem? (i := 327) (by decide +kernel)⟩
theorem lw_p8 : lw_okq (⟨"BaggageHall$Hall", "asKind", "(II)I"⟩, 9) := ⟨⟨by decide +kernel, by decide +kernel⟩, List.mem_of_getElem? (i := 62) (by decide +kernel), List.mem_of_getElem? (i := 330) (by decide +kernel), List.mem_of_getElem? (i := 331) (by decide +kernel)⟩
theorem lw_p9 : lw_okq (⟨"BaggageHall$Hall", "counterAct", "(IIII)I"⟩, 9) := ⟨⟨by decide +kernel, by decide +kernel⟩, List.mem_of_getElem? (i := 62) (by decide +kernel), List.mem_of_getElem? (i := 334) (by decide +kernel), List.mem_of_getElem? (i := 335) (by decide +kernel)⟩
theorem lw_p10 : lw_okq (⟨"BaggageHall$Hall", "count", "(LBaggageHall$Row;I)I"⟩, 9) := ⟨⟨by decide +kernel, by decide +kernel⟩, List.mem_of_getElem? (i := 62) (by decide +kernel), List.mem_of_getElem? (i := 338) (by decide +kernel), List.mem_of_getElem? (i := 339) (by decide +kernel)⟩
theorem lw_p11 : lw_okq (⟨"BaggageHall$Hall", "readCount", "(ILBaggageHall$Row;I)I"⟩, 9) := ⟨⟨by decide +kernel, by decide +kernel⟩, List.mem_of_getElem? (i := 62) (by decide +kernel), List.mem_of_getElem? (i := 342) (by decide +kernel), List.mem_of_getElem? (i := 343) (by decide +kernel)⟩
theorem lw_p12 : lw_okq (⟨"BaggageHall$Hall", "newGrid", "(III)I"⟩, 9) := ⟨⟨by decide +kernel, by decide +kernel⟩, List.mem_of_getElem? (i := 62) (by decide +kernel), List.mem_of_getElem? (i := 346) (by decide +kernel), List.mem_of_getElem? (i := 347) (by decide +kernel)⟩
theorem lw_p13 : lw_okq (⟨"BaggageHall$Hall", "sumGrid", "(II)I"⟩, 9) := ⟨⟨by decide +kernel, by decide +kernel⟩, List.mem_of_getElem? (i := 62) (by decide +kernel), List.mem_of_getElem? (i := 351) (by decide +kernel), List.mem_of_getElem? (i := 352) (by decide +kernel)⟩
theorem lw_p14 : lw_okq (⟨"BaggageHall$Hall", "alarmAct", "(III)I"⟩, 9) := ⟨⟨by decide +kernel, by decide +kernel⟩, List.mem_of_getElem? (i := 62) (by decide +kernel), List.mem_of_getElem? (i := 355) (by decide +kernel), List.mem_of_getElem? (i := 356) (by decide +kernel)⟩
theorem lw_p15 : lw_okq (⟨"BaggageHallModel", "begin", "(I)V"⟩, 33) := ⟨⟨by decide +kernel, by decide +kernel⟩, List.mem_of_getElem? (i := 401) (by decide +kernel), List.mem_of_getElem? (i := 407) (by decide +kernel), List.mem_of_getElem? (i := 408) (by decide +kernel)⟩
def lw_privs_1 : List (MethodName × Nat) := [(⟨"BaggageHall", "nextLine", "(I)I"⟩, 3), (⟨"BaggageHall$Hall", "placeAct", "(IIII)I"⟩, 9), (⟨"BaggageHall$Hall", "beltAct", "(IIII)I"⟩, 9), (⟨"BaggageHall$Hall", "lay", "(LBaggageHall$Row;II)I"⟩, 9), (⟨"BaggageHall$Hall", "pick", "(ILBaggageHall$Row;I)I"⟩, 9), (⟨"BaggageHall$Hall", "measure", "(ILBaggageHall$Row;)I"⟩, 9), (⟨"BaggageHall$Hall", "askItem", "(III)I"⟩, 9), (⟨"BaggageHall$Hall", "load", "(II)I"⟩, 9), (⟨"BaggageHall$Hall", "asKind", "(II)I"⟩, 9), (⟨"BaggageHall$Hall", "counterAct", "(IIII)I"⟩, 9), (⟨"BaggageHall$Hall", "count", "(LBaggageHall$Row;I)I"⟩, 9), (⟨"BaggageHall$Hall", "readCount", "(ILBaggageHall$Row;I)I"⟩, 9), (⟨"BaggageHall$Hall", "newGrid", "(III)I"⟩, 9), (⟨"BaggageHall$Hall", "sumGrid", "(II)I"⟩, 9), (⟨"BaggageHall$Hall", "alarmAct", "(III)I"⟩, 9), (⟨"BaggageHallModel", "begin", "(I)V"⟩, 33)]
theorem lw_r1 : ∀ q ∈ lw_privs_1, lw_okq q := List.forall_mem_cons.mpr ⟨lw_p0, List.forall_mem_cons.mpr ⟨lw_p1, List.forall_mem_cons.mpr ⟨lw_p2, List.forall_mem_cons.mpr ⟨lw_p3, List.forall_mem_cons.mpr ⟨lw_p4, List.forall_mem_cons.mpr ⟨lw_p5, List.forall_mem_cons.mpr ⟨lw_p6, List.forall_mem_cons.mpr ⟨lw_p7, List.forall_mem_cons.mpr ⟨lw_p8, List.forall_mem_cons.mpr ⟨lw_p9, List.forall_mem_cons.mpr ⟨lw_p10, List.forall_mem_cons.mpr ⟨lw_p11, List.forall_mem_cons.mpr ⟨lw_p12, List.forall_mem_cons.mpr ⟨lw_p13, List.forall_mem_cons.mpr ⟨lw_p14, List.forall_mem_cons.mpr ⟨lw_p15, fun _ h => absurd h List.not_mem_nil⟩⟩⟩⟩⟩⟩⟩⟩⟩⟩⟩⟩⟩⟩⟩⟩
theorem lw_p16 : lw_okq (⟨"BaggageHallModel", "goOn", "()V"⟩, 33) := ⟨⟨by decide +kernel, by decide +kernel⟩, List.mem_of_getElem? (i := 401) (by decide +kernel), List.mem_of_getElem? (i := 539) (by decide +kernel), List.mem_of_getElem? (i := 540) (by decide +kernel)⟩
theorem lw_p17 : lw_okq (⟨"BaggageHallModel", "belts", "(IIII)V"⟩, 33) := ⟨⟨by decide +kernel, by decide +kernel⟩, List.mem_of_getElem? (i := 401) (by decide +kernel), List.mem_of_getElem? (i := 543) (by decide +kernel), List.mem_of_getElem? (i := 544) (by decide +kernel)⟩
theorem lw_p18 : lw_okq (⟨"BaggageHallModel", "isSize", "(I)Z"⟩, 33) := ⟨⟨by decide +kernel, by decide +kernel⟩, List.mem_of_getElem? (i := 401) (by decide +kernel), List.mem_of_getElem? (i := 547) (by decide +kernel), List.mem_of_getElem? (i := 548) (by decide +kernel)⟩
theorem lw_p19 : lw_okq (⟨"BaggageHallModel", "isThere", "(Z)Z"⟩, 33) := ⟨⟨by decide +kernel, by decide +kernel⟩, List.mem_of_getElem? (i := 401) (by decide +kernel), List.mem_of_getElem? (i := 551) (by decide +kernel), List.mem_of_getElem? (i := 552) (by decide +kernel)⟩
theorem lw_p20 : lw_okq (⟨"BaggageHallModel", "isIndex", "(II)Z"⟩, 33) := ⟨⟨by decide +kernel, by decide +kernel⟩, List.mem_of_getElem? (i := 401) (by decide +kernel), List.mem_of_getElem? (i := 555) (by decide +kernel), List.mem_of_getElem? (i := 556) (by decide +kernel)⟩
theorem lw_p21 : lw_okq (⟨"BaggageHallModel", "one", "(III)V"⟩, 33) := ⟨⟨by decide +kernel, by decide +kernel⟩, List.mem_of_getElem? (i := 401) (by decide +kernel), List.mem_of_getElem? (i := 562) (by decide +kernel), List.mem_of_getElem? (i := 563) (by decide +kernel)⟩
theorem lw_p22 : lw_okq (⟨"BaggageHallModel", "stamped", "(I)I"⟩, 33) := ⟨⟨by decide +kernel, by decide +kernel⟩, List.mem_of_getElem? (i := 401) (by decide +kernel), List.mem_of_getElem? (i := 566) (by decide +kernel), List.mem_of_getElem? (i := 567) (by decide +kernel)⟩
theorem lw_p23 : lw_okq (⟨"BaggageHallModel", "feed", "(II)V"⟩, 33) := ⟨⟨by decide +kernel, by decide +kernel⟩, List.mem_of_getElem? (i := 401) (by decide +kernel), List.mem_of_getElem? (i := 570) (by decide +kernel), List.mem_of_getElem? (i := 571) (by decide +kernel)⟩
theorem lw_p24 : lw_okq (⟨"BaggageHallModel", "counts", "(IIII)V"⟩, 33) := ⟨⟨by decide +kernel, by decide +kernel⟩, List.mem_of_getElem? (i := 401) (by decide +kernel), List.mem_of_getElem? (i := 574) (by decide +kernel), List.mem_of_getElem? (i := 575) (by decide +kernel)⟩
theorem lw_p25 : lw_okq (⟨"BaggageHallModel", "rest", "(IIII)V"⟩, 33) := ⟨⟨by decide +kernel, by decide +kernel⟩, List.mem_of_getElem? (i := 401) (by decide +kernel), List.mem_of_getElem? (i := 578) (by decide +kernel), List.mem_of_getElem? (i := 579) (by decide +kernel)⟩
theorem lw_p26 : lw_okq (⟨"BaggageHallModel", "fails", "(I)V"⟩, 33) := ⟨⟨by decide +kernel, by decide +kernel⟩, List.mem_of_getElem? (i := 401) (by decide +kernel), List.mem_of_getElem? (i := 582) (by decide +kernel), List.mem_of_getElem? (i := 583) (by decide +kernel)⟩
def lw_privs_2 : List (MethodName × Nat) := [(⟨"BaggageHallModel", "goOn", "()V"⟩, 33), (⟨"BaggageHallModel", "belts", "(IIII)V"⟩, 33), (⟨"BaggageHallModel", "isSize", "(I)Z"⟩, 33), (⟨"BaggageHallModel", "isThere", "(Z)Z"⟩, 33), (⟨"BaggageHallModel", "isIndex", "(II)Z"⟩, 33), (⟨"BaggageHallModel", "one", "(III)V"⟩, 33), (⟨"BaggageHallModel", "stamped", "(I)I"⟩, 33), (⟨"BaggageHallModel", "feed", "(II)V"⟩, 33), (⟨"BaggageHallModel", "counts", "(IIII)V"⟩, 33), (⟨"BaggageHallModel", "rest", "(IIII)V"⟩, 33), (⟨"BaggageHallModel", "fails", "(I)V"⟩, 33)]
theorem lw_r2 : ∀ q ∈ lw_privs_2, lw_okq q := List.forall_mem_cons.mpr ⟨lw_p16, List.forall_mem_cons.mpr ⟨lw_p17, List.forall_mem_cons.mpr ⟨lw_p18, List.forall_mem_cons.mpr ⟨lw_p19, List.forall_mem_cons.mpr ⟨lw_p20, List.forall_mem_cons.mpr ⟨lw_p21, List.forall_mem_cons.mpr ⟨lw_p22, List.forall_mem_cons.mpr ⟨lw_p23, List.forall_mem_cons.mpr ⟨lw_p24, List.forall_mem_cons.mpr ⟨lw_p25, List.forall_mem_cons.mpr ⟨lw_p26, fun _ h => absurd h List.not_mem_nil⟩⟩⟩⟩⟩⟩⟩⟩⟩⟩⟩
def lw_privs : List (MethodName × Nat) := lw_privs_1 ++ (lw_privs_2)
def lw_tbl : List Cond := k2_sels lw_privs ++ tables_1
theorem lw_privs_ok : ∀ q ∈ lw_privs, lw_okq q := by
  show ∀ q ∈ lw_privs_1 ++ (lw_privs_2), lw_okq q
  exact List.forall_mem_append.mpr ⟨lw_r1, lw_r2⟩
def RX0 : String := "BaggageHall$Hall"
def TX0 : u_T := fun k => match k with
  | 0 => ("BaggageHall$Hall", "registers", "[I", true)
  | 1 => ("BaggageHall$Hall", "places", "[I", true)
  | 2 => ("BaggageHall$Hall", "items", "LBaggageHall$Items;", true)
  | 3 => ("BaggageHall$Hall", "belts", "[LBaggageHall$Row;", true)
  | 4 => ("BaggageHall$Hall", "counters", "[LBaggageHall$Row;", true)
  | 5 => ("BaggageHall$Hall", "gridRows", "[I", true)
  | 6 => ("BaggageHall$Hall", "gridWidths", "[I", true)
  | 7 => ("BaggageHall$Hall", "alarmsThere", "[Z", true)
  | _ => ("BaggageHall$Hall", "alarmNumbers", "[I", true)
def tyX0 : Nat → FieldType := fun k => match k with
  | 0 => .array .int
  | 1 => .array .int
  | 2 => .object "BaggageHall$Items"
  | 3 => .array (.object "BaggageHall$Row")
  | 4 => .array (.object "BaggageHall$Row")
  | 5 => .array .int
  | 6 => .array .int
  | 7 => .array .boolean
  | _ => .array .int
abbrev wsX00 : List Cond := u_ws RX0 TX0 9
theorem nmX0 : ∀ a, a < 9 → ∀ b, b < 9 → a ≠ b → (TX0 a).2.1 ≠ (TX0 b).2.1 := by decide +kernel
theorem tyX0_ok : ∀ k, k < 9 → parseFieldDescriptor (TX0 k).2.2.1 = some (tyX0 k) := by decide +kernel
abbrev cX0_init : ByteArray := prog_2_method_1_code
def yX0_init : MethodName := ⟨RX0, "<init>", "()V"⟩
abbrev cX0_begin : ByteArray := prog_2_method_2_code
def yX0_begin : MethodName := ⟨RX0, "begin", "(I)V"⟩
abbrev cX0_firstPlaceOf : ByteArray := prog_2_method_3_code
def yX0_firstPlaceOf : MethodName := ⟨RX0, "firstPlaceOf", "(I)I"⟩
abbrev cX0_lineBehind : ByteArray := prog_2_method_4_code
def yX0_lineBehind : MethodName := ⟨RX0, "lineBehind", "(IIII)I"⟩
abbrev cX0_perform : ByteArray := prog_2_method_5_code
def yX0_perform : MethodName := ⟨RX0, "perform", "(IIII)I"⟩
abbrev cX0_placeAct : ByteArray := prog_2_method_6_code
def yX0_placeAct : MethodName := ⟨RX0, "placeAct", "(IIII)I"⟩
abbrev cX0_beltAct : ByteArray := prog_2_method_7_code
def yX0_beltAct : MethodName := ⟨RX0, "beltAct", "(IIII)I"⟩
abbrev cX0_lay : ByteArray := prog_2_method_8_code
def yX0_lay : MethodName := ⟨RX0, "lay", "(LBaggageHall$Row;II)I"⟩
abbrev cX0_pick : ByteArray := prog_2_method_9_code
def yX0_pick : MethodName := ⟨RX0, "pick", "(ILBaggageHall$Row;I)I"⟩
abbrev cX0_measure : ByteArray := prog_2_method_10_code
def yX0_measure : MethodName := ⟨RX0, "measure", "(ILBaggageHall$Row;)I"⟩
abbrev cX0_askItem : ByteArray := prog_2_method_11_code
def yX0_askItem : MethodName := ⟨RX0, "askItem", "(III)I"⟩
abbrev cX0_load : ByteArray := prog_2_method_12_code
def yX0_load : MethodName := ⟨RX0, "load", "(II)I"⟩
abbrev cX0_asKind : ByteArray := prog_2_method_13_code
def yX0_asKind : MethodName := ⟨RX0, "asKind", "(II)I"⟩
abbrev cX0_counterAct : ByteArray := prog_2_method_14_code
def yX0_counterAct : MethodName := ⟨RX0, "counterAct", "(IIII)I"⟩
abbrev cX0_count : ByteArray := prog_2_method_15_code
def yX0_count : MethodName := ⟨RX0, "count", "(LBaggageHall$Row;I)I"⟩
abbrev cX0_readCount : ByteArray := prog_2_method_16_code
def yX0_readCount : MethodName := ⟨RX0, "readCount", "(ILBaggageHall$Row;I)I"⟩
abbrev cX0_newGrid : ByteArray := prog_2_method_17_code
def yX0_newGrid : MethodName := ⟨RX0, "newGrid", "(III)I"⟩
abbrev cX0_sumGrid : ByteArray := prog_2_method_18_code
def yX0_sumGrid : MethodName := ⟨RX0, "sumGrid", "(II)I"⟩
abbrev cX0_alarmAct : ByteArray := prog_2_method_19_code
def yX0_alarmAct : MethodName := ⟨RX0, "alarmAct", "(III)I"⟩
def RX1 : String := "BaggageHall$Items"
def TX1 : u_T := fun k => match k with
  | 0 => ("BaggageHall$Items", "kinds", "[I", true)
  | 1 => ("BaggageHall$Items", "weights", "[I", true)
  | 2 => ("BaggageHall$Items", "stamps", "[I", true)
  | _ => ("BaggageHall$Items", "made", "I", false)
def tyX1 : Nat → FieldType := fun k => match k with
  | 0 => .array .int
  | 1 => .array .int
  | 2 => .array .int
  | _ => .int
abbrev wsX10 : List Cond := u_ws RX1 TX1 4
theorem nmX1 : ∀ a, a < 4 → ∀ b, b < 4 → a ≠ b → (TX1 a).2.1 ≠ (TX1 b).2.1 := by decide +kernel
theorem tyX1_ok : ∀ k, k < 4 → parseFieldDescriptor (TX1 k).2.2.1 = some (tyX1 k) := by decide +kernel
abbrev cX1_init : ByteArray := prog_3_method_1_code
def yX1_init : MethodName := ⟨RX1, "<init>", "()V"⟩
abbrev cX1_has : ByteArray := prog_3_method_2_code
def yX1_has : MethodName := ⟨RX1, "has", "(I)Z"⟩
abbrev cX1_add : ByteArray := prog_3_method_3_code
def yX1_add : MethodName := ⟨RX1, "add", "(II)I"⟩
abbrev cX1_stamp : ByteArray := prog_3_method_4_code
def yX1_stamp : MethodName := ⟨RX1, "stamp", "(I)I"⟩
abbrev cX1_isAlive : ByteArray := prog_3_method_5_code
def yX1_isAlive : MethodName := ⟨RX1, "isAlive", "(I)Z"⟩
abbrev cX1_feed : ByteArray := prog_3_method_6_code
def yX1_feed : MethodName := ⟨RX1, "feed", "(I)I"⟩
def RX2 : String := "BaggageHall$Plan"
def TX2 : u_T := fun k => match k with
  | 0 => ("BaggageHall$Plan", "ops", "[I", true)
  | 1 => ("BaggageHall$Plan", "firsts", "[I", true)
  | 2 => ("BaggageHall$Plan", "seconds", "[I", true)
  | 3 => ("BaggageHall$Plan", "thirds", "[I", true)
  | 4 => ("BaggageHall$Plan", "acts", "I", false)
  | 5 => ("BaggageHall$Plan", "guardFroms", "[I", true)
  | 6 => ("BaggageHall$Plan", "guardTos", "[I", true)
  | 7 => ("BaggageHall$Plan", "guardFailures", "[I", true)
  | 8 => ("BaggageHall$Plan", "guardLines", "[I", true)
  | _ => ("BaggageHall$Plan", "guards", "I", false)
def tyX2 : Nat → FieldType := fun k => match k with
  | 0 => .array .int
  | 1 => .array .int
  | 2 => .array .int
  | 3 => .array .int
  | 4 => .int
  | 5 => .array .int
  | 6 => .array .int
  | 7 => .array .int
  | 8 => .array .int
  | _ => .int
abbrev wsX20 : List Cond := u_ws RX2 TX2 10
theorem nmX2 : ∀ a, a < 10 → ∀ b, b < 10 → a ≠ b → (TX2 a).2.1 ≠ (TX2 b).2.1 := by decide +kernel
theorem tyX2_ok : ∀ k, k < 10 → parseFieldDescriptor (TX2 k).2.2.1 = some (tyX2 k) := by decide +kernel
abbrev cX2_init : ByteArray := prog_4_method_1_code
def yX2_init : MethodName := ⟨RX2, "<init>", "()V"⟩
abbrev cX2_isAct : ByteArray := prog_4_method_2_code
def yX2_isAct : MethodName := ⟨RX2, "isAct", "(IIII)Z"⟩
abbrev cX2_isGood : ByteArray := prog_4_method_3_code
def yX2_isGood : MethodName := ⟨RX2, "isGood", "(II)Z"⟩
abbrev cX2_addAct : ByteArray := prog_4_method_4_code
def yX2_addAct : MethodName := ⟨RX2, "addAct", "(IIII)I"⟩
abbrev cX2_addGuard : ByteArray := prog_4_method_5_code
def yX2_addGuard : MethodName := ⟨RX2, "addGuard", "(IIII)I"⟩
abbrev cX2_hasAct : ByteArray := prog_4_method_6_code
def yX2_hasAct : MethodName := ⟨RX2, "hasAct", "(I)Z"⟩
abbrev cX2_guardFor : ByteArray := prog_4_method_7_code
def yX2_guardFor : MethodName := ⟨RX2, "guardFor", "(II)I"⟩
def RX3 : String := "BaggageHall$Report"
def TX3 : u_T := fun k => match k with
  | 0 => ("BaggageHall$Report", "failure", "I", false)
  | 1 => ("BaggageHall$Report", "line", "I", false)
  | 2 => ("BaggageHall$Report", "alarm", "I", false)
  | 3 => ("BaggageHall$Report", "done", "I", false)
  | 4 => ("BaggageHall$Report", "allTaken", "I", false)
  | _ => ("BaggageHall$Report", "taken", "[I", true)
def tyX3 : Nat → FieldType := fun k => match k with
  | 0 => .int
  | 1 => .int
  | 2 => .int
  | 3 => .int
  | 4 => .int
  | _ => .array .int
abbrev wsX30 : List Cond := u_ws RX3 TX3 6
theorem nmX3 : ∀ a, a < 6 → ∀ b, b < 6 → a ≠ b → (TX3 a).2.1 ≠ (TX3 b).2.1 := by decide +kernel
theorem tyX3_ok : ∀ k, k < 6 → parseFieldDescriptor (TX3 k).2.2.1 = some (tyX3 k) := by decide +kernel
abbrev cX3_init : ByteArray := prog_5_method_1_code
def yX3_init : MethodName := ⟨RX3, "<init>", "()V"⟩
abbrev cX3_begin : ByteArray := prog_5_method_2_code
def yX3_begin : MethodName := ⟨RX3, "begin", "()V"⟩
def RX4 : String := "BaggageHall$Row"
def TX4 : u_T := fun k => match k with
  | 0 => ("BaggageHall$Row", "kind", "I", false)
  | 1 => ("BaggageHall$Row", "length", "I", false)
  | _ => ("BaggageHall$Row", "cells", "[I", true)
def tyX4 : Nat → FieldType := fun k => match k with
  | 0 => .int
  | 1 => .int
  | _ => .array .int
abbrev wsX40 : List Cond := u_ws RX4 TX4 3
theorem nmX4 : ∀ a, a < 3 → ∀ b, b < 3 → a ≠ b → (TX4 a).2.1 ≠ (TX4 b).2.1 := by decide +kernel
theorem tyX4_ok : ∀ k, k < 3 → parseFieldDescriptor (TX4 k).2.2.1 = some (tyX4 k) := by decide +kernel
abbrev cX4_init : ByteArray := prog_6_method_1_code
def yX4_init : MethodName := ⟨RX4, "<init>", "()V"⟩
abbrev cX4_isThere : ByteArray := prog_6_method_2_code
def yX4_isThere : MethodName := ⟨RX4, "isThere", "()Z"⟩
abbrev cX4_hasPlace : ByteArray := prog_6_method_3_code
def yX4_hasPlace : MethodName := ⟨RX4, "hasPlace", "(I)Z"⟩
abbrev cX4_remove : ByteArray := prog_6_method_4_code
def yX4_remove : MethodName := ⟨RX4, "remove", "()V"⟩
abbrev cX4_renew : ByteArray := prog_6_method_5_code
def yX4_renew : MethodName := ⟨RX4, "renew", "(III)I"⟩
abbrev cX4_placeFailure : ByteArray := prog_6_method_6_code
def yX4_placeFailure : MethodName := ⟨RX4, "placeFailure", "(I)I"⟩
def RX5 : String := "BaggageHall"
def TX5 : u_T := fun k => match k with
  | 0 => ("BaggageHall", "plan", "LBaggageHall$Plan;", true)
  | 1 => ("BaggageHall", "hall", "LBaggageHall$Hall;", true)
  | _ => ("BaggageHall", "report", "LBaggageHall$Report;", true)
def tyX5 : Nat → FieldType := fun k => match k with
  | 0 => .object "BaggageHall$Plan"
  | 1 => .object "BaggageHall$Hall"
  | _ => .object "BaggageHall$Report"
abbrev wsX50 : List Cond := u_ws RX5 TX5 3
theorem nmX5 : ∀ a, a < 3 → ∀ b, b < 3 → a ≠ b → (TX5 a).2.1 ≠ (TX5 b).2.1 := by decide +kernel
theorem tyX5_ok : ∀ k, k < 3 → parseFieldDescriptor (TX5 k).2.2.1 = some (tyX5 k) := by decide +kernel
abbrev cX5_init : ByteArray := prog_1_method_1_code
def yX5_init : MethodName := ⟨RX5, "<init>", "()V"⟩
abbrev cX5_act : ByteArray := prog_1_method_2_code
def yX5_act : MethodName := ⟨RX5, "act", "(IIII)I"⟩
abbrev cX5_guard : ByteArray := prog_1_method_3_code
def yX5_guard : MethodName := ⟨RX5, "guard", "(IIII)I"⟩
abbrev cX5_clear : ByteArray := prog_1_method_4_code
def yX5_clear : MethodName := ⟨RX5, "clear", "()I"⟩
abbrev cX5_run : ByteArray := prog_1_method_5_code
def yX5_run : MethodName := ⟨RX5, "run", "(II)I"⟩
abbrev cX5_told : ByteArray := prog_1_method_6_code
def yX5_told : MethodName := ⟨RX5, "told", "(I)I"⟩
abbrev cX5_caught : ByteArray := prog_1_method_7_code
def yX5_caught : MethodName := ⟨RX5, "caught", "(I)I"⟩
abbrev cX5_register : ByteArray := prog_1_method_8_code
def yX5_register : MethodName := ⟨RX5, "register", "(I)I"⟩
abbrev cX5_item : ByteArray := prog_1_method_9_code
def yX5_item : MethodName := ⟨RX5, "item", "(II)I"⟩
abbrev cX5_row : ByteArray := prog_1_method_10_code
def yX5_row : MethodName := ⟨RX5, "row", "(II)I"⟩
abbrev cX5_onBelt : ByteArray := prog_1_method_11_code
def yX5_onBelt : MethodName := ⟨RX5, "onBelt", "(II)I"⟩
abbrev cX5_counted : ByteArray := prog_1_method_12_code
def yX5_counted : MethodName := ⟨RX5, "counted", "(II)I"⟩
abbrev cX5_nextLine : ByteArray := prog_1_method_13_code
def yX5_nextLine : MethodName := ⟨RX5, "nextLine", "(I)I"⟩
abbrev cX5_isBelow : ByteArray := prog_1_method_14_code
def yX5_isBelow : MethodName := ⟨RX5, "isBelow", "(II)Z"⟩
abbrev cX5_isOf : ByteArray := prog_1_method_15_code
def yX5_isOf : MethodName := ⟨RX5, "isOf", "(II)Z"⟩
abbrev cX5_sizeFailure : ByteArray := prog_1_method_16_code
def yX5_sizeFailure : MethodName := ⟨RX5, "sizeFailure", "(I)I"⟩
def RX6 : String := "BaggageHallModel"
def TX6 : u_T := fun k => match k with
  | 0 => ("BaggageHallModel", "acts", "I", false)
  | 1 => ("BaggageHallModel", "op", "[I", true)
  | 2 => ("BaggageHallModel", "first", "[I", true)
  | 3 => ("BaggageHallModel", "second", "[I", true)
  | 4 => ("BaggageHallModel", "third", "[I", true)
  | 5 => ("BaggageHallModel", "guards", "I", false)
  | 6 => ("BaggageHallModel", "from", "[I", true)
  | 7 => ("BaggageHallModel", "to", "[I", true)
  | 8 => ("BaggageHallModel", "takes", "[I", true)
  | 9 => ("BaggageHallModel", "goesTo", "[I", true)
  | 10 => ("BaggageHallModel", "items", "I", false)
  | 11 => ("BaggageHallModel", "kind", "[I", true)
  | 12 => ("BaggageHallModel", "weight", "[I", true)
  | 13 => ("BaggageHallModel", "stamps", "[I", true)
  | 14 => ("BaggageHallModel", "place", "[I", true)
  | 15 => ("BaggageHallModel", "beltLong", "[I", true)
  | 16 => ("BaggageHallModel", "beltKind", "[I", true)
  | 17 => ("BaggageHallModel", "belt", "[I", true)
  | 18 => ("BaggageHallModel", "counterLong", "[I", true)
  | 19 => ("BaggageHallModel", "counter", "[I", true)
  | 20 => ("BaggageHallModel", "gridLong", "[I", true)
  | 21 => ("BaggageHallModel", "gridWide", "[I", true)
  | 22 => ("BaggageHallModel", "isAlarm", "[Z", true)
  | 23 => ("BaggageHallModel", "alarm", "[I", true)
  | 24 => ("BaggageHallModel", "register", "[I", true)
  | 25 => ("BaggageHallModel", "line", "I", false)
  | 26 => ("BaggageHallModel", "done", "I", false)
  | 27 => ("BaggageHallModel", "failure", "I", false)
  | 28 => ("BaggageHallModel", "failedBy", "I", false)
  | 29 => ("BaggageHallModel", "failedAt", "I", false)
  | 30 => ("BaggageHallModel", "raised", "I", false)
  | 31 => ("BaggageHallModel", "guarded", "I", false)
  | _ => ("BaggageHallModel", "caught", "[I", true)
def tyX6 : Nat → FieldType := fun k => match k with
  | 0 => .int
  | 1 => .array .int
  | 2 => .array .int
  | 3 => .array .int
  | 4 => .array .int
  | 5 => .int
  | 6 => .array .int
  | 7 => .array .int
  | 8 => .array .int
  | 9 => .array .int
  | 10 => .int
  | 11 => .array .int
  | 12 => .array .int
  | 13 => .array .int
  | 14 => .array .int
  | 15 => .array .int
  | 16 => .array .int
  | 17 => .array .int
  | 18 => .array .int
  | 19 => .array .int
  | 20 => .array .int
  | 21 => .array .int
  | 22 => .array .boolean
  | 23 => .array .int
  | 24 => .array .int
  | 25 => .int
  | 26 => .int
  | 27 => .int
  | 28 => .int
  | 29 => .int
  | 30 => .int
  | 31 => .int
  | _ => .array .int
abbrev wsX60 : List Cond := u_ws RX6 TX6 33
theorem nmX6 : ∀ a, a < 33 → ∀ b, b < 33 → a ≠ b → (TX6 a).2.1 ≠ (TX6 b).2.1 := by decide +kernel
theorem tyX6_ok : ∀ k, k < 33 → parseFieldDescriptor (TX6 k).2.2.1 = some (tyX6 k) := by decide +kernel
abbrev cX6_init : ByteArray := prog_8_method_1_code
def yX6_init : MethodName := ⟨RX6, "<init>", "()V"⟩
abbrev cX6_in : ByteArray := prog_8_method_3_code
def yX6_in : MethodName := ⟨RX6, "in", "(III)Z"⟩
abbrev cX6_begin : ByteArray := prog_8_method_4_code
def yX6_begin : MethodName := ⟨RX6, "begin", "(I)V"⟩
abbrev cX6_isPlace : ByteArray := prog_8_method_5_code
def yX6_isPlace : MethodName := ⟨RX6, "isPlace", "(I)Z"⟩
abbrev cX6_isRegister : ByteArray := prog_8_method_6_code
def yX6_isRegister : MethodName := ⟨RX6, "isRegister", "(I)Z"⟩
abbrev cX6_isRight : ByteArray := prog_8_method_7_code
def yX6_isRight : MethodName := ⟨RX6, "isRight", "(IIII)Z"⟩
abbrev cX6_act : ByteArray := prog_8_method_8_code
def yX6_act : MethodName := ⟨RX6, "act", "(IIII)I"⟩
abbrev cX6_guard : ByteArray := prog_8_method_9_code
def yX6_guard : MethodName := ⟨RX6, "guard", "(IIII)I"⟩
abbrev cX6_clear : ByteArray := prog_8_method_10_code
def yX6_clear : MethodName := ⟨RX6, "clear", "()I"⟩
abbrev cX6_isOf : ByteArray := prog_8_method_11_code
def yX6_isOf : MethodName := ⟨RX6, "isOf", "(II)Z"⟩
abbrev cX6_isSize : ByteArray := prog_8_method_12_code
def yX6_isSize : MethodName := ⟨RX6, "isSize", "(I)Z"⟩
abbrev cX6_isThere : ByteArray := prog_8_method_13_code
def yX6_isThere : MethodName := ⟨RX6, "isThere", "(Z)Z"⟩
abbrev cX6_isIndex : ByteArray := prog_8_method_14_code
def yX6_isIndex : MethodName := ⟨RX6, "isIndex", "(II)Z"⟩
abbrev cX6_belts : ByteArray := prog_8_method_15_code
def yX6_belts : MethodName := ⟨RX6, "belts", "(IIII)V"⟩
abbrev cX6_stamped : ByteArray := prog_8_method_16_code
def yX6_stamped : MethodName := ⟨RX6, "stamped", "(I)I"⟩
abbrev cX6_feed : ByteArray := prog_8_method_17_code
def yX6_feed : MethodName := ⟨RX6, "feed", "(II)V"⟩
abbrev cX6_one : ByteArray := prog_8_method_18_code
def yX6_one : MethodName := ⟨RX6, "one", "(III)V"⟩
abbrev cX6_counts : ByteArray := prog_8_method_19_code
def yX6_counts : MethodName := ⟨RX6, "counts", "(IIII)V"⟩
abbrev cX6_rest : ByteArray := prog_8_method_20_code
def yX6_rest : MethodName := ⟨RX6, "rest", "(IIII)V"⟩
abbrev cX6_goOn : ByteArray := prog_8_method_21_code
def yX6_goOn : MethodName := ⟨RX6, "goOn", "()V"⟩
abbrev cX6_fails : ByteArray := prog_8_method_22_code
def yX6_fails : MethodName := ⟨RX6, "fails", "(I)V"⟩
abbrev cX6_run : ByteArray := prog_8_method_23_code
def yX6_run : MethodName := ⟨RX6, "run", "(II)I"⟩
abbrev cX6_told : ByteArray := prog_8_method_24_code
def yX6_told : MethodName := ⟨RX6, "told", "(I)I"⟩
abbrev cX6_caught : ByteArray := prog_8_method_25_code
def yX6_caught : MethodName := ⟨RX6, "caught", "(I)I"⟩
abbrev cX6_register : ByteArray := prog_8_method_26_code
def yX6_register : MethodName := ⟨RX6, "register", "(I)I"⟩
abbrev cX6_item : ByteArray := prog_8_method_27_code
def yX6_item : MethodName := ⟨RX6, "item", "(II)I"⟩
abbrev cX6_row : ByteArray := prog_8_method_28_code
def yX6_row : MethodName := ⟨RX6, "row", "(II)I"⟩
abbrev cX6_onBelt : ByteArray := prog_8_method_29_code
def yX6_onBelt : MethodName := ⟨RX6, "onBelt", "(II)I"⟩
abbrev cX6_counted : ByteArray := prog_8_method_30_code
def yX6_counted : MethodName := ⟨RX6, "counted", "(II)I"⟩
def RL : String := "BaggageHallLaw"
abbrev cL_law : ByteArray := code
def yL_law : MethodName := ⟨RL, "law", "([I)Z"⟩
abbrev vwCl : List vw_C := [(RX0, TX0, 9), (RX1, TX1, 4), (RX2, TX2, 10), (RX3, TX3, 6), (RX4, TX4, 3), (RX5, TX5, 3), (RX6, TX6, 33)]
